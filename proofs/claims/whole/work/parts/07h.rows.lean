/-! floats: no answer of the two is a NaN -/
def ffin (d : FP.Core.Datum) : Bool := match d with
  | .fin _ c _ => decide (¬ c = 0)
  | _ => false
theorem ffin_of {d : FP.Core.Datum} (h : ffin d = true) : ∃ s c q, d = .fin s c q ∧ c ≠ 0 := by
  cases d with
  | nan => cases h
  | inf s => cases h
  | fin s c q => exact ⟨s, c, q, rfl, of_decide_eq_true h⟩
theorem i2f_ok : ∀ n, n < 513 → 0 < n → ffin (FP.Core.val32 (FP.i2f (nI n))) = true := by decide +kernel
theorem i2d_ok : ∀ n, n < 513 → 0 < n → ffin (FP.Core.val64 (FP.i2d (nI n))) = true := by decide +kernel
theorem quo_ok {f : FP.Core.Fmt} {x y : FP.Core.Datum} (hx : x ≠ .nan) (hy : ffin y = true) : FP.Core.quotient f x y ≠ .nan := by
  obtain ⟨s, c, q, rfl, hc⟩ := ffin_of hy
  intro h
  rcases (FP.Core.quotient_nan f _ _).mp h with h | h | ⟨s', t', -, h⟩ | ⟨s', t', q', r', -, h⟩
  · exact hx h
  · cases h
  · cases h
  · cases h; exact hc rfl
theorem n32_of {r : UInt32} (h : FP.Core.val32 r ≠ .nan) : vf_n32 r := by
  have h1 := (FP.Core.ne_nan32 r).mp h
  unfold vf_n32
  rw [UInt32.le_iff_toNat_le, UInt32.toNat_and]
  rw [show (0x7fffffff : UInt32).toNat = 2 ^ 31 - 1 from rfl, Nat.and_two_pow_sub_one_eq_mod]
  exact h1
theorem n64_of {r : UInt64} (h : FP.Core.val64 r ≠ .nan) : vf_n64 r := by
  have h1 := (FP.Core.ne_nan r).mp h
  unfold vf_n64
  rw [UInt64.le_iff_toNat_le, UInt64.toNat_and]
  rw [show (0x7fffffffffffffff : UInt64).toNat = 2 ^ 63 - 1 from rfl, Nat.and_two_pow_sub_one_eq_mod]
  exact h1
theorem v32_i2f (n : Int32) : FP.Core.val32 (FP.i2f n) ≠ .nan := by
  rw [FP.Core.val32_i2f, Ne, FP.Core.round_nan]
  exact FP.Core.Datum.noConfusion
theorem v64_l2d (n : Int64) : FP.Core.val64 (FP.l2d n) ≠ .nan := by
  rw [FP.Core.val64_l2d, Ne, FP.Core.round_nan]
  exact FP.Core.Datum.noConfusion
theorem fdiv_ok (x : Int32) {n : Nat} (h : 0 < n) (hn : n < 513) : FP.Core.val32 (FP.fdiv (FP.i2f x) (FP.i2f (nI n))) ≠ .nan := by
  rw [FP.Core.val32_fdiv]
  exact quo_ok (v32_i2f x) (i2f_ok n hn h)
theorem ddiv_ok (x : Int64) {n : Nat} (h : 0 < n) (hn : n < 513) : FP.Core.val64 (FP.ddiv (FP.l2d x) (FP.i2d (nI n))) ≠ .nan := by
  rw [FP.Core.val64_ddiv]
  exact quo_ok (v64_l2d x) (i2d_ok n hn h)
section QF
variable {p : Program} {l : Launch} {e : Env} {R : Room} {s : State} {m : MethodId} {args : Array Value} {below : List Frame} {meth : Method} {c : Code} {H : Heap} {locs : List Loc} {cells slots : Nat} {Q : State → Prop}
variable {cc : ByteArray} {nL : Nat} {Ts : List Cond} {own : String} {D : va_G} {g : Nat → ClassId} {w w0 : va_W} {pc : Nat} {ls : Array Slot} {rest st : List Value} {a : Nat}
theorem q_fret {S : Type} {post : UInt32 → S → Prop} {sz mc ms : Nat} {w' : S → va_W} {v : UInt32} (C : CallFix p m c cc nL s args Ts own) (hr : meth.sig.returnType = some .float) (hk : meth.locks = false) (hW : qW D g (va_A w0 sz) s.heap s w H locs) (u : S) (hp : post v u) (hw : w = w' u) (hc : cells ≤ mc) (hs : slots ≤ ms) (hdg : decode cc pc = .ok (.freturn, 1)) :
    W p l e R s m args below meth c H locs cells slots (MQ below (va_Qf post (qB D g w0 sz w') (va_A w0 sz)) args s mc ms (va_A w0 sz)) (F0 m pc ls [.float v]) := by
  subst hw
  refine W.widen hc hs ?_
  exact W.fret C.1 C.2.1 hr (fun t ht hW9 => ⟨⟨v, u, rfl, hp, by rw [ht]; exact hW.1, va_K.moved hW9.alike hW.2.1, hW.2.2.1⟩, hW.2.2.2.1.F ht⟩) hW.2.2.2.1.2.2 hdg
theorem q_dret {S : Type} {post : UInt64 → S → Prop} {sz mc ms : Nat} {w' : S → va_W} {v : UInt64} (C : CallFix p m c cc nL s args Ts own) (hr : meth.sig.returnType = some .double) (hk : meth.locks = false) (hW : qW D g (va_A w0 sz) s.heap s w H locs) (u : S) (hp : post v u) (hw : w = w' u) (hc : cells ≤ mc) (hs : slots ≤ ms) (hdg : decode cc pc = .ok (.dreturn, 1)) :
    W p l e R s m args below meth c H locs cells slots (MQ below (va_Qd post (qB D g w0 sz w') (va_A w0 sz)) args s mc ms (va_A w0 sz)) (F0 m pc ls [.double v]) := by
  subst hw
  refine W.widen hc hs ?_
  exact W.dret C.1 C.2.1 hr (fun t ht hW9 => ⟨⟨v, u, rfl, hp, by rw [ht]; exact hW.1, va_K.moved hW9.alike hW.2.1, hW.2.2.1⟩, hW.2.2.2.1.F ht⟩) hW.2.2.2.1.2.2 hdg
end QF
