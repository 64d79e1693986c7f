/-! rows for what answers an array, and for worlds of which a part is kept -/
section QR
variable {p : Program} {l : Launch} {e : Env} {R : Room} {s : State} {m : MethodId} {args : Array Value} {below : List Frame} {meth : Method} {c : Code} {H : Heap} {locs : List Loc} {cells slots : Nat} {Q : State → Prop}
variable {cc : ByteArray} {nL : Nat} {Ts : List Cond} {own : String} {D : va_G} {g : Nat → ClassId} {A : Nat → Prop} {H0 : Heap} {w w0 : va_W} {pc : Nat} {ls : Array Slot} {rest st : List Value} {a : Nat}
theorem qW.pick {w' : va_W} (h : qW D g A H0 s w H locs) (is : List Nat) (hn : va_nd is = true) (hs : is.map (fun i => w[i]?) = w'.map some) : qW D g A H0 s w' H locs := by
  refine ⟨h.1.sub is ?_, h.2.1, h.2.2.1.sub is hn hs, h.2.2.2⟩
  have h9 : ∀ (js : List Nat) (v : va_W), js.map (fun i => w[i]?) = v.map some → js.filterMap (fun i => w[i]?) = v := by
    intro js
    induction js with
    | nil =>
      intro v hv
      cases v with
      | nil => rfl
      | cons x v => cases hv
    | cons j js ih =>
      intro v hv
      cases v with
      | nil => cases hv
      | cons x v =>
        simp only [List.map_cons, List.cons.injEq] at hv
        rw [List.filterMap_cons_some hv.1, ih v hv.2]
  exact h9 is w' hs
theorem pm_at {q : Nat × va_E} : ∀ {w : va_W} (k : Nat), w[k]? = some q → w.Perm ([q] ++ w.eraseIdx k) := by
  intro w
  induction w with
  | nil => intro k h; cases h
  | cons x w ih =>
    intro k h
    cases k with
    | zero => cases h; exact List.Perm.refl _
    | succ k => exact ((ih k h).cons x).trans (List.Perm.swap q x _)
theorem q_alen (C : CallFix p m c cc nL s args Ts own) (hW : qW D g A H0 s w H locs) (q0 t0 : Nat) {cA : ClassId} {n : Nat} {y : (Nat → Int32) ⊕ (Nat → Int64) ⊕ (Nat → UInt32) ⊕ (Nat → UInt64) ⊕ (Nat → Option Nat)} (ha : w[q0]? = some (a, .inl (cA, n, y))) {ty : FieldType} (ht : (tyA g)[t0]? = some (cA, ty)) (hdg : decode cc pc = .ok (.arraylength, 1))
    (kk : W p l e R s m args below meth c H locs cells slots Q (F0 m (pc + 1) ls (.int (nI n) :: rest))) : W p l e R s m args below meth c H locs cells slots Q (F0 m pc ls (.ref a :: rest)) :=
  va_alen C.1 C.2.1 hW.2.1 hW.1 q0 t0 ha ht rfl hdg kk
def qMr (l : Launch) (y : MethodName) (ws : List Cond) (rm : Room) (D : va_G) (g : Nat → ClassId) (av : List Value) (w : va_W) (sz : Nat) {S : Type} (post : S → Prop) (w' : S → Nat → va_W) (mc ms : Nat) : Prop :=
  Met l y ws rm (qPc D g av w sz) (va_Qr post (fun u a t => qB D g w sz (fun v => w' v a) u t) (va_A w sz)) mc ms (va_A w sz)
theorem q_rret {S : Type} {post : S → Prop} {sz mc ms : Nat} {w' : S → Nat → va_W} {rt : FieldType} (C : CallFix p m c cc nL s args Ts own) (hr : meth.sig.returnType = some rt) (hrt : (∃ n, rt = .object n) ∨ ∃ t, rt = .array t) (hk : meth.locks = false) (hW : qW D g (va_A w0 sz) s.heap s w H locs) (u : S) (hp : post u) (hw : w = w' u a) (hc : cells ≤ mc) (hs : slots ≤ ms) (hdg : decode cc pc = .ok (.areturn, 1)) :
    W p l e R s m args below meth c H locs cells slots (MQ below (va_Qr post (fun u a t => qB D g w0 sz (fun v => w' v a) u t) (va_A w0 sz)) args s mc ms (va_A w0 sz)) (F0 m pc ls [.ref a]) := by
  subst hw
  refine W.widen hc hs ?_
  exact W.aret C.1 C.2.1 hr hrt (Or.inr ⟨a, rfl⟩) (fun t ht hW9 => ⟨⟨u, a, rfl, hp, by rw [ht]; exact hW.1, va_K.moved hW9.alike hW.2.1, hW.2.2.1⟩, hW.2.2.2.1.F ht⟩) hW.2.2.2.1.2.2 hdg
variable {S : Type} {y : MethodName} {wsy wsy' : List Cond} {rm : Room} {b ci index maxL mc ms : Nat} {bytes : ByteArray} {ret : Option FieldType} {As fs : List Value} {wc wr : va_W} {w1 : S → Nat → va_W} {q : vw_C}
theorem q_callSr {post : S → Prop} (C : CallFix p m c cc nL s args Ts own) (hM : qMr l y wsy rm D g As wc H.size post w1 mc ms) (hT : GoodIn Ts (va_wsS own index y wsy)) (hw : wsy = Cond.code y bytes maxL ret :: wsy') (hrc : rm.cells = mc) (hrs : rm.slots = ms)
    (hd : y.cls ≠ "java/lang/invoke/MethodHandle" ∧ y.cls ≠ "java/lang/invoke/VarHandle" ∧ (parseMethodDescriptor y.desc).map (fun d => d.parameters.length) = some As.length) (hR : rm.frames + 1 ≤ R.frames ∧ 8 + (maxL + 11) + rm.locals ≤ R.locals)
    (hW : qW D g A H0 s w H locs) (hp : w.Perm (wc ++ wr)) (W' : S → Nat → va_W) (hp' : ∀ u a, (W' u a).Perm (w1 u a ++ wr)) (hl : ls.size = nL) (hst : st = As.reverse ++ rest) (hrm : (rest.map fun v => v.category).sum ≤ 8) (hf : cells + mc ≤ R.cells ∧ slots + ms ≤ R.slots)
    (hdg : decode cc pc = .ok (.invokestatic index, 3))
    (kk : ∀ (u : S) (r : Nat) (H1 : Heap) (locs1 : List Loc), post u → qW D g A H0 s (W' u r) H1 locs1 → W p l e R s m args below meth c H1 locs1 (cells + mc) (slots + ms) Q (F0 m (pc + 3) ls (.ref r :: rest))) : W p l e R s m args below meth c H locs cells slots Q (F0 m pc ls st) :=
  va_callr (va_runS C hM (va_cwS As.length C.2.2.2.2 hT hw hrc hrs hd hR) (q_preS hW hp) rfl rfl hl hst (lv_room hrm) hdg hf) hW.2.2.2.1 (fun z _ h => q_free hW hp z h) (q_free hW hp) (fun u r t H1 locs1 ht _ hpo hB _ hk hS => kk u r H1 locs1 hpo (q_back hW hp (W' := fun u => W' u r) (w1 := fun u => w1 u r) (fun u => hp' u r) ht hB hk hS))
/-- a new array whose length is a number that is known to be small -/
theorem q_newaV (C : CallFix p m c cc nL s args Ts own) (hW : qW D g A H0 s w H locs) {atype : ArrayType} {ty : FieldType} (hty : newarray.typeOf atype = ty) {cA : ClassId} (t0 : Nat) (ht : (tyA g)[t0]? = some (cA, ty)) (hra : ∀ (U : State) (c9 : ClassId), va_RA U c9 ty → U.vm.findClass ("[" ++ ty.toString) = some c9) (harr : (Cond.arrayClass (newarray.typeOf atype)).before args s = true)
    {N' : Nat} (K S' : Nat) (a0 : vp_A) (ha : ∀ c9 : ClassId, vp_cell c9 a0 = arrV c9 N' (fun _ => defaultValue ty)) (hn : N' ≤ 65536) (hb8 : componentBytes ty ≤ 8) (hcells : cells + 1 ≤ R.cells) (hslots : slots + N' ≤ R.slots) (hk1 : cells + 1 ≤ K) (hs1 : slots + N' ≤ S') (hdg : decode cc pc = .ok (.newarray atype, 2))
    (kk : ∀ (q : Nat) (H1 : Heap), qW D g A H0 s (w ++ [(q, .inl (cA, a0))]) H1 locs → W p l e R s m args below meth c H1 locs K S' Q (F0 m (pc + 2) ls (.ref q :: rest))) : W p l e R s m args below meth c H locs cells slots Q (F0 m pc ls (.int (nI N') :: rest)) :=
  q_newa C hW hty t0 ht hra harr a0 ha (by omega) (Nat.le_trans (Nat.mul_le_mul hn hb8) (by decide)) hcells hslots hdg (fun q H1 hW1 => W.widen hk1 hs1 (kk q H1 hW1))
end QR
theorem growN_0 (f : Nat → Nat) : (fun _ => 0) = growN f 0 := by
  funext j
  unfold growN
  rw [if_neg (by omega)]
theorem growN_s (f : Nat → Nat) (i : Nat) : va_up (growN f i) i (f i) = growN f (i + 1) := by
  funext j
  unfold va_up growN
  by_cases h : j = i
  · subst h; rw [if_pos rfl, if_pos (by omega)]
  · rw [if_neg h]
    by_cases h2 : j < i
    · rw [if_pos h2, if_pos (by omega)]
    · rw [if_neg h2, if_neg (by omega)]
theorem growC_0 (f : Nat → UInt16) : (fun _ => 0) = growC f 0 := by
  funext j
  unfold growC
  rw [if_neg (by omega)]
theorem growC_s (f : Nat → UInt16) (i : Nat) : va_up (growC f i) i (f i) = growC f (i + 1) := by
  funext j
  unfold va_up growC
  by_cases h : j = i
  · subst h; rw [if_pos rfl, if_pos (by omega)]
  · rw [if_neg h]
    by_cases h2 : j < i
    · rw [if_pos h2, if_pos (by omega)]
    · rw [if_neg h2, if_neg (by omega)]
