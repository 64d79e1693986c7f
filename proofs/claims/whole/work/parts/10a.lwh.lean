/-! The law's helpers: a static method that calls the class, with a row of handlers. -/
section LWH
def xN6 : List String := [iaN, isN, nsN, uoN, ioN, arN]
def qNC (U : State) : Prop := ∀ E ∈ xN6, ∀ T ∈ xN6, E ≠ T → va_Nc E T U
theorem qNC.moved {u U : State} (hvm : u.vm.Alike U.vm) (h : qNC u) : qNC U := fun E hE T hT hn => va_Nc.moved hvm (h E hE T hT hn)
def qPh (D : va_G) (g : Nat → ClassId) (ev : Nat × Nat × (Nat → Nat)) (av : List Value) (w : va_W) (sz : Nat) : Array Value → State → Prop := fun a U => qPe D g ev av w sz a U ∧ qNC U
variable {l : Launch} {y : MethodName} {ws ws' : List Cond} {rm : Room} {D : va_G} {g : Nat → ClassId} {ev : Nat × Nat × (Nat → Nat)} {av : List Value} {w : va_W} {sz : Nat} {S : Type} {w' : S → va_W} {mc ms : Nat} {cc : ByteArray} {nL : Nat}
theorem qh_blind : FrameBlind (qPh D g ev av w sz) := fun a U gg mk q => ⟨qe_blind a U gg mk q.1, qNC.moved (u := U) (U := U.calling gg mk a) (Vm.Alike.refl U.vm) q.2⟩
def qHi (l : Launch) (y : MethodName) (ws : List Cond) (rm : Room) (D : va_G) (g : Nat → ClassId) (ev : Nat × Nat × (Nat → Nat)) (av : List Value) (w : va_W) (sz : Nat) {S : Type} (post : Int32 → S → Prop) (w' : S → va_W) (mc ms : Nat) : Prop := Met l y ws rm (qPh D g ev av w sz) (va_Qi post (qB D g w sz w') (va_A w sz)) mc ms (va_A w sz)
theorem qh_entry {Qc : Array Value → State → Outcome → State → Prop} {ret : Option FieldType} {hh : List (Nat × Nat × Nat × Nat)} (hw : ws = Cond.codeWith y cc nL ret hh :: ws') (hy : plainName y.cls = true) (hn : (lg_sl av).length ≤ nL)
    (body : ∀ (p : Program) (e : Env) (s : State) (m : MethodId) (below : List Frame) (meth : Method) (c : Code) (ls : Array Slot), CallFix p m c cc nL s av.toArray ws y.cls → meth.sig.returnType = ret → meth.locks = false → s.heap.size = sz →
      qW D g (va_A w sz) s.heap s w s.heap [] → qE D g ev (va_A w sz) s s.heap → qNC s → c.exceptionTable.toList = tableOf hh → lv_has ls nL (lv_args 0 av) →
      W p l e rm s m av.toArray below meth c s.heap [] 0 0 (MQ below Qc av.toArray s mc ms (va_A w sz)) (F0 m 0 ls [])) : Met l y ws rm (qPh D g ev av w sz) Qc mc ms (va_A w sz) := by
  refine va_MetW (cc := cc) (maxL := nL) (ret := ret) (hh := hh) hy hw ?_
  intro p e s m args below meth c s₁ B hml hv
  obtain ⟨⟨rfl, hsz, hP, hK, hD0, hE⟩, hN⟩ := hv
  have ht : c.exceptionTable.toList = tableOf hh := vx_table (x := y) B (atoms_spec (ws := ws) B.pre _ (by rw [hw]; exact List.mem_cons_self))
  have hl := lv_entry av (n := nL) hn
  rw [lg_entry_eq]
  generalize (lg_sl av ++ List.replicate (nL - (lg_sl av).length) Slot.unset).toArray = ls at hl ⊢
  refine body p e s m below meth c ls ⟨B.exec, B.bytes, hml, findClass_of_methodNamed B.named, atoms_spec (ws := ws) B.pre⟩ B.returns B.notSynchronized hsz ⟨hP, hK, ?_, va_S.rf, fun q h => Or.inr (by rw [← hsz]; exact h)⟩ hE hN ht hl
  exact hD0.self
end LWH
section LWC
variable {p : Program} {l : Launch} {e : Env} {R : Room} {s : State} {m : MethodId} {args : Array Value} {below : List Frame} {meth : Method} {c : Code} {H : Heap} {locs : List Loc} {cells slots : Nat} {Q : State → Prop}
variable {cc : ByteArray} {nL : Nat} {Ts : List Cond} {own : String} {D : va_G} {g : Nat → ClassId} {ev : Nat × Nat × (Nat → Nat)} {A : Nat → Prop} {w : va_W} {pc : Nat} {ls : Array Slot} {rest st : List Value} {a : Nat}
variable {S : Type} {y x : MethodName} {wsy wsy' : List Cond} {rm : Room} {b ci index maxL mc ms : Nat} {bytes : ByteArray} {ret : Option FieldType} {As fs : List Value} {wc wr : va_W} {w1 : S → va_W} {q : vw_C} {px : String → S → Prop}
/-- a call in the reach of handlers: what stands when it comes back by a throw -/
abbrev qh_X (p : Program) (l : Launch) (e : Env) (R : Room) (s : State) (m : MethodId) (args : Array Value) (below : List Frame) (meth : Method) (c : Code) (D : va_G) (g : Nat → ClassId) (A : Nat → Prop) {S : Type} (px : String → S → Prop) (W' : S → va_W) (cells slots : Nat) (Q : State → Prop) (gg : JFrame) : Prop :=
  ∀ (E : String) (u : S) (ce : Cell) (q9 : Addr) (H1 : Heap) (locs1 : List Loc), px E u → qW D g A s.heap s (W' u) H1 locs1 → H1[q9]? = some ce → ce.vm = .none → s.vm.findClass E = some ce.cls → vx_W p l e R s m args below meth c H1 locs1 cells slots Q gg q9
theorem qh_callVi {post : Int32 → S → Prop} (C : CallFix p m c cc nL s args Ts own) (hE : qE D g ev A s s.heap) (hM : qXi l y wsy rm D g ev (.ref b :: As) wc H.size post px w1 mc ms) (hT : GoodIn Ts (wsV own index q.1 y wsy)) (hw : wsy = Cond.code y bytes maxL ret :: wsy') (hrc : rm.cells = mc) (hrs : rm.slots = ms)
    (hd : y.cls = q.1 ∧ y.cls ≠ "java/lang/invoke/MethodHandle" ∧ y.cls ≠ "java/lang/invoke/VarHandle" ∧ (parseMethodDescriptor y.desc).map (fun d => d.parameters.length) = some As.length) (hR : rm.frames + 1 ≤ R.frames ∧ 8 + (maxL + 11) + rm.locals ≤ R.locals)
    (hW : qW D g A s.heap s w H locs) (hp : w.Perm (wc ++ wr)) (W' : S → va_W) (hp' : ∀ u, (W' u).Perm (w1 u ++ wr)) (hc : vwCl[ci]? = some q) (he : wc[0]? = some (b, .inr (ci, fs))) (hl : ls.size = nL) (hst : st = As.reverse ++ .ref b :: rest) (hrm : (rest.map fun v => v.category).sum ≤ 8) (hf : cells + mc ≤ R.cells ∧ slots + ms ≤ R.slots)
    (hdg : decode cc pc = .ok (.invokevirtual index, 3)) (kx : qh_X p l e R s m args below meth c D g A px W' (cells + mc) (slots + ms) Q (F0 m pc ls rest))
    (kk : ∀ (r : Int32) (u : S) (H1 : Heap) (locs1 : List Loc), post r u → qW D g A s.heap s (W' u) H1 locs1 → W p l e R s m args below meth c H1 locs1 (cells + mc) (slots + ms) Q (F0 m (pc + 3) ls (.int r :: rest))) : W p l e R s m args below meth c H locs cells slots Q (F0 m pc ls st) :=
  vx_calli (vx_runV C hM (cwV As.length C.2.2.2.2 hT hw hrc hrs hd hR) (qe_preV hE hW hp hc he) rfl rfl hl hst (lv_room hrm) hdg hf) hW.2.2.2.1 (fun z _ h => q_free hW hp z h) (q_free hW hp) (fun z _ h => q_free hW hp z h)
    (fun E ce q9 u t H1 locs1 ht hal _ hBX hz hk hS hcell hv hcl => kx E u ce q9 H1 locs1 hBX.1 (q_back hW hp hp' ht hBX.2 hk hS) hcell hv hcl)
    (fun r u t H1 locs1 ht _ hpo hB _ hk hS => kk r u H1 locs1 hpo (q_back hW hp hp' ht hB hk hS))
theorem qh_callVl {post : Int64 → S → Prop} (C : CallFix p m c cc nL s args Ts own) (hE : qE D g ev A s s.heap) (hM : qXl l y wsy rm D g ev (.ref b :: As) wc H.size post px w1 mc ms) (hT : GoodIn Ts (wsV own index q.1 y wsy)) (hw : wsy = Cond.code y bytes maxL ret :: wsy') (hrc : rm.cells = mc) (hrs : rm.slots = ms)
    (hd : y.cls = q.1 ∧ y.cls ≠ "java/lang/invoke/MethodHandle" ∧ y.cls ≠ "java/lang/invoke/VarHandle" ∧ (parseMethodDescriptor y.desc).map (fun d => d.parameters.length) = some As.length) (hR : rm.frames + 1 ≤ R.frames ∧ 8 + (maxL + 11) + rm.locals ≤ R.locals)
    (hW : qW D g A s.heap s w H locs) (hp : w.Perm (wc ++ wr)) (W' : S → va_W) (hp' : ∀ u, (W' u).Perm (w1 u ++ wr)) (hc : vwCl[ci]? = some q) (he : wc[0]? = some (b, .inr (ci, fs))) (hl : ls.size = nL) (hst : st = As.reverse ++ .ref b :: rest) (hrm : (rest.map fun v => v.category).sum ≤ 8) (hf : cells + mc ≤ R.cells ∧ slots + ms ≤ R.slots)
    (hdg : decode cc pc = .ok (.invokevirtual index, 3)) (kx : qh_X p l e R s m args below meth c D g A px W' (cells + mc) (slots + ms) Q (F0 m pc ls rest))
    (kk : ∀ (r : Int64) (u : S) (H1 : Heap) (locs1 : List Loc), post r u → qW D g A s.heap s (W' u) H1 locs1 → W p l e R s m args below meth c H1 locs1 (cells + mc) (slots + ms) Q (F0 m (pc + 3) ls (.long r :: rest))) : W p l e R s m args below meth c H locs cells slots Q (F0 m pc ls st) :=
  vx_calll (vx_runV C hM (cwV As.length C.2.2.2.2 hT hw hrc hrs hd hR) (qe_preV hE hW hp hc he) rfl rfl hl hst (lv_room hrm) hdg hf) hW.2.2.2.1 (fun z _ h => q_free hW hp z h) (q_free hW hp) (fun z _ h => q_free hW hp z h)
    (fun E ce q9 u t H1 locs1 ht hal _ hBX hz hk hS hcell hv hcl => kx E u ce q9 H1 locs1 hBX.1 (q_back hW hp hp' ht hBX.2 hk hS) hcell hv hcl)
    (fun r u t H1 locs1 ht _ hpo hB _ hk hS => kk r u H1 locs1 hpo (q_back hW hp hp' ht hB hk hS))
theorem qh_callVf {post : UInt32 → S → Prop} (C : CallFix p m c cc nL s args Ts own) (hE : qE D g ev A s s.heap) (hM : qXf l y wsy rm D g ev (.ref b :: As) wc H.size post px w1 mc ms) (hT : GoodIn Ts (wsV own index q.1 y wsy)) (hw : wsy = Cond.code y bytes maxL ret :: wsy') (hrc : rm.cells = mc) (hrs : rm.slots = ms)
    (hd : y.cls = q.1 ∧ y.cls ≠ "java/lang/invoke/MethodHandle" ∧ y.cls ≠ "java/lang/invoke/VarHandle" ∧ (parseMethodDescriptor y.desc).map (fun d => d.parameters.length) = some As.length) (hR : rm.frames + 1 ≤ R.frames ∧ 8 + (maxL + 11) + rm.locals ≤ R.locals)
    (hW : qW D g A s.heap s w H locs) (hp : w.Perm (wc ++ wr)) (W' : S → va_W) (hp' : ∀ u, (W' u).Perm (w1 u ++ wr)) (hc : vwCl[ci]? = some q) (he : wc[0]? = some (b, .inr (ci, fs))) (hl : ls.size = nL) (hst : st = As.reverse ++ .ref b :: rest) (hrm : (rest.map fun v => v.category).sum ≤ 8) (hf : cells + mc ≤ R.cells ∧ slots + ms ≤ R.slots)
    (hdg : decode cc pc = .ok (.invokevirtual index, 3)) (kx : qh_X p l e R s m args below meth c D g A px W' (cells + mc) (slots + ms) Q (F0 m pc ls rest))
    (kk : ∀ (r : UInt32) (u : S) (H1 : Heap) (locs1 : List Loc), post r u → qW D g A s.heap s (W' u) H1 locs1 → W p l e R s m args below meth c H1 locs1 (cells + mc) (slots + ms) Q (F0 m (pc + 3) ls (.float r :: rest))) : W p l e R s m args below meth c H locs cells slots Q (F0 m pc ls st) :=
  vx_callf (vx_runV C hM (cwV As.length C.2.2.2.2 hT hw hrc hrs hd hR) (qe_preV hE hW hp hc he) rfl rfl hl hst (lv_room hrm) hdg hf) hW.2.2.2.1 (fun z _ h => q_free hW hp z h) (q_free hW hp) (fun z _ h => q_free hW hp z h)
    (fun E ce q9 u t H1 locs1 ht hal _ hBX hz hk hS hcell hv hcl => kx E u ce q9 H1 locs1 hBX.1 (q_back hW hp hp' ht hBX.2 hk hS) hcell hv hcl)
    (fun r u t H1 locs1 ht _ hpo hB _ hk hS => kk r u H1 locs1 hpo (q_back hW hp hp' ht hB hk hS))
theorem qh_callVd {post : UInt64 → S → Prop} (C : CallFix p m c cc nL s args Ts own) (hE : qE D g ev A s s.heap) (hM : qXd l y wsy rm D g ev (.ref b :: As) wc H.size post px w1 mc ms) (hT : GoodIn Ts (wsV own index q.1 y wsy)) (hw : wsy = Cond.code y bytes maxL ret :: wsy') (hrc : rm.cells = mc) (hrs : rm.slots = ms)
    (hd : y.cls = q.1 ∧ y.cls ≠ "java/lang/invoke/MethodHandle" ∧ y.cls ≠ "java/lang/invoke/VarHandle" ∧ (parseMethodDescriptor y.desc).map (fun d => d.parameters.length) = some As.length) (hR : rm.frames + 1 ≤ R.frames ∧ 8 + (maxL + 11) + rm.locals ≤ R.locals)
    (hW : qW D g A s.heap s w H locs) (hp : w.Perm (wc ++ wr)) (W' : S → va_W) (hp' : ∀ u, (W' u).Perm (w1 u ++ wr)) (hc : vwCl[ci]? = some q) (he : wc[0]? = some (b, .inr (ci, fs))) (hl : ls.size = nL) (hst : st = As.reverse ++ .ref b :: rest) (hrm : (rest.map fun v => v.category).sum ≤ 8) (hf : cells + mc ≤ R.cells ∧ slots + ms ≤ R.slots)
    (hdg : decode cc pc = .ok (.invokevirtual index, 3)) (kx : qh_X p l e R s m args below meth c D g A px W' (cells + mc) (slots + ms) Q (F0 m pc ls rest))
    (kk : ∀ (r : UInt64) (u : S) (H1 : Heap) (locs1 : List Loc), post r u → qW D g A s.heap s (W' u) H1 locs1 → W p l e R s m args below meth c H1 locs1 (cells + mc) (slots + ms) Q (F0 m (pc + 3) ls (.double r :: rest))) : W p l e R s m args below meth c H locs cells slots Q (F0 m pc ls st) :=
  vx_calld (vx_runV C hM (cwV As.length C.2.2.2.2 hT hw hrc hrs hd hR) (qe_preV hE hW hp hc he) rfl rfl hl hst (lv_room hrm) hdg hf) hW.2.2.2.1 (fun z _ h => q_free hW hp z h) (q_free hW hp) (fun z _ h => q_free hW hp z h)
    (fun E ce q9 u t H1 locs1 ht hal _ hBX hz hk hS hcell hv hcl => kx E u ce q9 H1 locs1 hBX.1 (q_back hW hp hp' ht hBX.2 hk hS) hcell hv hcl)
    (fun r u t H1 locs1 ht _ hpo hB _ hk hS => kk r u H1 locs1 hpo (q_back hW hp hp' ht hB hk hS))
/-- the k-th handler takes it, those ahead name other classes -/
theorem qh_catch {hh : List (Nat × Nat × Nat × Nat)} {E : String} {ce : Cell} {q9 : Addr} (C : CallFix p m c cc nL s args Ts own) (ht : c.exceptionTable.toList = tableOf hh) (hN : qNC s) (j : Nat) {h1 h2 h3 h4 : Nat} (hj : hh[j]? = some (h1, h2, h3, h4)) (hE6 : E ∈ xN6)
    (hpass : ∀ z ∈ hh.take j, z.2.2.2 ≠ 0 ∧ ∃ nm ∈ xN6, E ≠ nm ∧ (Cond.classLink own z.2.2.2 nm).before args s = true) (hcov : h1 ≤ pc ∧ pc < h2) (h0 : h4 ≠ 0) (hlink : (Cond.classLink own h4 E).before args s = true) (hcast : (Cond.castable E E).before args s = true)
    (hcell : H[q9]? = some ce) (hv : ce.vm = .none) (hcl : s.vm.findClass E = some ce.cls) (kk : W p l e R s m args below meth c H locs cells slots Q (F0 m h3 ls [.ref q9])) : vx_W p l e R s m args below meth c H locs cells slots Q (F0 m pc ls rest) q9 := by
  obtain ⟨hlt, ej⟩ := List.getElem?_eq_some_iff.mp hj
  refine vx_catch (name := E) C.2.2.2.1 (tableOf (hh.take j)) ⟨h1, h2, h3, h4⟩ (tableOf (hh.drop (j + 1))) ?_ (fun z hz => Or.inr ?_) ?_ h0 hlink hcast hcell hv hcl kk
  · rw [ht]
    unfold tableOf
    conv => lhs; rw [← List.take_append_drop j hh, List.drop_eq_getElem_cons hlt, ej]
    rw [List.map_append, List.map_cons]
  · unfold tableOf at hz
    obtain ⟨z0, hz0, rfl⟩ := List.mem_map.mp hz
    obtain ⟨a1, nm, a2, a3, a4⟩ := hpass z0 hz0
    exact ⟨a1, nm, a4, hN E hE6 nm a2 a3⟩
  · show (decide (h1 ≤ pc) && decide (pc < h2)) = true
    rw [decide_eq_true hcov.1, decide_eq_true hcov.2]; rfl
theorem np_n {P : (Nat × Nat × Nat × Nat) → Prop} : ∀ z ∈ ([] : List (Nat × Nat × Nat × Nat)), P z := fun _ h => nomatch h
theorem np_c {P : (Nat × Nat × Nat × Nat) → Prop} {z : Nat × Nat × Nat × Nat} {L : List (Nat × Nat × Nat × Nat)} (h : P z) (t : ∀ z ∈ L, P z) : ∀ z' ∈ z :: L, P z' := fun z' h' => (List.mem_cons.mp h').elim (fun e => by rw [e]; exact h) (t z')
theorem qh_preS {As : List Value} (hE : qE D g ev A s s.heap) (hN : qNC s) (hW : qW D g A s.heap s w H locs) (hp : w.Perm (wc ++ wr)) : PreS s H (qPh D g ev As wc H.size) As :=
  ⟨qh_blind, fun U hU hW9 => ⟨(qe_preS hE hW hp).2 U hU hW9, hN.moved hW9.alike⟩⟩
/-- a static call of a helper -/
theorem qh_callS {post : Int32 → S → Prop} {hh : List (Nat × Nat × Nat × Nat)} (C : CallFix p m c cc nL s args Ts own) (hE : qE D g ev A s s.heap) (hN : qNC s) (hM : qHi l y wsy rm D g ev As wc H.size post w1 mc ms) (hT : GoodIn Ts (va_wsS own index y wsy)) (hw : wsy = Cond.codeWith y bytes maxL ret hh :: wsy') (hrc : rm.cells = mc) (hrs : rm.slots = ms)
    (hd : y.cls ≠ "java/lang/invoke/MethodHandle" ∧ y.cls ≠ "java/lang/invoke/VarHandle" ∧ (parseMethodDescriptor y.desc).map (fun d => d.parameters.length) = some As.length) (hR : rm.frames + 1 ≤ R.frames ∧ 8 + (maxL + 11) + rm.locals ≤ R.locals)
    (hW : qW D g A s.heap s w H locs) (hp : w.Perm (wc ++ wr)) (W' : S → va_W) (hp' : ∀ u, (W' u).Perm (w1 u ++ wr)) (hl : ls.size = nL) (hst : st = As.reverse ++ rest) (hrm : (rest.map fun v => v.category).sum ≤ 8) (hf : cells + mc ≤ R.cells ∧ slots + ms ≤ R.slots)
    (hdg : decode cc pc = .ok (.invokestatic index, 3))
    (kk : ∀ (r : Int32) (u : S) (H1 : Heap) (locs1 : List Loc), post r u → qW D g A s.heap s (W' u) H1 locs1 → W p l e R s m args below meth c H1 locs1 (cells + mc) (slots + ms) Q (F0 m (pc + 3) ls (.int r :: rest))) : W p l e R s m args below meth c H locs cells slots Q (F0 m pc ls st) :=
  va_calli (vx_runSW C hM (vx_cwSW As.length C.2.2.2.2 hT hw hrc hrs hd hR) (qh_preS hE hN hW hp) rfl rfl hl hst (lv_room hrm) hdg hf) hW.2.2.2.1 (fun z _ h => q_free hW hp z h) (q_free hW hp) (fun r u t H1 locs1 ht _ hpo hB _ hk hS => kk r u H1 locs1 hpo (q_back hW hp hp' ht hB hk hS))
end LWC
/-- what a helper answers: 0 with the answer in the array, or the number of the exception -/
def hpost {ρ : Type} (z : Nat) (F : Nat × ρ × PX) (J : ρ → Int64) (r : Int32) (u : XS × (Nat → Int64)) : Prop := XOK z u.1 ∧ ∃ k rr, k ≤ 4 ∧ nI k = r ∧ F = (k, rr, pX u.1) ∧ (k = 0 → u.2 0 = J rr)
def hpostD {ρ : Type} (z : Nat) (F : Nat × ρ × PX) (J : ρ → UInt64) (r : Int32) (u : XS × (Nat → UInt64)) : Prop := XOK z u.1 ∧ ∃ k rr, k ≤ 4 ∧ nI k = r ∧ F = (k, rr, pX u.1) ∧ (k = 0 → u.2 0 = J rr)
def hpostR (z : Nat) (X : XS) (v : Int32) (r : Int32) (u : XS × (Nat → Int64)) : Prop := XOK z u.1 ∧ pX u.1 = pX X ∧ ∃ k, nI k = r ∧ ((k = 1 ∧ inR (sA (pX X)).length v = none) ∨ (k = 0 ∧ ∃ i rr, inR (sA (pX X)).length v = some i ∧ xRep (pX X) i rr ∧ u.2 0 = (nI rr).toInt64))
abbrev oL (g : Nat → ClassId) (o : Nat) (f : Nat → Int64) : va_W := [(o, .inl (g 4, 1, .inr (.inl f)))]
abbrev oD (g : Nat → ClassId) (o : Nat) (f : Nat → UInt64) : va_W := [(o, .inl (g 5, 1, .inr (.inr (.inr (.inl f)))))]
abbrev hw_L (g : Nat → ClassId) (A : Nat → Nat → Nat) (o : Nat) (u : XS × (Nat → Int64)) : va_W := oL g o u.2 ++ wX g A u.1
abbrev hw_D (g : Nat → ClassId) (A : Nat → Nat → Nat) (o : Nat) (u : XS × (Nat → UInt64)) : va_W := oD g o u.2 ++ wX g A u.1
theorem updL_0 (f : Nat → Int64) (x : Int64) : vp_updL f 0 x 0 = x := by unfold vp_updL; simp
theorem updD_0 (f : Nat → UInt64) (x : UInt64) : vf_upd f 0 x 0 = x := by unfold vf_upd; simp
theorem ex_of {a : Nat} {ρ : Type} {F : Nat × ρ} {r : ρ} (X : PX) (h : F = (a, r)) : (F.1, F.2, X) = (a, r, X) := by rw [h]
theorem f2d_ok {x : UInt32} (h : FP.Core.val32 x ≠ .nan) : FP.Core.val64 (FP.f2d x) ≠ .nan := by
  have h1 : FP.Core.fIsNaN x = false := by
    cases h9 : FP.Core.fIsNaN x with
    | false => rfl
    | true => exact absurd ((FP.Core.fIsNaN_iff x).mp h9) h
  rw [FP.f2d_core h1, FP.Core.val64_f2d, Ne, FP.Core.round_nan]
  exact h
theorem xShare_f2d {z : Nat} {X : XS} (hX : XOK z X) {rr : UInt32} (h : xShareF (pX X) = (0, rr)) : vf_n64 (FP.f2d rr) := by
  unfold xShareF at h
  by_cases e : (sA (pX X)).length = 0
  · rw [if_pos e] at h; cases h
  · rw [if_neg e] at h
    cases h
    have := hX.len.1
    rw [hX.alen] at this
    exact n64_of (f2d_ok (fdiv_ok _ (by omega) (by omega)))
section LWD
variable {p : Program} {l : Launch} {e : Env} {R : Room} {s : State} {m : MethodId} {args : Array Value} {below : List Frame} {meth : Method} {c : Code} {H : Heap} {locs : List Loc} {cells slots : Nat} {Q : State → Prop}
variable {cc : ByteArray} {nL : Nat} {Ts : List Cond} {own : String} {D : va_G} {g : Nat → ClassId} {A : Nat → Prop} {H0 : Heap} {w : va_W} {pc : Nat} {ls : Array Slot} {rest : List Value} {a : Nat}
theorem q_dast (C : CallFix p m c cc nL s args Ts own) (hW : qW D g A H0 s w H locs) (q0 : Nat) {n : Nat} {f : Nat → UInt64} (ha : w[q0]? = some (a, .inl (g 5, n, .inr (.inr (.inr (.inl f)))))) {k : Nat} (hk : k < n) (hn : n < 2 ^ 31) {x : UInt64} (w' : va_W) (hw : w.set q0 (a, .inl (g 5, n, .inr (.inr (.inr (.inl (vf_upd f k x)))))) = w') (hdg : decode cc pc = .ok (.dastore, 1))
    (kk : ∀ (H1 : Heap) (locs1 : List Loc), qW D g A H0 s w' H1 locs1 → W p l e R s m args below meth c H1 locs1 cells slots Q (F0 m (pc + 1) ls rest)) : W p l e R s m args below meth c H locs cells slots Q (F0 m pc ls (.double x :: .int (nI k) :: .ref a :: rest)) := by
  subst hw
  refine va_dast C.1 C.2.1 hW.2.1 hW.1 hW.2.2.1 hW.2.2.2.1 q0 5 ha rfl (vp_in_nI hk hn) hdg (fun H1 locs1 h1 h2 h3 => ?_)
  rw [nI_clamp (by omega)] at h1 h2
  exact kk H1 locs1 ⟨h1, hW.2.1, h2, h3, hW.2.2.2.2⟩
end LWD
