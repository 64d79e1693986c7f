/-! ArrayList's methods that the class calls: a list is its object, with its array once it has one. -/
section ALR
variable {p : Program} {l : Launch} {e : Env} {R : Room} {s : State} {m : MethodId} {args : Array Value} {below : List Frame} {meth : Method} {c : Code} {H : Heap} {locs : List Loc} {cells slots : Nat} {Q : State → Prop}
variable {cc : ByteArray} {nL : Nat} {Ts : List Cond} {own : String} {D : va_G} {g : Nat → ClassId} {ev : Nat × Nat × (Nat → Nat)} {A : Nat → Prop} {H0 : Heap} {w w0 : va_W} {pc : Nat} {ls : Array Slot} {rest st : List Value} {a : Nat}
theorem q_getS (C : CallFix p m c cc nL s args Ts own) (hW : qW D g A H0 s w H locs) {ref K : String} {T : u_T} {N ci index : Nat} (q0 : Nat) {fs : List Value} (he : w[q0]? = some (a, .inr (ci, fs))) (hc : vwCl[ci]? = some (K, T, N)) (k : Nat) (hk : k < N) (hin : ∀ z ∈ u_ws K T N, z ∈ Ts)
    (hlink : (Cond.fieldLink own index ref (T k).2.1 (T k).2.2.1).before args s = true) (hr : ∀ x, s.fieldFound? (T k).1 (T k).2.1 (T k).2.2.1 = some x → s.fieldFound? ref (T k).2.1 (T k).2.2.1 = some x) {v : Value} (hv : fs[k]? = some v) (hdg : decode cc pc = .ok (.getfield index, 3))
    (kk : W p l e R s m args below meth c H locs cells slots Q (F0 m (pc + 3) ls (v :: rest))) : W p l e R s m args below meth c H locs cells slots Q (F0 m pc ls (.ref a :: rest)) :=
  va_get C.1 C.2.1 C.2.2.2.2 hin C.2.2.2.1 hW.2.1 hW.1 q0 he hc k hk hlink hr hv hdg kk
theorem q_putS (C : CallFix p m c cc nL s args Ts own) (hW : qW D g A H0 s w H locs) {ref K : String} {T : u_T} {N ci index : Nat} (q0 : Nat) {fs : List Value} (he : w[q0]? = some (a, .inr (ci, fs))) (hc : vwCl[ci]? = some (K, T, N)) (k : Nat) (hk : k < N) (hin : ∀ z ∈ u_ws K T N, z ∈ Ts) {ty0 : Nat → FieldType} (hty : ∀ k, k < N → parseFieldDescriptor (T k).2.2.1 = some (ty0 k)) (hnm : ∀ a, a < N → ∀ b, b < N → a ≠ b → (T a).2.1 ≠ (T b).2.1)
    (hlink : (Cond.fieldLink own index ref (T k).2.1 (T k).2.2.1).before args s = true) (hr : ∀ x, s.fieldFound? (T k).1 (T k).2.1 (T k).2.2.1 = some x → s.fieldFound? ref (T k).2.1 (T k).2.2.1 = some x) (hfin : (T k).2.2.2 = false) {v : Value} (hn : narrow (ty0 k) v = v) (hfit : fits (ty0 k) v = true) (hl : k < fs.length) (w' : va_W) (hw : w.set q0 (a, .inr (ci, fs.set k v)) = w') (hdg : decode cc pc = .ok (.putfield index, 3))
    (kk : ∀ (H1 : Heap) (locs1 : List Loc), qW D g A H0 s w' H1 locs1 → W p l e R s m args below meth c H1 locs1 cells slots Q (F0 m (pc + 3) ls rest)) : W p l e R s m args below meth c H locs cells slots Q (F0 m pc ls (v :: .ref a :: rest)) := by
  subst hw
  exact va_put C.1 C.2.1 C.2.2.2.2 hin ty0 hty hnm C.2.2.2.1 hW.2.1 hW.1 hW.2.2.1 hW.2.2.2.1 q0 he hc k hk hlink hr hfin (hty k hk) hn hfit hl hdg (fun H1 locs1 h1 h2 h3 => kk H1 locs1 ⟨h1, hW.2.1, h2, h3, hW.2.2.2.2⟩)
theorem q_ra (hW : qW D g A H0 s w H locs) : va_RA s (g 3) (.object "java/lang/Object") := (hW.2.1.2 3 _ rfl).2
theorem q_newq (C : CallFix p m c cc nL s args Ts own) (hW : qW D g A H0 s w H locs) {index : Nat} (hcl : (Cond.classLink own index "java/lang/Object").before args s = true) (hov : va_AO "java/lang/Object" s) {N' : Nat} (hn : N' < 2 ^ 20) (hcells : cells + 1 ≤ R.cells) (hslots : slots + N' ≤ R.slots) (hdg : decode cc pc = .ok (.anewarray index, 3))
    (kk : ∀ (q : Nat) (H1 : Heap), qW D g A H0 s (w ++ [(q, .inl (g 3, N', .inr (.inr (.inr (.inr (fun _ => none))))))]) H1 locs → W p l e R s m args below meth c H1 locs (cells + 1) (slots + N') Q (F0 m (pc + 3) ls (.ref q :: rest))) : W p l e R s m args below meth c H locs cells slots Q (F0 m pc ls (.int (nI N') :: rest)) := by
  refine va_newq C.1 C.2.1 C.2.2.2.1 hcl hov hW.2.1 hW.1 hW.2.2.1 hW.2.2.2.1 hW.2.2.2.2 (nI_pos (by omega)) (nI_clamp (by omega)) (by omega) hcells hslots hdg (fun q c9 H1 hK9 hP hD hS => ?_)
  have h1 := va_nmO (q_ra hW) rfl
  have h2 : va_RA s c9 (.object "java/lang/Object") := (hK9.2 (tyA g).length (c9, _) (by simp)).2
  have e : c9 = g 3 := Option.some.inj ((va_nmO h2 rfl).symm.trans h1)
  subst e
  exact kk q H1 ⟨hP, hW.2.1, hD, hS, hW.2.2.2.2⟩
theorem q_aldq (C : CallFix p m c cc nL s args Ts own) (hW : qW D g A H0 s w H locs) (q0 : Nat) {n : Nat} {f : Nat → Option Nat} (ha : w[q0]? = some (a, .inl (g 3, n, .inr (.inr (.inr (.inr f)))))) {k : Nat} (hk : k < n) (hn : n < 2 ^ 31) (hdg : decode cc pc = .ok (.aaload, 1))
    (kk : W p l e R s m args below meth c H locs cells slots Q (F0 m (pc + 1) ls (va_rf (f k) :: rest))) : W p l e R s m args below meth c H locs cells slots Q (F0 m pc ls (.int (nI k) :: .ref a :: rest)) := by
  refine va_aldq C.1 C.2.1 hW.2.1 hW.1 q0 3 ha rfl (vp_in_nI hk hn) hdg ?_
  rw [nI_clamp (by omega)]; exact kk
theorem asg_ev (hw : qTW s) : ∀ comp c0 : ClassId, s.vm.findClass "java/lang/Object" = some comp → s.vm.findClass RX1 = some c0 → s.vm.assignable c0 comp = true := by
  intro comp c0 h1 h2
  obtain ⟨c3, c4, hc3, hc4, hasg⟩ := Cond.castable_spec (hw.use (A := #[]) n_1216 rfl)
  cases Option.some.inj (hc3.symm.trans h2)
  cases Option.some.inj (hc4.symm.trans h1)
  exact hasg
theorem q_astq (C : CallFix p m c cc nL s args Ts own) (hT : qTW s) (hW : qW D g A H0 s w H locs) (q0 : Nat) {n : Nat} {f : Nat → Option Nat} (ha : w[q0]? = some (a, .inl (g 3, n, .inr (.inr (.inr (.inr f)))))) (kv : Nat) {v : Nat} {fs : List Value} (hv : w[kv]? = some (v, .inr (4, fs))) {k : Nat} (hk : k < n) (hn : n < 2 ^ 31) (w' : va_W) (hw : w.set q0 (a, .inl (g 3, n, .inr (.inr (.inr (.inr (va_up f k (some v))))))) = w') (hdg : decode cc pc = .ok (.aastore, 1))
    (kk : ∀ (H1 : Heap) (locs1 : List Loc), qW D g A H0 s w' H1 locs1 → W p l e R s m args below meth c H1 locs1 cells slots Q (F0 m (pc + 1) ls rest)) : W p l e R s m args below meth c H locs cells slots Q (F0 m pc ls (.ref v :: .int (nI k) :: .ref a :: rest)) := by
  subst hw
  refine va_astqM C.1 C.2.1 hW.2.1 hW.1 hW.2.2.1 hW.2.2.2.1 q0 3 ha rfl (va_rAny hW.2.1 hW.1 hv (r := (RX1, TX1, 6)) rfl (asg_ev hT)) (vp_in_nI hk hn) hdg (fun H1 locs1 h1 h2 h3 => ?_)
  rw [nI_clamp (by omega)] at h1 h2
  exact kk H1 locs1 ⟨h1, hW.2.1, h2, h3, hW.2.2.2.2⟩
theorem q_qret {S : Type} {post : Option Nat → S → Prop} {sz mc ms : Nat} {w' : S → va_W} {r : Option Nat} {rt : FieldType} (C : CallFix p m c cc nL s args Ts own) (hr : meth.sig.returnType = some rt) (hrt : (∃ n, rt = .object n) ∨ ∃ t, rt = .array t) (hk : meth.locks = false) (hW : qW D g (va_A w0 sz) s.heap s w H locs) (u : S) (hp : post r u) (hw : w = w' u) (hc : cells ≤ mc) (hs : slots ≤ ms) (hdg : decode cc pc = .ok (.areturn, 1)) :
    W p l e R s m args below meth c H locs cells slots (MQ below (va_Qq post (qB D g w0 sz w') (va_A w0 sz)) args s mc ms (va_A w0 sz)) (F0 m pc ls [va_rf r]) := by
  subst hw
  refine W.widen hc hs ?_
  exact W.aret C.1 C.2.1 hr hrt (va_rf_or r) (fun t ht hW9 => ⟨⟨r, u, rfl, hp, by rw [ht]; exact hW.1, va_K.moved hW9.alike hW.2.1, hW.2.2.1⟩, hW.2.2.2.1.F ht⟩) hW.2.2.2.1.2.2 hdg
def qNr (l : Launch) (y : MethodName) (ws : List Cond) (rm : Room) (D : va_G) (g : Nat → ClassId) (ev : Nat × Nat × (Nat → Nat)) (av : List Value) (w : va_W) (sz : Nat) {S : Type} (post : S → Prop) (w' : S → Nat → va_W) (mc ms : Nat) : Prop :=
  Met l y ws rm (qPe D g ev av w sz) (va_Qr post (fun u a t => qB D g w sz (fun v => w' v a) u t) (va_A w sz)) mc ms (va_A w sz)
variable {S : Type} {y x : MethodName} {wsy wsy' : List Cond} {rm : Room} {b ci index maxL mc ms count : Nat} {bytes : ByteArray} {ret : Option FieldType} {As fs : List Value} {wc wr : va_W} {q : vw_C}
theorem q_callVq {post : Option Nat → S → Prop} {w1 : S → va_W} (C : CallFix p m c cc nL s args Ts own) (hM : qMq l y wsy rm D g (.ref b :: As) wc H.size post w1 mc ms) (hT : GoodIn Ts (wsV own index q.1 y wsy)) (hw : wsy = Cond.code y bytes maxL ret :: wsy') (hrc : rm.cells = mc) (hrs : rm.slots = ms)
    (hd : y.cls = q.1 ∧ y.cls ≠ "java/lang/invoke/MethodHandle" ∧ y.cls ≠ "java/lang/invoke/VarHandle" ∧ (parseMethodDescriptor y.desc).map (fun d => d.parameters.length) = some As.length) (hR : rm.frames + 1 ≤ R.frames ∧ 8 + (maxL + 11) + rm.locals ≤ R.locals)
    (hW : qW D g A H0 s w H locs) (hp : w.Perm (wc ++ wr)) (W' : S → va_W) (hp' : ∀ u, (W' u).Perm (w1 u ++ wr)) (hc : vwCl[ci]? = some q) (he : wc[0]? = some (b, .inr (ci, fs))) (hl : ls.size = nL) (hst : st = As.reverse ++ .ref b :: rest) (hrm : (rest.map fun v => v.category).sum ≤ 8) (hf : cells + mc ≤ R.cells ∧ slots + ms ≤ R.slots)
    (hdg : decode cc pc = .ok (.invokevirtual index, 3))
    (kk : ∀ (r : Option Nat) (u : S) (H1 : Heap) (locs1 : List Loc), post r u → qW D g A H0 s (W' u) H1 locs1 → W p l e R s m args below meth c H1 locs1 (cells + mc) (slots + ms) Q (F0 m (pc + 3) ls (va_rf r :: rest))) : W p l e R s m args below meth c H locs cells slots Q (F0 m pc ls st) :=
  va_callq (va_runV C hM (cwV As.length C.2.2.2.2 hT hw hrc hrs hd hR) (q_preV hW hp hc he) rfl rfl hl hst (lv_room hrm) hdg hf) hW.2.2.2.1 (fun z _ h => q_free hW hp z h) (q_free hW hp) (fun r u t H1 locs1 ht _ hpo hB _ hk hS => kk r u H1 locs1 hpo (q_back hW hp hp' ht hB hk hS))
theorem qe_callVr {post : S → Prop} {w1 : S → Nat → va_W} (C : CallFix p m c cc nL s args Ts own) (hE : qE D g ev A s s.heap) (hM : qNr l y wsy rm D g ev (.ref b :: As) wc H.size post w1 mc ms) (hT : GoodIn Ts (wsV own index q.1 y wsy)) (hw : wsy = Cond.code y bytes maxL ret :: wsy') (hrc : rm.cells = mc) (hrs : rm.slots = ms)
    (hd : y.cls = q.1 ∧ y.cls ≠ "java/lang/invoke/MethodHandle" ∧ y.cls ≠ "java/lang/invoke/VarHandle" ∧ (parseMethodDescriptor y.desc).map (fun d => d.parameters.length) = some As.length) (hR : rm.frames + 1 ≤ R.frames ∧ 8 + (maxL + 11) + rm.locals ≤ R.locals)
    (hW : qW D g A s.heap s w H locs) (hp : w.Perm (wc ++ wr)) (W' : S → Nat → va_W) (hp' : ∀ u a, (W' u a).Perm (w1 u a ++ wr)) (hc : vwCl[ci]? = some q) (he : wc[0]? = some (b, .inr (ci, fs))) (hl : ls.size = nL) (hst : st = As.reverse ++ .ref b :: rest) (hrm : (rest.map fun v => v.category).sum ≤ 8) (hf : cells + mc ≤ R.cells ∧ slots + ms ≤ R.slots)
    (hdg : decode cc pc = .ok (.invokevirtual index, 3))
    (kk : ∀ (u : S) (r : Nat) (H1 : Heap) (locs1 : List Loc), post u → qW D g A s.heap s (W' u r) H1 locs1 → W p l e R s m args below meth c H1 locs1 (cells + mc) (slots + ms) Q (F0 m (pc + 3) ls (.ref r :: rest))) : W p l e R s m args below meth c H locs cells slots Q (F0 m pc ls st) :=
  va_callr (va_runV C hM (cwV As.length C.2.2.2.2 hT hw hrc hrs hd hR) (qe_preV hE hW hp hc he) rfl rfl hl hst (lv_room hrm) hdg hf) hW.2.2.2.1 (fun z _ h => q_free hW hp z h) (q_free hW hp) (fun u r t H1 locs1 ht _ hpo hB _ hk hS => kk u r H1 locs1 hpo (q_back hW hp (W' := fun u => W' u r) (w1 := fun u => w1 u r) (fun u => hp' u r) ht hB hk hS))
theorem qe_callSr {post : S → Prop} {w1 : S → Nat → va_W} (C : CallFix p m c cc nL s args Ts own) (hE : qE D g ev A s s.heap) (hM : qNr l y wsy rm D g ev As wc H.size post w1 mc ms) (hT : GoodIn Ts (va_wsS own index y wsy)) (hw : wsy = Cond.code y bytes maxL ret :: wsy') (hrc : rm.cells = mc) (hrs : rm.slots = ms)
    (hd : y.cls ≠ "java/lang/invoke/MethodHandle" ∧ y.cls ≠ "java/lang/invoke/VarHandle" ∧ (parseMethodDescriptor y.desc).map (fun d => d.parameters.length) = some As.length) (hR : rm.frames + 1 ≤ R.frames ∧ 8 + (maxL + 11) + rm.locals ≤ R.locals)
    (hW : qW D g A s.heap s w H locs) (hp : w.Perm (wc ++ wr)) (W' : S → Nat → va_W) (hp' : ∀ u a, (W' u a).Perm (w1 u a ++ wr)) (hl : ls.size = nL) (hst : st = As.reverse ++ rest) (hrm : (rest.map fun v => v.category).sum ≤ 8) (hf : cells + mc ≤ R.cells ∧ slots + ms ≤ R.slots)
    (hdg : decode cc pc = .ok (.invokestatic index, 3))
    (kk : ∀ (u : S) (r : Nat) (H1 : Heap) (locs1 : List Loc), post u → qW D g A s.heap s (W' u r) H1 locs1 → W p l e R s m args below meth c H1 locs1 (cells + mc) (slots + ms) Q (F0 m (pc + 3) ls (.ref r :: rest))) : W p l e R s m args below meth c H locs cells slots Q (F0 m pc ls st) :=
  va_callr (va_runS C hM (va_cwS As.length C.2.2.2.2 hT hw hrc hrs hd hR) (qe_preS hE hW hp) rfl rfl hl hst (lv_room hrm) hdg hf) hW.2.2.2.1 (fun z _ h => q_free hW hp z h) (q_free hW hp) (fun u r t H1 locs1 ht _ hpo hB _ hk hS => kk u r H1 locs1 hpo (q_back hW hp (W' := fun u => W' u r) (w1 := fun u => w1 u r) (fun u => hp' u r) ht hB hk hS))
/-- the length of the lists' first array -/
theorem qe_alen (C : CallFix p m c cc nL s args Ts own) (hE : qE D g ev A s s.heap) (hW : qW D g A s.heap s w H locs) (hdg : decode cc pc = .ok (.arraylength, 1))
    (kk : W p l e R s m args below meth c H locs cells slots Q (F0 m (pc + 1) ls (.int (nI 0) :: rest))) : W p l e R s m args below meth c H locs cells slots Q (F0 m pc ls (.ref ev.1 :: rest)) := by
  obtain ⟨cell, ty, h1, h2, h3⟩ := (hE.now rfl hW).2.2.2.1.1
  exact W.alen (n := nI 0) C.1 C.2.1 h1 h2 (by first | exact h3 | (rw [← h3] <;> rfl)) rfl rfl hdg kk
end ALR
abbrev ALs : Type := Nat × Nat × (Nat → Option Nat) × Int32 × Nat
abbrev alQ (a : ALs) : Nat := a.1
abbrev alN (a : ALs) : Nat := a.2.1
abbrev alF (a : ALs) : Nat → Option Nat := a.2.2.1
abbrev alM (a : ALs) : Int32 := a.2.2.2.1
abbrev alC (a : ALs) : Nat := a.2.2.2.2
def wA0 (h q : Nat) (m : Int32) (c : Nat) : va_W := [(h, .inr (2, [.int m, .ref q, .int (nI c)]))]
def wA1 (g : Nat → ClassId) (h q n : Nat) (f : Nat → Option Nat) (m : Int32) (c : Nat) : va_W := [(h, .inr (2, [.int m, .ref q, .int (nI c)])), (q, .inl (g 3, n, .inr (.inr (.inr (.inr f)))))]
def wAL (g : Nat → ClassId) (h : Nat) (a : ALs) : va_W := (h, .inr (2, [.int (alM a), .ref (alQ a), .int (nI (alC a))])) :: (if alN a = 0 then [] else [(alQ a, .inl (g 3, alN a, .inr (.inr (.inr (.inr (alF a))))))])
theorem wAL_0 {g : Nat → ClassId} {h : Nat} {a : ALs} (e : alN a = 0) : wAL g h a = wA0 h (alQ a) (alM a) (alC a) := by unfold wAL wA0; rw [if_pos e]
theorem wAL_mk {g : Nat → ClassId} {h q n : Nat} {f : Nat → Option Nat} {m : Int32} {c : Nat} (e : ¬ n = 0) : wAL g h (q, n, f, m, c) = wA1 g h q n f m c := by unfold wAL wA1; rw [if_neg e]
theorem wAL_1 {g : Nat → ClassId} {h : Nat} {a : ALs} (e : ¬ alN a = 0) : wAL g h a = wA1 g h (alQ a) (alN a) (alF a) (alM a) (alC a) := by unfold wAL wA1; rw [if_neg e]
theorem nI_max1 {k : Nat} (hk : 1 ≤ k) (h : k < 2 ^ 31) : (if nI 1 < nI k then nI k else nI 1) = nI k := by
  by_cases h9 : 1 < k
  · rw [if_pos (nI_lt h9 h)]
  · have h8 : k = 1 := by omega
    rw [if_neg (nI_nlt (by omega) (by decide)), h8]
set_option maxHeartbeats 4000000 in
set_option maxRecDepth 100000 in
theorem c_AL_size (l : Launch) (D : va_G) (g : Nat → ClassId) (h : Nat) (a : ALs) (sz : Nat) : qMi l yJx4a65c_size_8abf5 (.code yJx4a65c_size_8abf5 cJx4a65c_size_8abf5 1 (some .int) :: GW) ({ frames := 0, cells := 0, slots := 0, locals := 0 } : Room) D g [.ref h] (wAL g h a) sz (fun (r : Int32) (_ : Unit) => nI (alC a) = r) (fun _ => wAL g h a) 0 0 := by
  refine q_entry (cc := cJx4a65c_size_8abf5) (nL := 1) (ret := (some .int)) rfl (by decide) (Nat.le_of_ble_eq_true rfl) (fun pp ee ss mm bb mt kc ls C hRt hLk hin hsz hW hl => ?_)
  have hl : lv_has ls 1 [(0, .ref h)] := hl
  refine lv_aload_n C.1 C.2.1 dJx4a65c_size_8abf5_0 rfl (lv_at hl 0 rfl) ?_
  refine q_get (v := .int (nI (alC a))) C hW 0 rfl rfl 2 (by decide) gu_Jx4a65c (C.2.2.2.2 _ fl_Jx4a65c_48) rfl rfl dJx4a65c_size_8abf5_1 ?_
  exact q_iret C hRt hLk hW rfl () rfl rfl (Nat.le_of_ble_eq_true rfl) (Nat.le_of_ble_eq_true rfl) dJx4a65c_size_8abf5_4
set_option maxHeartbeats 4000000 in
set_option maxRecDepth 100000 in
theorem c_AL_isEmpty (l : Launch) (D : va_G) (g : Nat → ClassId) (h : Nat) (a : ALs) (hc : alC a < 2 ^ 31) (sz : Nat) : qMi l yJx4a65c_isEmpty_aae02 (.code yJx4a65c_isEmpty_aae02 cJx4a65c_isEmpty_aae02 1 (some .boolean) :: GW) ({ frames := 0, cells := 0, slots := 0, locals := 0 } : Room) D g [.ref h] (wAL g h a) sz (fun (r : Int32) (_ : Unit) => bI (decide (alC a = 0)) = r) (fun _ => wAL g h a) 0 0 := by
  refine q_entry (cc := cJx4a65c_isEmpty_aae02) (nL := 1) (ret := (some .boolean)) rfl (by decide) (Nat.le_of_ble_eq_true rfl) (fun pp ee ss mm bb mt kc ls C hRt hLk hin hsz hW hl => ?_)
  have hl : lv_has ls 1 [(0, .ref h)] := hl
  refine lv_aload_n C.1 C.2.1 dJx4a65c_isEmpty_aae02_0 rfl (lv_at hl 0 rfl) ?_
  refine q_get (v := .int (nI (alC a))) C hW 0 rfl rfl 2 (by decide) gu_Jx4a65c (C.2.2.2.2 _ fl_Jx4a65c_48) rfl rfl dJx4a65c_isEmpty_aae02_1 ?_
  refine q_zne (tgt := 11) C hc dJx4a65c_isEmpty_aae02_4 (by decide) (fun c_4 => ?_) (fun c_4 => ?_)
  · refine lv_iconst (v := nI 0) C.1 C.2.1 dJx4a65c_isEmpty_aae02_11 (by decide) ?_
    exact q_iret C hRt hLk hW (by decide) () (by rw [decide_eq_false c_4]; rfl) rfl (Nat.le_of_ble_eq_true rfl) (Nat.le_of_ble_eq_true rfl) dJx4a65c_isEmpty_aae02_12
  refine lv_iconst (v := nI 1) C.1 C.2.1 dJx4a65c_isEmpty_aae02_7 (by decide) ?_
  refine lv_goto (tgt := 12) C.1 C.2.1 dJx4a65c_isEmpty_aae02_8 (by decide) ?_
  exact q_iret C hRt hLk hW (by decide) () (by rw [decide_eq_true c_4]; rfl) rfl (Nat.le_of_ble_eq_true rfl) (Nat.le_of_ble_eq_true rfl) dJx4a65c_isEmpty_aae02_12
theorem hd_PCheck : yJ3_checkIndex_8e157.cls ≠ "java/lang/invoke/MethodHandle" ∧ yJ3_checkIndex_8e157.cls ≠ "java/lang/invoke/VarHandle" ∧ (parseMethodDescriptor yJ3_checkIndex_8e157.desc).map (fun d => d.parameters.length) = some 3 := by decide +kernel
set_option maxHeartbeats 4000000 in
set_option maxRecDepth 100000 in
theorem c_PCheck (l : Launch) (D : va_G) (g : Nat → ClassId) (i n : Nat) (hi : i < n) (hn : n < 2 ^ 31) (sz : Nat) : qMi l yJ3_checkIndex_8e157 (.code yJ3_checkIndex_8e157 cJ3_checkIndex_8e157 3 (some .int) :: GW) ({ frames := 0, cells := 0, slots := 0, locals := 0 } : Room) D g [.int (nI i), .int (nI n), .null] [] sz (fun (r : Int32) (_ : Unit) => nI i = r) (fun _ => []) 0 0 := by
  refine q_entry (cc := cJ3_checkIndex_8e157) (nL := 3) (ret := (some .int)) rfl (by decide) (Nat.le_of_ble_eq_true rfl) (fun pp ee ss mm bb mt kc ls C hRt hLk hin hsz hW hl => ?_)
  have hl : lv_has ls 3 [(0, .int (nI i)), (1, .int (nI n)), (2, .null)] := hl
  refine lv_iload_n C.1 C.2.1 dJ3_checkIndex_8e157_0 rfl (lv_at hl 0 rfl) ?_
  refine lv_if_lt (tgt := 9) C.1 C.2.1 dJ3_checkIndex_8e157_1 (by decide) (fun c_1 => absurd c_1 (nI_pos (by omega))) (fun c_1 => ?_)
  refine lv_iload_n C.1 C.2.1 dJ3_checkIndex_8e157_4 rfl (lv_at hl 0 rfl) ?_
  refine lv_iload_n C.1 C.2.1 dJ3_checkIndex_8e157_5 rfl (lv_at hl 1 rfl) ?_
  refine q_lt (tgt := 16) C (by omega) hn dJ3_checkIndex_8e157_6 (by decide) (fun c_6 => ?_) (fun c_6 => absurd c_6 (by omega))
  refine lv_iload_n C.1 C.2.1 dJ3_checkIndex_8e157_16 rfl (lv_at hl 0 rfl) ?_
  exact q_iret C hRt hLk hW rfl () rfl rfl (Nat.le_of_ble_eq_true rfl) (Nat.le_of_ble_eq_true rfl) dJ3_checkIndex_8e157_17
theorem hd_OCheck : yJ15_checkIndex_7cf53.cls ≠ "java/lang/invoke/MethodHandle" ∧ yJ15_checkIndex_7cf53.cls ≠ "java/lang/invoke/VarHandle" ∧ (parseMethodDescriptor yJ15_checkIndex_7cf53.desc).map (fun d => d.parameters.length) = some 2 := by decide +kernel
set_option maxHeartbeats 4000000 in
set_option maxRecDepth 100000 in
theorem c_OCheck (l : Launch) (D : va_G) (g : Nat → ClassId) (i n : Nat) (hi : i < n) (hn : n < 2 ^ 31) (sz : Nat) : qMi l yJ15_checkIndex_7cf53 (.code yJ15_checkIndex_7cf53 cJ15_checkIndex_7cf53 2 (some .int) :: GW) ({ frames := 1, cells := 0, slots := 0, locals := 30 } : Room) D g [.int (nI i), .int (nI n)] [] sz (fun (r : Int32) (_ : Unit) => nI i = r) (fun _ => []) 0 0 := by
  refine q_entry (cc := cJ15_checkIndex_7cf53) (nL := 2) (ret := (some .int)) rfl (by decide) (Nat.le_of_ble_eq_true rfl) (fun pp ee ss mm bb mt kc ls C hRt hLk hin hsz hW hl => ?_)
  have hl : lv_has ls 2 [(0, .int (nI i)), (1, .int (nI n))] := hl
  refine lv_iload_n C.1 C.2.1 dJ15_checkIndex_7cf53_0 rfl (lv_at hl 0 rfl) ?_
  refine lv_iload_n C.1 C.2.1 dJ15_checkIndex_7cf53_1 rfl (lv_at hl 1 rfl) ?_
  refine lv_null C.1 C.2.1 dJ15_checkIndex_7cf53_2 ?_
  refine q_callSi (rest := []) C (c_PCheck l D g i n hi hn _) (gw_S ml_J15_105 sm_J3_checkIndex_8e157 ini_J3 cd_J3_checkIndex_8e157 rfl) rfl rfl rfl hd_PCheck ⟨(Nat.le_of_ble_eq_true rfl), (Nat.le_of_ble_eq_true rfl)⟩ hW (List.Perm.refl _) (fun _ => []) (fun _ => List.Perm.refl _) hl.1 rfl (Nat.le_of_ble_eq_true rfl) ⟨(Nat.le_of_ble_eq_true rfl), (Nat.le_of_ble_eq_true rfl)⟩ dJ15_checkIndex_7cf53_3 (fun r _ H locs e hW => ?_)
  subst e
  exact q_iret C hRt hLk hW rfl () rfl rfl (Nat.le_of_ble_eq_true rfl) (Nat.le_of_ble_eq_true rfl) dJ15_checkIndex_7cf53_6
theorem hd_ALel : yJx4a65c_elementData_915e3.cls = RJx4a65c ∧ yJx4a65c_elementData_915e3.cls ≠ "java/lang/invoke/MethodHandle" ∧ yJx4a65c_elementData_915e3.cls ≠ "java/lang/invoke/VarHandle" ∧ (parseMethodDescriptor yJx4a65c_elementData_915e3.desc).map (fun d => d.parameters.length) = some 1 := by decide +kernel
set_option maxHeartbeats 4000000 in
set_option maxRecDepth 100000 in
theorem c_ALel (l : Launch) (D : va_G) (g : Nat → ClassId) (h q n : Nat) (f : Nat → Option Nat) (m : Int32) (c i : Nat) (hi : i < n) (hn : n < 2 ^ 31) (sz : Nat) : qMq l yJx4a65c_elementData_915e3 (.code yJx4a65c_elementData_915e3 cJx4a65c_elementData_915e3 2 (some (.object "java/lang/Object")) :: GW) ({ frames := 0, cells := 0, slots := 0, locals := 0 } : Room) D g [.ref h, .int (nI i)] (wA1 g h q n f m c) sz (fun (r : Option Nat) (_ : Unit) => f i = r) (fun _ => wA1 g h q n f m c) 0 0 := by
  refine q_entry (cc := cJx4a65c_elementData_915e3) (nL := 2) (ret := (some (.object "java/lang/Object"))) rfl (by decide) (Nat.le_of_ble_eq_true rfl) (fun pp ee ss mm bb mt kc ls C hRt hLk hin hsz hW hl => ?_)
  have hl : lv_has ls 2 [(0, .ref h), (1, .int (nI i))] := hl
  refine lv_aload_n C.1 C.2.1 dJx4a65c_elementData_915e3_0 rfl (lv_at hl 0 rfl) ?_
  refine q_get (v := .ref q) C hW 0 rfl rfl 1 (by decide) gu_Jx4a65c (C.2.2.2.2 _ fl_Jx4a65c_9) rfl rfl dJx4a65c_elementData_915e3_1 ?_
  refine lv_iload_n C.1 C.2.1 dJx4a65c_elementData_915e3_4 rfl (lv_at hl 1 rfl) ?_
  refine q_aldq C hW 1 rfl hi hn dJx4a65c_elementData_915e3_5 ?_
  exact q_qret C hRt (Or.inl ⟨_, rfl⟩) hLk hW () rfl rfl (Nat.le_of_ble_eq_true rfl) (Nat.le_of_ble_eq_true rfl) dJx4a65c_elementData_915e3_6
set_option maxHeartbeats 4000000 in
set_option maxRecDepth 100000 in
theorem c_AL_get (l : Launch) (D : va_G) (g : Nat → ClassId) (h : Nat) (a : ALs) (i : Nat) (hi : i < alC a) (hc : alC a ≤ alN a) (hn : alN a < 2 ^ 31) (sz : Nat) : qMq l yJx4a65c_get_915e3 (.code yJx4a65c_get_915e3 cJx4a65c_get_915e3 2 (some (.object "java/lang/Object")) :: GW) ({ frames := 2, cells := 0, slots := 0, locals := 60 } : Room) D g [.ref h, .int (nI i)] (wAL g h a) sz (fun (r : Option Nat) (_ : Unit) => alF a i = r) (fun _ => wAL g h a) 0 0 := by
  refine q_entry (cc := cJx4a65c_get_915e3) (nL := 2) (ret := (some (.object "java/lang/Object"))) rfl (by decide) (Nat.le_of_ble_eq_true rfl) (fun pp ee ss mm bb mt kc ls C hRt hLk hin hsz hW hl => ?_)
  have hl : lv_has ls 2 [(0, .ref h), (1, .int (nI i))] := hl
  have hz : ¬ alN a = 0 := by omega
  rw [wAL_1 hz] at hW ⊢
  refine lv_iload_n C.1 C.2.1 dJx4a65c_get_915e3_0 rfl (lv_at hl 1 rfl) ?_
  refine lv_aload_n C.1 C.2.1 dJx4a65c_get_915e3_1 rfl (lv_at hl 0 rfl) ?_
  refine q_get (v := .int (nI (alC a))) C hW 0 rfl rfl 2 (by decide) gu_Jx4a65c (C.2.2.2.2 _ fl_Jx4a65c_48) rfl rfl dJx4a65c_get_915e3_2 ?_
  refine q_callSi (rest := []) C (c_OCheck l D g i (alC a) hi (by omega) _) (gw_S ml_Jx4a65c_118 sm_J15_checkIndex_7cf53 ini_J15 cd_J15_checkIndex_7cf53 rfl) rfl rfl rfl hd_OCheck ⟨(Nat.le_of_ble_eq_true rfl), (Nat.le_of_ble_eq_true rfl)⟩ hW (wc := []) (List.Perm.refl _) (fun _ => wA1 g h (alQ a) (alN a) (alF a) (alM a) (alC a)) (fun _ => List.Perm.refl _) hl.1 rfl (Nat.le_of_ble_eq_true rfl) ⟨(Nat.le_of_ble_eq_true rfl), (Nat.le_of_ble_eq_true rfl)⟩ dJx4a65c_get_915e3_5 (fun r _ H locs e hW => ?_)
  refine lv_pop C.1 C.2.1 dJx4a65c_get_915e3_8 rfl ?_
  refine lv_aload_n C.1 C.2.1 dJx4a65c_get_915e3_9 rfl (lv_at hl 0 rfl) ?_
  refine lv_iload_n C.1 C.2.1 dJx4a65c_get_915e3_10 rfl (lv_at hl 1 rfl) ?_
  refine q_callVq (rest := []) C (c_ALel l D g h (alQ a) (alN a) (alF a) (alM a) (alC a) i (by omega) hn _) (gw_V ml_Jx4a65c_123 im_Jx4a65c_elementData_915e3 se_Jx4a65c_Jx4a65c_elementData_915e3 ini_Jx4a65c cd_Jx4a65c_elementData_915e3 rfl) rfl rfl rfl hd_ALel ⟨(Nat.le_of_ble_eq_true rfl), (Nat.le_of_ble_eq_true rfl)⟩ hW pm_all (fun _ => wA1 g h (alQ a) (alN a) (alF a) (alM a) (alC a)) (fun _ => pm_all) rfl rfl hl.1 rfl (Nat.le_of_ble_eq_true rfl) ⟨(Nat.le_of_ble_eq_true rfl), (Nat.le_of_ble_eq_true rfl)⟩ dJx4a65c_get_915e3_11 (fun r _ H locs e hW => ?_)
  exact q_qret C hRt (Or.inl ⟨_, rfl⟩) hLk hW () e rfl (Nat.le_of_ble_eq_true rfl) (Nat.le_of_ble_eq_true rfl) dJx4a65c_get_915e3_14
theorem hd_ACini : yJxa1e45_init_da8c8.cls ≠ "java/lang/invoke/MethodHandle" ∧ yJxa1e45_init_da8c8.cls ≠ "java/lang/invoke/VarHandle" ∧ (parseMethodDescriptor yJxa1e45_init_da8c8.desc).map (fun d => d.parameters.length) = some 0 := by decide +kernel
set_option maxHeartbeats 4000000 in
set_option maxRecDepth 100000 in
theorem c_ACini (l : Launch) (D : va_G) (g : Nat → ClassId) (h : Nat) (sz : Nat) : qMv l yJxa1e45_init_da8c8 (.code yJxa1e45_init_da8c8 cJxa1e45_init_da8c8 1 none :: GW) ({ frames := 1, cells := 0, slots := 0, locals := 12 } : Room) D g [.ref h] [] sz (fun (_ : Unit) => True) (fun _ => []) 0 0 := by
  refine q_entry (cc := cJxa1e45_init_da8c8) (nL := 1) (ret := none) rfl (by decide) (Nat.le_of_ble_eq_true rfl) (fun pp ee ss mm bb mt kc ls C hRt hLk hin hsz hW hl => ?_)
  have hl : lv_has ls 1 [(0, .ref h)] := hl
  refine lv_aload_n C.1 C.2.1 dJxa1e45_init_da8c8_0 rfl (lv_at hl 0 rfl) ?_
  refine W.objInit C.1 C.2.1 C.2.2.2.1 (C.2.2.2.2 _ ml_Jxa1e45_1) (C.2.2.2.2 _ im_objectInit) (C.2.2.2.2 _ cd_objectInit) rfl (by rw [C.2.2.1]; exact hl.1) rfl dJxa1e45_init_da8c8_1 (Nat.le_of_ble_eq_true rfl) (Nat.le_of_ble_eq_true rfl) ?_
  refine W.eq (g2 := F0 mm 4 ls []) rfl ?_
  exact q_vret C hRt hLk hW () trivial rfl (Nat.le_of_ble_eq_true rfl) (Nat.le_of_ble_eq_true rfl) dJxa1e45_init_da8c8_4
theorem hd_ABini : yJxc12de_init_da8c8.cls ≠ "java/lang/invoke/MethodHandle" ∧ yJxc12de_init_da8c8.cls ≠ "java/lang/invoke/VarHandle" ∧ (parseMethodDescriptor yJxc12de_init_da8c8.desc).map (fun d => d.parameters.length) = some 0 := by decide +kernel
set_option maxHeartbeats 4000000 in
set_option maxRecDepth 100000 in
theorem c_ABini (l : Launch) (D : va_G) (g : Nat → ClassId) (h : Nat) (m : Int32) (v1 v2 : Value) (sz : Nat) : qMv l yJxc12de_init_da8c8 (.code yJxc12de_init_da8c8 cJxc12de_init_da8c8 1 none :: GW) ({ frames := 2, cells := 0, slots := 0, locals := 40 } : Room) D g [.ref h] [(h, .inr (2, [.int m, v1, v2]))] sz (fun (_ : Unit) => True) (fun _ => [(h, .inr (2, [.int (nI 0), v1, v2]))]) 0 0 := by
  refine q_entry (cc := cJxc12de_init_da8c8) (nL := 1) (ret := none) rfl (by decide) (Nat.le_of_ble_eq_true rfl) (fun pp ee ss mm bb mt kc ls C hRt hLk hin hsz hW hl => ?_)
  have hl : lv_has ls 1 [(0, .ref h)] := hl
  refine lv_aload_n C.1 C.2.1 dJxc12de_init_da8c8_0 rfl (lv_at hl 0 rfl) ?_
  refine q_callIv (rest := []) C (c_ACini l D g h _) (gw_self cd_Jxa1e45_init_da8c8 rfl) (C.2.2.2.2 _ ini_Jxa1e45) (C.2.2.2.2 _ ml_Jxc12de_1) (C.2.2.2.2 _ im_Jxa1e45_init_da8c8) rfl rfl rfl rfl hd_ACini ⟨(Nat.le_of_ble_eq_true rfl), (Nat.le_of_ble_eq_true rfl)⟩ hW (wc := []) (List.Perm.refl _) (fun _ => [(h, .inr (2, [.int m, v1, v2]))]) (fun _ => List.Perm.refl _) hl.1 rfl (Nat.le_of_ble_eq_true rfl) ⟨(Nat.le_of_ble_eq_true rfl), (Nat.le_of_ble_eq_true rfl)⟩ dJxc12de_init_da8c8_1 (fun _ H locs _ hW => ?_)
  refine lv_aload_n C.1 C.2.1 dJxc12de_init_da8c8_4 rfl (lv_at hl 0 rfl) ?_
  refine lv_iconst (v := nI 0) C.1 C.2.1 dJxc12de_init_da8c8_5 (by decide) ?_
  refine q_put C hW 0 rfl rfl 0 (by decide) gu_Jx4a65c tyJx4a65c_ok nmJx4a65c (C.2.2.2.2 _ fl_Jxc12de_7) rfl rfl rfl rfl (Nat.le_of_ble_eq_true rfl) [(h, .inr (2, [.int (nI 0), v1, v2]))] rfl dJxc12de_init_da8c8_6 (fun H locs hW => ?_)
  exact q_vret C hRt hLk hW () trivial rfl (Nat.le_of_ble_eq_true rfl) (Nat.le_of_ble_eq_true rfl) dJxc12de_init_da8c8_9
theorem hd_ALini : yJx4a65c_init_da8c8.cls ≠ "java/lang/invoke/MethodHandle" ∧ yJx4a65c_init_da8c8.cls ≠ "java/lang/invoke/VarHandle" ∧ (parseMethodDescriptor yJx4a65c_init_da8c8.desc).map (fun d => d.parameters.length) = some 0 := by decide +kernel
set_option maxHeartbeats 4000000 in
set_option maxRecDepth 100000 in
theorem c_ALini (l : Launch) (D : va_G) (g : Nat → ClassId) (ev : Nat × Nat × (Nat → Nat)) (h : Nat) (m : Int32) (v1 : Value) (sz : Nat) : qNv l yJx4a65c_init_da8c8 (.code yJx4a65c_init_da8c8 cJx4a65c_init_da8c8 1 none :: GW) ({ frames := 3, cells := 0, slots := 0, locals := 70 } : Room) D g ev [.ref h] [(h, .inr (2, [.int m, v1, .int (nI 0)]))] sz (fun (_ : Unit) => True) (fun _ => wA0 h ev.1 (nI 0) 0) 0 0 := by
  refine qe_entry (cc := cJx4a65c_init_da8c8) (nL := 1) (ret := none) rfl (by decide) (Nat.le_of_ble_eq_true rfl) (fun pp ee ss mm bb mt kc ls C hRt hLk hin hsz hW hE hl => ?_)
  have hl : lv_has ls 1 [(0, .ref h)] := hl
  refine lv_aload_n C.1 C.2.1 dJx4a65c_init_da8c8_0 rfl (lv_at hl 0 rfl) ?_
  refine q_callIv (rest := []) C (c_ABini l D g h m v1 (.int (nI 0)) _) (gw_self cd_Jxc12de_init_da8c8 rfl) (C.2.2.2.2 _ ini_Jxc12de) (C.2.2.2.2 _ ml_Jx4a65c_1) (C.2.2.2.2 _ im_Jxc12de_init_da8c8) rfl rfl rfl rfl hd_ABini ⟨(Nat.le_of_ble_eq_true rfl), (Nat.le_of_ble_eq_true rfl)⟩ hW pm_all (fun _ => [(h, .inr (2, [.int (nI 0), v1, .int (nI 0)]))]) (fun _ => pm_all) hl.1 rfl (Nat.le_of_ble_eq_true rfl) ⟨(Nat.le_of_ble_eq_true rfl), (Nat.le_of_ble_eq_true rfl)⟩ dJx4a65c_init_da8c8_1 (fun _ H locs _ hW => ?_)
  refine lv_aload_n C.1 C.2.1 dJx4a65c_init_da8c8_4 rfl (lv_at hl 0 rfl) ?_
  refine va_gets C.1 C.2.1 hE.2.2.1 hW.2.2.2.1 C.2.2.2.1 (C.2.2.2.2 _ fl_Jx4a65c_39) (fun _ h9 => h9) dJx4a65c_init_da8c8_5 ?_
  refine q_put C hW 0 rfl rfl 1 (by decide) gu_Jx4a65c tyJx4a65c_ok nmJx4a65c (C.2.2.2.2 _ fl_Jx4a65c_9) rfl rfl rfl rfl (Nat.le_of_ble_eq_true rfl) (wA0 h ev.1 (nI 0) 0) rfl dJx4a65c_init_da8c8_8 (fun H locs hW => ?_)
  exact q_vret C hRt hLk hW () trivial rfl (Nat.le_of_ble_eq_true rfl) (Nat.le_of_ble_eq_true rfl) dJx4a65c_init_da8c8_11
theorem hd_newLen : yJ8_newLength_cabcc.cls ≠ "java/lang/invoke/MethodHandle" ∧ yJ8_newLength_cabcc.cls ≠ "java/lang/invoke/VarHandle" ∧ (parseMethodDescriptor yJ8_newLength_cabcc.desc).map (fun d => d.parameters.length) = some 3 := by decide +kernel
set_option maxHeartbeats 4000000 in
set_option maxRecDepth 100000 in
theorem c_newLen (l : Launch) (D : va_G) (g : Nat → ClassId) (n k : Nat) (hk : 1 ≤ k) (hn : n + k < 2 ^ 20) (sz : Nat) : qMi l yJ8_newLength_cabcc (.code yJ8_newLength_cabcc cJ8_newLength_cabcc 4 (some .int) :: GW) ({ frames := 1, cells := 0, slots := 0, locals := 40 } : Room) D g [.int (nI n), .int (nI 1), .int (nI k)] [] sz (fun (r : Int32) (_ : Unit) => nI (n + k) = r) (fun _ => []) 0 0 := by
  refine q_entry (cc := cJ8_newLength_cabcc) (nL := 4) (ret := (some .int)) rfl (by decide) (Nat.le_of_ble_eq_true rfl) (fun pp ee ss mm bb mt kc ls C hRt hLk hin hsz hW hl => ?_)
  have hl : lv_has ls 4 [(0, .int (nI n)), (1, .int (nI 1)), (2, .int (nI k))] := hl
  refine lv_iload_n C.1 C.2.1 dJ8_newLength_cabcc_0 rfl (lv_at hl 0 rfl) ?_
  refine lv_iload_n C.1 C.2.1 dJ8_newLength_cabcc_1 rfl (lv_at hl 1 rfl) ?_
  refine lv_iload_n C.1 C.2.1 dJ8_newLength_cabcc_2 rfl (lv_at hl 2 rfl) ?_
  refine va_mmax (x := nI 1) (y := nI k) C.1 C.2.1 (by rw [C.2.2.1]; exact hl.1.symm) C.2.2.2.1 (C.2.2.2.2 _ ml_J8_194) (C.2.2.2.2 _ sm_J9_max_7cf53) (C.2.2.2.2 _ ini_J9) (C.2.2.2.2 _ cd_J9_max_7cf53) (Nat.le_of_ble_eq_true rfl) (Nat.le_of_ble_eq_true rfl) (Nat.le_of_ble_eq_true rfl) (Nat.le_of_ble_eq_true rfl) dJ8_newLength_cabcc_3 ?_
  refine q_to (nI_max1 hk (by omega)) ?_
  refine q_iadd C dJ8_newLength_cabcc_6 ?_
  refine lv_istore_n (lv' := [(3, .int (nI (n + k))), (0, .int (nI n)), (1, .int (nI 1)), (2, .int (nI k))]) C.1 C.2.1 dJ8_newLength_cabcc_7 rfl hl (by decide) rfl (fun ls hl => ?_)
  refine lv_iconst (v := nI 0) C.1 C.2.1 dJ8_newLength_cabcc_8 (by decide) ?_
  refine lv_iload_n C.1 C.2.1 dJ8_newLength_cabcc_9 rfl (lv_at hl 0 rfl) ?_
  refine q_ge (tgt := 21) C (by decide) (by omega) dJ8_newLength_cabcc_10 (by decide) (fun c_10 => absurd c_10 (by omega)) (fun c_10 => ?_)
  refine lv_iload_n C.1 C.2.1 dJ8_newLength_cabcc_13 rfl (lv_at hl 0 rfl) ?_
  refine lv_ldc (v := 2147483639) C.1 C.2.1 C.2.2.2.1 (C.2.2.2.2 _ w_649) dJ8_newLength_cabcc_14 ?_
  refine lv_icmp_gt (tgt := 21) C.1 C.2.1 dJ8_newLength_cabcc_16 (by decide) (fun c_16 => absurd c_16 (nI_nlt (a := 2147483639) (by omega) (by decide))) (fun c_16 => ?_)
  refine lv_iload_n C.1 C.2.1 dJ8_newLength_cabcc_19 rfl (lv_at hl 0 rfl) ?_
  exact q_iret C hRt hLk hW rfl () rfl rfl (Nat.le_of_ble_eq_true rfl) (Nat.le_of_ble_eq_true rfl) dJ8_newLength_cabcc_20
