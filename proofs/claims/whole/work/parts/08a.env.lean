/-! What the class's own methods stand on besides their world: statics of the JDK, strings, words of the tables that no list of good words holds; contracts over them, that return or throw. -/
section QNA
def tabWord : Cond → Bool
  | .declares _ => true
  | .publicMethod _ => true
  | .unhidden _ _ _ => true
  | .castable _ _ => true
  | _ => false
theorem tw_moved {w : Cond} (hw : tabWord w = true) {u U : State} (hvm : u.vm.Alike U.vm) {A A' : Array Value} (h : w.before A u = true) : w.before A' U = true := by
  have tr : ∀ {c : Cond}, c.onTables = true → c.before A (u.setVm U.vm) = true → c.before A' U = true := by
    intro c hc h9
    have e := Cond.onTables_vm (A := A) (A' := A') (U := u) (U' := U) U.vm c hc
    have hU : U.setVm U.vm = U := rfl
    rw [hU] at e
    rw [← e]
    exact h9
  cases w <;> first
    | exact tr rfl (by rw [Cond.declares_setVm hvm]; exact h)
    | exact tr rfl (by rw [Cond.publicMethod_setVm hvm]; exact h)
    | exact tr rfl (by rw [Cond.unhidden_setVm hvm]; exact h)
    | exact tr rfl (by rw [Cond.castable_setVm hvm]; exact h)
    | (simp [tabWord] at hw)
def qTW (U : State) : Prop := ∀ w ∈ lw_tbl, tabWord w = true → w.before #[] U = true
theorem qTW.use {U : State} (h : qTW U) {w : Cond} (hm : w ∈ lw_tbl) (hw : tabWord w = true) {A : Array Value} : w.before A U = true := tw_moved hw (Vm.Alike.refl U.vm) (h w hm hw)
theorem qTW.moved {u U : State} (hvm : u.vm.Alike U.vm) (h : qTW u) : qTW U := fun w hm hw => tw_moved hw hvm (h w hm hw)
/-- the four methods of lists that are called -/
abbrev xLsize : MethodName := ⟨"java/util/List", "size", "()I"⟩
abbrev xLget : MethodName := ⟨"java/util/List", "get", "(I)Ljava/lang/Object;"⟩
abbrev xLadd : MethodName := ⟨"java/util/List", "add", "(Ljava/lang/Object;)Z"⟩
abbrev xLemp : MethodName := ⟨"java/util/List", "isEmpty", "()Z"⟩
def qFS (U : State) : Prop := va_Fw RJx4a65c xLsize yJx4a65c_size_8abf5 U ∧ va_Fw RJx4a65c xLget yJx4a65c_get_915e3 U ∧ va_Fw RJx4a65c xLadd yJx4a65c_add_9ea2d U ∧ va_Fw RJx4a65c xLemp yJx4a65c_isEmpty_aae02 U
theorem qFS.moved {u U : State} (hvm : u.vm.Alike U.vm) (h : qFS u) : qFS U := ⟨va_Fw.moved (by decide) hvm h.1, va_Fw.moved (by decide) hvm h.2.1, va_Fw.moved (by decide) hvm h.2.2.1, va_Fw.moved (by decide) hvm h.2.2.2⟩
def qSs : List (Nat × String) := [(38, "a name has from 1 to 32 words"), (49, "there are 12 names"), (243, "there is no such name"), (64, "the memory has the addresses 0 to 511"), (70, "the name is placed"), (75, "another name is there"), (81, "the number is from 1 to 64"), (88, "a name cannot be placed"), (245, "the name is not placed"), (250, "the name has no such word"), (105, "no name has a word there"), (108, "both names are the same"), (235, "the cores are 0 to 3"), (254, "the object is used for at most 512 calls"), (252, "there is no such access"), (238, "the lines are 0 to 63"), (173, "the line has no owner"), (182, "the sets are 0 to 3"), (187, "the set is empty"), (193, "the causes are h, u, c, e, t and f"), (205, "there are no names"), (224, "there were no accesses")]
def qST (sa : Nat → Nat) (U : State) : Prop := ∀ q ∈ qSs, vk_R RX3 q.1 q.2 (sa q.1) U
theorem qST.warm {sa : Nat → Nat} {s U : State} (hW : s.WarmedH U.vm) (h : qST sa s) : qST sa U := fun q hq => vk_R.warm hW (h q hq)
abbrev eA (g : Nat → ClassId) : va_E := .inl (g 3, 0, .inr (.inr (.inr (.inr (fun _ => none)))))
/-- an array that holds nothing -/
def q_em (z : Nat) (U : State) (H : Heap) : Prop := ∃ (cell : Cell) (ty : FieldType), H[z]? = some cell ∧ U.isArrayOf cell ty ∧ Int32.ofNat cell.slots.size = nI 0
theorem q_em.kept {z : Nat} {U : State} {H H1 : Heap} (h : q_em z U H) (hq : H1[z]? = H[z]?) : q_em z U H1 := by
  obtain ⟨cell, ty, h1, h2⟩ := h
  exact ⟨cell, ty, by rw [hq]; exact h1, h2⟩
theorem q_em.lt {z : Nat} {U : State} {H : Heap} (h : q_em z U H) : z < H.size := by
  obtain ⟨cell, ty, h1, h2⟩ := h
  exact (Array.getElem?_eq_some_iff.mp h1).1
theorem q_em.moved {z : Nat} {u U : State} {H : Heap} (hvm : u.vm.Alike U.vm) (h : q_em z u H) : q_em z U H := by
  obtain ⟨cell, ty, h1, h2, h3⟩ := h
  exact ⟨cell, ty, h1, State.isArrayOf_alike hvm h2, h3⟩
/-- ev: the cell of the lists' first array, the mirror of its class, the strings by their entries -/
def qE (D : va_G) (g : Nat → ClassId) (ev : Nat × Nat × (Nat → Nat)) (A : Nat → Prop) (U : State) (H : Heap) : Prop :=
  vx_Zq Bundle.tN "UNASSIGNED_STACK" Bundle.steD A U H ∧ vx_Zq Bundle.tN "SUPPRESSED_SENTINEL" Bundle.listD A U H ∧ va_Z RJx4a65c "DEFAULTCAPACITY_EMPTY_ELEMENTDATA" "[Ljava/lang/Object;" (.ref ev.1) A U H ∧
  (q_em ev.1 U H ∧ ¬ A ev.1) ∧ va_Mi "[Ljava/lang/Object;" ev.2.1 U ∧ va_AO "java/lang/Object" U ∧ qTW U ∧ qFS U ∧ qST ev.2.2 U
theorem qE.step {D : va_G} {g : Nat → ClassId} {ev : Nat × Nat × (Nat → Nat)} {A B : Nat → Prop} {s U : State} {H H1 : Heap} (h : qE D g ev A s H) (hW : s.WarmedH U.vm) (hk : ∀ a : Nat, a < H.size → ¬ A a → H1[a]? = H[a]?) (hAB : ∀ q, B q → A q) : qE D g ev B U H1 := by
  obtain ⟨h1, h2, h3, ⟨h4, h5⟩, h6, h7, h8, h9, h10⟩ := h
  have hal : s.vm.Alike U.vm := hW.alike
  exact ⟨((h1.kept hk).narrow hAB).moved hal, ((h2.kept hk).narrow hAB).moved hal, ((h3.kept hk).narrow hAB).moved hal, ⟨(h4.kept (hk _ h4.lt h5)).moved hal, fun z => h5 (hAB _ z)⟩, h6.moved hal, h7.moved hal, h8.moved hal, h9.moved hal, h10.warm hW⟩
def qPe (D : va_G) (g : Nat → ClassId) (ev : Nat × Nat × (Nat → Nat)) (av : List Value) (w : va_W) (sz : Nat) : Array Value → State → Prop := va_Pc av (fun U => U.heap.size = sz ∧ va_P D vwCl w U.heap ∧ va_K D vwCl (tyA g) U ∧ va_D (fun _ => True) w ∧ qE D g ev (va_A w sz) U U.heap)
def qXX (D : va_G) (g : Nat → ClassId) (w : va_W) (sz : Nat) {S : Type} (px : String → S → Prop) (w' : S → va_W) : String → State → State → Prop := vx_X (fun _ : S => True) (fun E u t => px E u ∧ qB D g w sz w' u t) (va_A w sz)
section
variable (l : Launch) (y : MethodName) (ws : List Cond) (rm : Room) (D : va_G) (g : Nat → ClassId) (ev : Nat × Nat × (Nat → Nat)) (av : List Value) (w : va_W) (sz : Nat) {S : Type}
/-- contracts that return -/
def qNi (post : Int32 → S → Prop) (w' : S → va_W) (mc ms : Nat) : Prop := Met l y ws rm (qPe D g ev av w sz) (va_Qi post (qB D g w sz w') (va_A w sz)) mc ms (va_A w sz)
def qNv (post : S → Prop) (w' : S → va_W) (mc ms : Nat) : Prop := Met l y ws rm (qPe D g ev av w sz) (va_Qv post (qB D g w sz w') (va_A w sz)) mc ms (va_A w sz)
def qNl (post : Int64 → S → Prop) (w' : S → va_W) (mc ms : Nat) : Prop := Met l y ws rm (qPe D g ev av w sz) (va_Ql post (qB D g w sz w') (va_A w sz)) mc ms (va_A w sz)
/-- contracts that return or throw -/
def qXi (post : Int32 → S → Prop) (px : String → S → Prop) (w' : S → va_W) (mc ms : Nat) : Prop := vx_Met l y ws rm (qPe D g ev av w sz) (va_Qi post (qB D g w sz w') (va_A w sz)) (qXX D g w sz px w') mc ms (va_A w sz)
def qXv (post : S → Prop) (px : String → S → Prop) (w' : S → va_W) (mc ms : Nat) : Prop := vx_Met l y ws rm (qPe D g ev av w sz) (va_Qv post (qB D g w sz w') (va_A w sz)) (qXX D g w sz px w') mc ms (va_A w sz)
def qXl (post : Int64 → S → Prop) (px : String → S → Prop) (w' : S → va_W) (mc ms : Nat) : Prop := vx_Met l y ws rm (qPe D g ev av w sz) (va_Ql post (qB D g w sz w') (va_A w sz)) (qXX D g w sz px w') mc ms (va_A w sz)
def qXf (post : UInt32 → S → Prop) (px : String → S → Prop) (w' : S → va_W) (mc ms : Nat) : Prop := vx_Met l y ws rm (qPe D g ev av w sz) (va_Qf post (qB D g w sz w') (va_A w sz)) (qXX D g w sz px w') mc ms (va_A w sz)
def qXd (post : UInt64 → S → Prop) (px : String → S → Prop) (w' : S → va_W) (mc ms : Nat) : Prop := vx_Met l y ws rm (qPe D g ev av w sz) (va_Qd post (qB D g w sz w') (va_A w sz)) (qXX D g w sz px w') mc ms (va_A w sz)
end
variable {l : Launch} {y : MethodName} {ws ws' : List Cond} {rm : Room} {D : va_G} {g : Nat → ClassId} {ev : Nat × Nat × (Nat → Nat)} {av : List Value} {w : va_W} {sz : Nat} {mc ms : Nat} {cc : ByteArray} {nL : Nat}
theorem qe_blind : FrameBlind (qPe D g ev av w sz) := by
  intro a U gg mk q
  obtain ⟨q0, q1, qP, qK, qD, qEE⟩ := q
  exact ⟨q0, q1, qP, va_K.moved (u := U) (U := U.calling gg mk a) (Vm.Alike.refl U.vm) qK, qD, qE.step (U := U.calling gg mk a) qEE (State.WarmedH.refl U) (fun _ _ _ => rfl) (fun _ h => h)⟩
theorem qe_entry {Qc : Array Value → State → Outcome → State → Prop} {ret : Option FieldType} (hw : ws = Cond.code y cc nL ret :: ws') (hy : plainName y.cls = true) (hn : (lg_sl av).length ≤ nL)
    (body : ∀ (p : Program) (e : Env) (s : State) (m : MethodId) (below : List Frame) (meth : Method) (c : Code) (ls : Array Slot), CallFix p m c cc nL s av.toArray ws y.cls → meth.sig.returnType = ret → meth.locks = false → meth.name = y.name → s.heap.size = sz →
      qW D g (va_A w sz) s.heap s w s.heap [] → qE D g ev (va_A w sz) s s.heap → lv_has ls nL (lv_args 0 av) →
      W p l e rm s m av.toArray below meth c s.heap [] 0 0 (MQ below Qc av.toArray s mc ms (va_A w sz)) (F0 m 0 ls [])) : Met l y ws rm (qPe D g ev av w sz) Qc mc ms (va_A w sz) := by
  refine Met.ofW (cc := cc) (maxL := nL) (ret := ret) hy hw ?_
  intro p e s m args below meth c s₁ B hml hv
  obtain ⟨rfl, hsz, hP, hK, hD0, hE⟩ := hv
  have hl := lv_entry av (n := nL) hn
  rw [lg_entry_eq]
  generalize (lg_sl av ++ List.replicate (nL - (lg_sl av).length) Slot.unset).toArray = ls at hl ⊢
  refine body p e s m below meth c ls ⟨B.exec, B.bytes, hml, findClass_of_methodNamed B.named, atoms_spec (ws := ws) B.pre⟩ B.returns B.notSynchronized (name_of_methodNamed B.named B.method).1 hsz ⟨hP, hK, ?_, va_S.rf, fun q h => Or.inr (by rw [← hsz]; exact h)⟩ hE hl
  exact hD0.self
theorem qx_entry {Qc : Array Value → State → Outcome → State → Prop} {XC : String → State → State → Prop} {ret : Option FieldType} (hw : ws = Cond.code y cc nL ret :: ws') (hy : plainName y.cls = true) (hn : (lg_sl av).length ≤ nL)
    (body : ∀ (p : Program) (e : Env) (s : State) (m : MethodId) (below : List Frame) (meth : Method) (c : Code) (ls : Array Slot), CallFix p m c cc nL s av.toArray ws y.cls → meth.sig.returnType = ret → meth.locks = false → meth.name = y.name → s.heap.size = sz →
      qW D g (va_A w sz) s.heap s w s.heap [] → qE D g ev (va_A w sz) s s.heap → (∀ x ∈ c.exceptionTable.toList, False) → lv_has ls nL (lv_args 0 av) →
      W p l e rm s m av.toArray below meth c s.heap [] 0 0 (vx_MQ below Qc XC av.toArray s mc ms (va_A w sz)) (F0 m 0 ls [])) : vx_Met l y ws rm (qPe D g ev av w sz) Qc XC mc ms (va_A w sz) := by
  refine vx_ofW (cc := cc) (maxL := nL) (ret := ret) hy hw ?_
  intro p e s m args below meth c s₁ B hml ht hv
  obtain ⟨rfl, hsz, hP, hK, hD0, hE⟩ := hv
  have hl := lv_entry av (n := nL) hn
  rw [lg_entry_eq]
  generalize (lg_sl av ++ List.replicate (nL - (lg_sl av).length) Slot.unset).toArray = ls at hl ⊢
  refine body p e s m below meth c ls ⟨B.exec, B.bytes, hml, findClass_of_methodNamed B.named, atoms_spec (ws := ws) B.pre⟩ B.returns B.notSynchronized (name_of_methodNamed B.named B.method).1 hsz ⟨hP, hK, ?_, va_S.rf, fun q h => Or.inr (by rw [← hsz]; exact h)⟩ hE ht hl
  exact hD0.self
end QNA
section QNC
variable {p : Program} {l : Launch} {e : Env} {R : Room} {s : State} {m : MethodId} {args : Array Value} {below : List Frame} {meth : Method} {c : Code} {H : Heap} {locs : List Loc} {cells slots : Nat} {Q : State → Prop}
variable {cc : ByteArray} {nL : Nat} {Ts : List Cond} {own : String} {D : va_G} {g : Nat → ClassId} {ev : Nat × Nat × (Nat → Nat)} {A : Nat → Prop} {w : va_W} {pc : Nat} {ls : Array Slot} {rest st : List Value} {a : Nat}
/-- what a method stands on, seen where it is now -/
theorem qE.now (hE : qE D g ev A s s.heap) {H0 : Heap} (h0 : H0 = s.heap) (hW : qW D g A H0 s w H locs) : qE D g ev A s H := by
  subst h0
  exact hE.step (State.WarmedH.refl s) hW.2.2.2.1.2.1 (fun _ h => h)
theorem qe_preV {wc wr : va_W} {q : vw_C} {ci b : Nat} {fs As : List Value} (hE : qE D g ev A s s.heap) (hW : qW D g A s.heap s w H locs) (hp : w.Perm (wc ++ wr)) (hc : vwCl[ci]? = some q) (he : wc[0]? = some (b, .inr (ci, fs))) : PreV s H q.1 b (qPe D g ev (.ref b :: As) wc H.size) As := by
  have hPc : va_P D vwCl wc H := q_Pmem.mpr fun z hz => q_Pmem.mp hW.1 z (hp.mem_iff.mpr (List.mem_append_left _ hz))
  have hDc : va_D A wc := by
    obtain ⟨h1, h2⟩ := q_Dmem.mp (q_Dperm hp.symm hW.2.2.1)
    rw [List.map_append, List.nodup_append] at h1
    exact q_Dmem.mpr ⟨h1.1, fun z hz => h2 z (List.mem_append_left _ hz)⟩
  refine ⟨qe_blind, va_recv hW.2.1 hPc hc he, fun U hU hW9 => ⟨rfl, by rw [hU], by rw [hU]; exact hPc, va_K.moved hW9.alike hW.2.1, hDc.weaken (fun _ _ _ _ => trivial), ?_⟩⟩
  rw [hU]
  exact (hE.now rfl hW).step hW9 (fun _ _ _ => rfl) (q_free hW hp)
theorem qe_preS {wc wr : va_W} {As : List Value} (hE : qE D g ev A s s.heap) (hW : qW D g A s.heap s w H locs) (hp : w.Perm (wc ++ wr)) : PreS s H (qPe D g ev As wc H.size) As := by
  have hPc : va_P D vwCl wc H := q_Pmem.mpr fun z hz => q_Pmem.mp hW.1 z (hp.mem_iff.mpr (List.mem_append_left _ hz))
  have hDc : va_D A wc := by
    obtain ⟨h1, h2⟩ := q_Dmem.mp (q_Dperm hp.symm hW.2.2.1)
    rw [List.map_append, List.nodup_append] at h1
    exact q_Dmem.mpr ⟨h1.1, fun z hz => h2 z (List.mem_append_left _ hz)⟩
  refine ⟨qe_blind, fun U hU hW9 => ⟨rfl, by rw [hU], by rw [hU]; exact hPc, va_K.moved hW9.alike hW.2.1, hDc.weaken (fun _ _ _ _ => trivial), ?_⟩⟩
  rw [hU]
  exact (hE.now rfl hW).step hW9 (fun _ _ _ => rfl) (q_free hW hp)
variable {S : Type} {y x : MethodName} {wsy wsy' : List Cond} {rm : Room} {b ci index maxL mc ms count : Nat} {bytes : ByteArray} {ret : Option FieldType} {As fs : List Value} {wc wr : va_W} {w1 : S → va_W} {q : vw_C}
/-- calls of contracts that return -/
theorem qe_callVi {post : Int32 → S → Prop} (C : CallFix p m c cc nL s args Ts own) (hE : qE D g ev A s s.heap) (hM : qNi l y wsy rm D g ev (.ref b :: As) wc H.size post w1 mc ms) (hT : GoodIn Ts (wsV own index q.1 y wsy)) (hw : wsy = Cond.code y bytes maxL ret :: wsy') (hrc : rm.cells = mc) (hrs : rm.slots = ms)
    (hd : y.cls = q.1 ∧ y.cls ≠ "java/lang/invoke/MethodHandle" ∧ y.cls ≠ "java/lang/invoke/VarHandle" ∧ (parseMethodDescriptor y.desc).map (fun d => d.parameters.length) = some As.length) (hR : rm.frames + 1 ≤ R.frames ∧ 8 + (maxL + 11) + rm.locals ≤ R.locals)
    (hW : qW D g A s.heap s w H locs) (hp : w.Perm (wc ++ wr)) (W' : S → va_W) (hp' : ∀ u, (W' u).Perm (w1 u ++ wr)) (hc : vwCl[ci]? = some q) (he : wc[0]? = some (b, .inr (ci, fs))) (hl : ls.size = nL) (hst : st = As.reverse ++ .ref b :: rest) (hrm : (rest.map fun v => v.category).sum ≤ 8) (hf : cells + mc ≤ R.cells ∧ slots + ms ≤ R.slots)
    (hdg : decode cc pc = .ok (.invokevirtual index, 3))
    (kk : ∀ (r : Int32) (u : S) (H1 : Heap) (locs1 : List Loc), post r u → qW D g A s.heap s (W' u) H1 locs1 → W p l e R s m args below meth c H1 locs1 (cells + mc) (slots + ms) Q (F0 m (pc + 3) ls (.int r :: rest))) : W p l e R s m args below meth c H locs cells slots Q (F0 m pc ls st) :=
  va_calli (va_runV C hM (cwV As.length C.2.2.2.2 hT hw hrc hrs hd hR) (qe_preV hE hW hp hc he) rfl rfl hl hst (lv_room hrm) hdg hf) hW.2.2.2.1 (fun z _ h => q_free hW hp z h) (q_free hW hp) (fun r u t H1 locs1 ht _ hpo hB _ hk hS => kk r u H1 locs1 hpo (q_back hW hp hp' ht hB hk hS))
theorem qe_callVv {post : S → Prop} (C : CallFix p m c cc nL s args Ts own) (hE : qE D g ev A s s.heap) (hM : qNv l y wsy rm D g ev (.ref b :: As) wc H.size post w1 mc ms) (hT : GoodIn Ts (wsV own index q.1 y wsy)) (hw : wsy = Cond.code y bytes maxL ret :: wsy') (hrc : rm.cells = mc) (hrs : rm.slots = ms)
    (hd : y.cls = q.1 ∧ y.cls ≠ "java/lang/invoke/MethodHandle" ∧ y.cls ≠ "java/lang/invoke/VarHandle" ∧ (parseMethodDescriptor y.desc).map (fun d => d.parameters.length) = some As.length) (hR : rm.frames + 1 ≤ R.frames ∧ 8 + (maxL + 11) + rm.locals ≤ R.locals)
    (hW : qW D g A s.heap s w H locs) (hp : w.Perm (wc ++ wr)) (W' : S → va_W) (hp' : ∀ u, (W' u).Perm (w1 u ++ wr)) (hc : vwCl[ci]? = some q) (he : wc[0]? = some (b, .inr (ci, fs))) (hl : ls.size = nL) (hst : st = As.reverse ++ .ref b :: rest) (hrm : (rest.map fun v => v.category).sum ≤ 8) (hf : cells + mc ≤ R.cells ∧ slots + ms ≤ R.slots)
    (hdg : decode cc pc = .ok (.invokevirtual index, 3))
    (kk : ∀ (u : S) (H1 : Heap) (locs1 : List Loc), post u → qW D g A s.heap s (W' u) H1 locs1 → W p l e R s m args below meth c H1 locs1 (cells + mc) (slots + ms) Q (F0 m (pc + 3) ls rest)) : W p l e R s m args below meth c H locs cells slots Q (F0 m pc ls st) :=
  va_callv (va_runV C hM (cwV As.length C.2.2.2.2 hT hw hrc hrs hd hR) (qe_preV hE hW hp hc he) rfl rfl hl hst (lv_room hrm) hdg hf) hW.2.2.2.1 (fun z _ h => q_free hW hp z h) (q_free hW hp) (fun u t H1 locs1 ht _ hpo hB _ hk hS => kk u H1 locs1 hpo (q_back hW hp hp' ht hB hk hS))
theorem qe_callVl {post : Int64 → S → Prop} (C : CallFix p m c cc nL s args Ts own) (hE : qE D g ev A s s.heap) (hM : qNl l y wsy rm D g ev (.ref b :: As) wc H.size post w1 mc ms) (hT : GoodIn Ts (wsV own index q.1 y wsy)) (hw : wsy = Cond.code y bytes maxL ret :: wsy') (hrc : rm.cells = mc) (hrs : rm.slots = ms)
    (hd : y.cls = q.1 ∧ y.cls ≠ "java/lang/invoke/MethodHandle" ∧ y.cls ≠ "java/lang/invoke/VarHandle" ∧ (parseMethodDescriptor y.desc).map (fun d => d.parameters.length) = some As.length) (hR : rm.frames + 1 ≤ R.frames ∧ 8 + (maxL + 11) + rm.locals ≤ R.locals)
    (hW : qW D g A s.heap s w H locs) (hp : w.Perm (wc ++ wr)) (W' : S → va_W) (hp' : ∀ u, (W' u).Perm (w1 u ++ wr)) (hc : vwCl[ci]? = some q) (he : wc[0]? = some (b, .inr (ci, fs))) (hl : ls.size = nL) (hst : st = As.reverse ++ .ref b :: rest) (hrm : (rest.map fun v => v.category).sum ≤ 8) (hf : cells + mc ≤ R.cells ∧ slots + ms ≤ R.slots)
    (hdg : decode cc pc = .ok (.invokevirtual index, 3))
    (kk : ∀ (r : Int64) (u : S) (H1 : Heap) (locs1 : List Loc), post r u → qW D g A s.heap s (W' u) H1 locs1 → W p l e R s m args below meth c H1 locs1 (cells + mc) (slots + ms) Q (F0 m (pc + 3) ls (.long r :: rest))) : W p l e R s m args below meth c H locs cells slots Q (F0 m pc ls st) :=
  va_calll (va_runV C hM (cwV As.length C.2.2.2.2 hT hw hrc hrs hd hR) (qe_preV hE hW hp hc he) rfl rfl hl hst (lv_room hrm) hdg hf) hW.2.2.2.1 (fun z _ h => q_free hW hp z h) (q_free hW hp) (fun r u t H1 locs1 ht _ hpo hB _ hk hS => kk r u H1 locs1 hpo (q_back hW hp hp' ht hB hk hS))
theorem qe_callIv {post : S → Prop} (C : CallFix p m c cc nL s args Ts own) (hE : qE D g ev A s s.heap) (hM : qNv l y wsy rm D g ev (.ref b :: As) wc H.size post w1 mc ms) (hG : GoodIn Ts wsy) (hini : (Cond.initialized y.cls).before args s = true) (hlk : (Cond.methodLink own index y).before args s = true) (him : (Cond.instanceMethod y).before args s = true) (hy1 : y.name = "<init>") (hw : wsy = Cond.code y bytes maxL none :: wsy') (hrc : rm.cells = mc) (hrs : rm.slots = ms)
    (hd : y.cls ≠ "java/lang/invoke/MethodHandle" ∧ y.cls ≠ "java/lang/invoke/VarHandle" ∧ (parseMethodDescriptor y.desc).map (fun d => d.parameters.length) = some As.length) (hR : rm.frames + 1 ≤ R.frames ∧ 8 + (maxL + 11) + rm.locals ≤ R.locals)
    (hW : qW D g A s.heap s w H locs) (hp : w.Perm (wc ++ wr)) (W' : S → va_W) (hp' : ∀ u, (W' u).Perm (w1 u ++ wr)) (hl : ls.size = nL) (hst : st = As.reverse ++ .ref b :: rest) (hrm : (rest.map fun v => v.category).sum ≤ 8) (hf : cells + mc ≤ R.cells ∧ slots + ms ≤ R.slots)
    (hdg : decode cc pc = .ok (.invokespecial index, 3))
    (kk : ∀ (u : S) (H1 : Heap) (locs1 : List Loc), post u → qW D g A s.heap s (W' u) H1 locs1 → W p l e R s m args below meth c H1 locs1 (cells + mc) (slots + ms) Q (F0 m (pc + 3) ls rest)) : W p l e R s m args below meth c H locs cells slots Q (F0 m pc ls st) :=
  va_callv (va_runI C hM (cwI As.length C.2.2.2.2 hG hw hrc hrs hini hlk him hy1 hd hR) (qe_preS hE hW hp) rfl rfl hl hst (lv_room hrm) hdg hf) hW.2.2.2.1 (fun z _ h => q_free hW hp z h) (q_free hW hp) (fun u t H1 locs1 ht _ hpo hB _ hk hS => kk u H1 locs1 hpo (q_back hW hp hp' ht hB hk hS))
/-- calls by an interface -/
theorem q_hat (hW : qW D g A s.heap s w H locs) (hc : vwCl[ci]? = some q) : ClassAt s q.1 (D.1 ci) := (hW.2.1.1 ci q hc).2
theorem q_callFi {post : Int32 → S → Prop} (C : CallFix p m c cc nL s args Ts own) (hF : va_Fw q.1 x y s) (hM : qMi l y wsy rm D g (.ref b :: As) wc H.size post w1 mc ms) (hT : GoodIn Ts (va_wsF own index q.1 x y wsy)) (hw : wsy = Cond.code y bytes maxL ret :: wsy') (hrc : rm.cells = mc) (hrs : rm.slots = ms)
    (hd : x.cls ≠ "java/lang/invoke/MethodHandle" ∧ x.cls ≠ "java/lang/invoke/VarHandle" ∧ (parseMethodDescriptor x.desc).map (fun d => d.parameters.length) = some As.length) (hR : rm.frames + 1 ≤ R.frames ∧ 8 + (maxL + 11) + rm.locals ≤ R.locals)
    (hW : qW D g A s.heap s w H locs) (hp : w.Perm (wc ++ wr)) (W' : S → va_W) (hp' : ∀ u, (W' u).Perm (w1 u ++ wr)) (hc : vwCl[ci]? = some q) (he : wc[0]? = some (b, .inr (ci, fs))) (hl : ls.size = nL) (hst : st = As.reverse ++ .ref b :: rest) (hrm : (rest.map fun v => v.category).sum ≤ 8) (hf : cells + mc ≤ R.cells ∧ slots + ms ≤ R.slots)
    (hdg : decode cc pc = .ok (.invokeinterface index count, 5))
    (kk : ∀ (r : Int32) (u : S) (H1 : Heap) (locs1 : List Loc), post r u → qW D g A s.heap s (W' u) H1 locs1 → W p l e R s m args below meth c H1 locs1 (cells + mc) (slots + ms) Q (F0 m (pc + 5) ls (.int r :: rest))) : W p l e R s m args below meth c H locs cells slots Q (F0 m pc ls st) :=
  va_callFi (va_runF (q_hat hW hc) C hM (va_cwF As.length C.2.2.2.2 hT hw hrc hrs hF hd hR) (q_preV hW hp hc he) rfl rfl hl hst (lv_room hrm) hdg hf) hW.2.2.2.1 (fun z _ h => q_free hW hp z h) (q_free hW hp) (fun r u t H1 locs1 ht _ hpo hB _ hk hS => kk r u H1 locs1 hpo (q_back hW hp hp' ht hB hk hS))
theorem q_callFq {post : Option Nat → S → Prop} (C : CallFix p m c cc nL s args Ts own) (hF : va_Fw q.1 x y s) (hM : qMq l y wsy rm D g (.ref b :: As) wc H.size post w1 mc ms) (hT : GoodIn Ts (va_wsF own index q.1 x y wsy)) (hw : wsy = Cond.code y bytes maxL ret :: wsy') (hrc : rm.cells = mc) (hrs : rm.slots = ms)
    (hd : x.cls ≠ "java/lang/invoke/MethodHandle" ∧ x.cls ≠ "java/lang/invoke/VarHandle" ∧ (parseMethodDescriptor x.desc).map (fun d => d.parameters.length) = some As.length) (hR : rm.frames + 1 ≤ R.frames ∧ 8 + (maxL + 11) + rm.locals ≤ R.locals)
    (hW : qW D g A s.heap s w H locs) (hp : w.Perm (wc ++ wr)) (W' : S → va_W) (hp' : ∀ u, (W' u).Perm (w1 u ++ wr)) (hc : vwCl[ci]? = some q) (he : wc[0]? = some (b, .inr (ci, fs))) (hl : ls.size = nL) (hst : st = As.reverse ++ .ref b :: rest) (hrm : (rest.map fun v => v.category).sum ≤ 8) (hf : cells + mc ≤ R.cells ∧ slots + ms ≤ R.slots)
    (hdg : decode cc pc = .ok (.invokeinterface index count, 5))
    (kk : ∀ (r : Option Nat) (u : S) (H1 : Heap) (locs1 : List Loc), post r u → qW D g A s.heap s (W' u) H1 locs1 → W p l e R s m args below meth c H1 locs1 (cells + mc) (slots + ms) Q (F0 m (pc + 5) ls (va_rf r :: rest))) : W p l e R s m args below meth c H locs cells slots Q (F0 m pc ls st) :=
  va_callFq (va_runF (q_hat hW hc) C hM (va_cwF As.length C.2.2.2.2 hT hw hrc hrs hF hd hR) (q_preV hW hp hc he) rfl rfl hl hst (lv_room hrm) hdg hf) hW.2.2.2.1 (fun z _ h => q_free hW hp z h) (q_free hW hp) (fun r u t H1 locs1 ht _ hpo hB _ hk hS => kk r u H1 locs1 hpo (q_back hW hp hp' ht hB hk hS))
theorem qe_callFi {post : Int32 → S → Prop} (C : CallFix p m c cc nL s args Ts own) (hE : qE D g ev A s s.heap) (hF : va_Fw q.1 x y s) (hM : qNi l y wsy rm D g ev (.ref b :: As) wc H.size post w1 mc ms) (hT : GoodIn Ts (va_wsF own index q.1 x y wsy)) (hw : wsy = Cond.code y bytes maxL ret :: wsy') (hrc : rm.cells = mc) (hrs : rm.slots = ms)
    (hd : x.cls ≠ "java/lang/invoke/MethodHandle" ∧ x.cls ≠ "java/lang/invoke/VarHandle" ∧ (parseMethodDescriptor x.desc).map (fun d => d.parameters.length) = some As.length) (hR : rm.frames + 1 ≤ R.frames ∧ 8 + (maxL + 11) + rm.locals ≤ R.locals)
    (hW : qW D g A s.heap s w H locs) (hp : w.Perm (wc ++ wr)) (W' : S → va_W) (hp' : ∀ u, (W' u).Perm (w1 u ++ wr)) (hc : vwCl[ci]? = some q) (he : wc[0]? = some (b, .inr (ci, fs))) (hl : ls.size = nL) (hst : st = As.reverse ++ .ref b :: rest) (hrm : (rest.map fun v => v.category).sum ≤ 8) (hf : cells + mc ≤ R.cells ∧ slots + ms ≤ R.slots)
    (hdg : decode cc pc = .ok (.invokeinterface index count, 5))
    (kk : ∀ (r : Int32) (u : S) (H1 : Heap) (locs1 : List Loc), post r u → qW D g A s.heap s (W' u) H1 locs1 → W p l e R s m args below meth c H1 locs1 (cells + mc) (slots + ms) Q (F0 m (pc + 5) ls (.int r :: rest))) : W p l e R s m args below meth c H locs cells slots Q (F0 m pc ls st) :=
  va_callFi (va_runF (q_hat hW hc) C hM (va_cwF As.length C.2.2.2.2 hT hw hrc hrs hF hd hR) (qe_preV hE hW hp hc he) rfl rfl hl hst (lv_room hrm) hdg hf) hW.2.2.2.1 (fun z _ h => q_free hW hp z h) (q_free hW hp) (fun r u t H1 locs1 ht _ hpo hB _ hk hS => kk r u H1 locs1 hpo (q_back hW hp hp' ht hB hk hS))
end QNC
