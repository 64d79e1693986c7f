/-! Rows of my own over the kit's: a walk's world in one fact (qW), array places by numbers, calls with the frame rule by permutations. -/
section QA
variable {D : va_G} {g : Nat → ClassId} {A : Nat → Prop} {H0 H H1 : Heap} {s : State} {w w' wc wr w1 : va_W} {locs : List Loc} {cl : List vw_C}
abbrev tyA (g : Nat → ClassId) : List (ClassId × FieldType) := [(g 0, .char), (g 1, .int), (g 2, .boolean), (g 3, .object "java/lang/Object"), (g 4, .long), (g 5, .double)]
def qW (D : va_G) (g : Nat → ClassId) (A : Nat → Prop) (H0 : Heap) (s : State) (w : va_W) (H : Heap) (locs : List Loc) : Prop :=
  va_P D vwCl w H ∧ va_K D vwCl (tyA g) s ∧ va_D A w ∧ va_S A H0 H locs ∧ ∀ q : Nat, H0.size ≤ q → A q
def bI (b : Bool) : Int32 := if b then 1 else 0
theorem bI_t : bI true = 1 := rfl
theorem bI_f : bI false = 0 := rfl
theorem q_Pmem : va_P D cl w H ↔ ∀ q ∈ w, va_at D cl q H := by
  constructor
  · intro h q hq
    obtain ⟨k, hk⟩ := List.getElem?_of_mem hq
    exact h k q hk
  · intro h k q hk
    exact h q (List.mem_of_getElem? hk)
theorem q_Dmem : va_D A w ↔ (w.map Prod.fst).Nodup ∧ ∀ q ∈ w, A q.1 := by
  constructor
  · intro h
    refine ⟨?_, fun q hq => ?_⟩
    · rw [List.Nodup, List.pairwise_iff_getElem]
      intro i j hi hj hij e
      simp only [List.length_map] at hi hj
      simp only [List.getElem_map] at e
      have := h.1 i j w[i] w[j] (List.getElem?_eq_getElem hi) (List.getElem?_eq_getElem hj) e
      omega
    · obtain ⟨k, hk⟩ := List.getElem?_of_mem hq
      exact h.2 k q hk
  · intro ⟨h1, h2⟩
    refine ⟨fun i j p q hi hj e => ?_, fun k q hk => h2 q (List.mem_of_getElem? hk)⟩
    rw [List.Nodup, List.pairwise_iff_getElem] at h1
    obtain ⟨hi', ei⟩ := List.getElem?_eq_some_iff.mp hi
    obtain ⟨hj', ej⟩ := List.getElem?_eq_some_iff.mp hj
    rcases Nat.lt_trichotomy i j with h | h | h
    · exact (h1 i j (by simpa using hi') (by simpa using hj') h (by simp [ei, ej, e])).elim
    · exact h
    · exact (h1 j i (by simpa using hj') (by simpa using hi') h (by simp [ei, ej, e])).elim
theorem q_Pperm (hp : w'.Perm w) (h : va_P D cl w H) : va_P D cl w' H := q_Pmem.mpr fun q hq => q_Pmem.mp h q (hp.mem_iff.mp hq)
theorem q_Dperm (hp : w'.Perm w) (h : va_D A w) : va_D A w' := by
  obtain ⟨h1, h2⟩ := q_Dmem.mp h
  exact q_Dmem.mpr ⟨(hp.map Prod.fst).nodup_iff.mpr h1, fun q hq => h2 q (hp.mem_iff.mp hq)⟩
theorem qW.perm (h : qW D g A H0 s w H locs) (hp : w'.Perm w) : qW D g A H0 s w' H locs := ⟨q_Pperm hp h.1, h.2.1, q_Dperm hp h.2.2.1, h.2.2.2⟩
theorem q_Asub {sz q : Nat} : va_A w sz q ↔ (∃ e, (q, e) ∈ w) ∨ sz ≤ q := by
  constructor
  · rintro (⟨k, e, h⟩ | h)
    · exact Or.inl ⟨e, List.mem_of_getElem? h⟩
    · exact Or.inr h
  · rintro (⟨e, h⟩ | h)
    · obtain ⟨k, hk⟩ := List.getElem?_of_mem h
      exact Or.inl ⟨k, e, hk⟩
    · exact Or.inr h
/-- the callee's part of the world, cut out: what the callee may change is the caller's to change -/
theorem q_free (h : qW D g A H0 s w H locs) (hp : w.Perm (wc ++ wr)) : ∀ q, va_A wc H.size q → A q := by
  intro q hq
  rcases q_Asub.mp hq with ⟨e, he⟩ | he
  · exact (q_Dmem.mp h.2.2.1).2 (q, e) (hp.mem_iff.mpr (List.mem_append_left _ he))
  · exact h.2.2.2.2 q (Nat.le_trans h.2.2.2.1.1 he)
theorem q_join (hp : w.Perm (wc ++ wr)) (hP : va_P D cl w H) (hD : va_D A w)
    (hk : ∀ q : Nat, q < H.size → ¬ va_A wc H.size q → H1[q]? = H[q]?) (hF : ∀ q, va_A wc H.size q → A q) (hP1 : va_P D cl w1 H1) (hD1 : va_D (va_A wc H.size) w1) : va_P D cl (w1 ++ wr) H1 ∧ va_D A (w1 ++ wr) := by
  have hP2 := q_Pmem.mp (q_Pperm hp.symm hP)
  obtain ⟨hn, hA⟩ := q_Dmem.mp (q_Dperm hp.symm hD)
  obtain ⟨hn1, hA1⟩ := q_Dmem.mp hD1
  rw [List.map_append, List.nodup_append] at hn
  have apart : ∀ q ∈ wr, q.1 < H.size ∧ ¬ va_A wc H.size q.1 := by
    intro q hq
    have hlt := (hP2 q (List.mem_append_right _ hq)).lt
    refine ⟨hlt, fun h => ?_⟩
    rcases q_Asub.mp h with ⟨e, he⟩ | he
    · exact hn.2.2 q.1 (List.mem_map.mpr ⟨(q.1, e), he, rfl⟩) q.1 (List.mem_map.mpr ⟨q, hq, rfl⟩) rfl
    · omega
  refine ⟨q_Pmem.mpr fun q hq => ?_, q_Dmem.mpr ⟨?_, fun q hq => ?_⟩⟩
  · rcases List.mem_append.mp hq with h | h
    · exact q_Pmem.mp hP1 q h
    · exact (hP2 q (List.mem_append_right _ h)).kept (hk q.1 (apart q h).1 (apart q h).2)
  · rw [List.map_append, List.nodup_append]
    refine ⟨hn1, hn.2.1, fun a ha b hb => ?_⟩
    intro e
    obtain ⟨x, hx, ex⟩ := List.mem_map.mp ha
    obtain ⟨y, hy, ey⟩ := List.mem_map.mp hb
    exact (apart y hy).2 (by rw [ey, ← e, ← ex]; exact hA1 x hx)
  · rcases List.mem_append.mp hq with h | h
    · exact hF q.1 (hA1 q h)
    · exact hA q (List.mem_append_right _ h)
/-- which block of a world is a call's: the first, the second .. -/
theorem pm_all : w.Perm (w ++ []) := by rw [List.append_nil]
theorem pm_0 {b0 x : va_W} : (b0 ++ x).Perm (b0 ++ x) := List.Perm.refl _
theorem pm_1 {b0 b1 x : va_W} : (b0 ++ (b1 ++ x)).Perm (b1 ++ (b0 ++ x)) := List.perm_append_comm_assoc _ _ _
theorem pm_2 {b0 b1 b2 x : va_W} : (b0 ++ (b1 ++ (b2 ++ x))).Perm (b2 ++ (b0 ++ (b1 ++ x))) := (pm_1.append_left b0).trans pm_1
theorem pm_3 {b0 b1 b2 b3 x : va_W} : (b0 ++ (b1 ++ (b2 ++ (b3 ++ x)))).Perm (b3 ++ (b0 ++ (b1 ++ (b2 ++ x)))) := (pm_2.append_left b0).trans pm_1
theorem pm_4 {b0 b1 b2 b3 b4 x : va_W} : (b0 ++ (b1 ++ (b2 ++ (b3 ++ (b4 ++ x))))).Perm (b4 ++ (b0 ++ (b1 ++ (b2 ++ (b3 ++ x))))) := (pm_3.append_left b0).trans pm_1
theorem pm_5 {b0 b1 b2 b3 b4 b5 x : va_W} : (b0 ++ (b1 ++ (b2 ++ (b3 ++ (b4 ++ (b5 ++ x)))))).Perm (b5 ++ (b0 ++ (b1 ++ (b2 ++ (b3 ++ (b4 ++ x)))))) := (pm_4.append_left b0).trans pm_1
theorem pm_6 {b0 b1 b2 b3 b4 b5 b6 x : va_W} : (b0 ++ (b1 ++ (b2 ++ (b3 ++ (b4 ++ (b5 ++ (b6 ++ x))))))).Perm (b6 ++ (b0 ++ (b1 ++ (b2 ++ (b3 ++ (b4 ++ (b5 ++ x))))))) := (pm_5.append_left b0).trans pm_1
end QA
section QE
/-- a method's start and ends over a world -/
def qPc (D : va_G) (g : Nat → ClassId) (av : List Value) (w : va_W) (sz : Nat) : Array Value → State → Prop := va_Pc av (fun U => U.heap.size = sz ∧ va_P D vwCl w U.heap ∧ va_K D vwCl (tyA g) U ∧ va_D (fun _ => True) w)
def qB (D : va_G) (g : Nat → ClassId) (w : va_W) (sz : Nat) {S : Type} (w' : S → va_W) (u : S) (t : State) : Prop := va_P D vwCl (w' u) t.heap ∧ va_K D vwCl (tyA g) t ∧ va_D (va_A w sz) (w' u)
def qMi (l : Launch) (y : MethodName) (ws : List Cond) (rm : Room) (D : va_G) (g : Nat → ClassId) (av : List Value) (w : va_W) (sz : Nat) {S : Type} (post : Int32 → S → Prop) (w' : S → va_W) (mc ms : Nat) : Prop :=
  Met l y ws rm (qPc D g av w sz) (va_Qi post (qB D g w sz w') (va_A w sz)) mc ms (va_A w sz)
def qMv (l : Launch) (y : MethodName) (ws : List Cond) (rm : Room) (D : va_G) (g : Nat → ClassId) (av : List Value) (w : va_W) (sz : Nat) {S : Type} (post : S → Prop) (w' : S → va_W) (mc ms : Nat) : Prop :=
  Met l y ws rm (qPc D g av w sz) (va_Qv post (qB D g w sz w') (va_A w sz)) mc ms (va_A w sz)
def qMl (l : Launch) (y : MethodName) (ws : List Cond) (rm : Room) (D : va_G) (g : Nat → ClassId) (av : List Value) (w : va_W) (sz : Nat) {S : Type} (post : Int64 → S → Prop) (w' : S → va_W) (mc ms : Nat) : Prop :=
  Met l y ws rm (qPc D g av w sz) (va_Ql post (qB D g w sz w') (va_A w sz)) mc ms (va_A w sz)
def qMf (l : Launch) (y : MethodName) (ws : List Cond) (rm : Room) (D : va_G) (g : Nat → ClassId) (av : List Value) (w : va_W) (sz : Nat) {S : Type} (post : UInt32 → S → Prop) (w' : S → va_W) (mc ms : Nat) : Prop :=
  Met l y ws rm (qPc D g av w sz) (va_Qf post (qB D g w sz w') (va_A w sz)) mc ms (va_A w sz)
def qMd (l : Launch) (y : MethodName) (ws : List Cond) (rm : Room) (D : va_G) (g : Nat → ClassId) (av : List Value) (w : va_W) (sz : Nat) {S : Type} (post : UInt64 → S → Prop) (w' : S → va_W) (mc ms : Nat) : Prop :=
  Met l y ws rm (qPc D g av w sz) (va_Qd post (qB D g w sz w') (va_A w sz)) mc ms (va_A w sz)
def qMq (l : Launch) (y : MethodName) (ws : List Cond) (rm : Room) (D : va_G) (g : Nat → ClassId) (av : List Value) (w : va_W) (sz : Nat) {S : Type} (post : Option Nat → S → Prop) (w' : S → va_W) (mc ms : Nat) : Prop :=
  Met l y ws rm (qPc D g av w sz) (va_Qq post (qB D g w sz w') (va_A w sz)) mc ms (va_A w sz)
variable {l : Launch} {y : MethodName} {ws ws' : List Cond} {rm : Room} {D : va_G} {g : Nat → ClassId} {av : List Value} {w : va_W} {sz : Nat} {S : Type} {w' : S → va_W} {mc ms : Nat} {cc : ByteArray} {nL : Nat}
theorem q_blind : FrameBlind (qPc D g av w sz) := by
  intro a U gg mk q
  obtain ⟨q0, q1, qP, qK, qD⟩ := q
  exact ⟨q0, q1, qP, va_K.moved (u := U) (U := U.calling gg mk a) (Vm.Alike.refl U.vm) qK, qD⟩
/-- the body of a method, from its entry -/
theorem q_entry {Qc : Array Value → State → Outcome → State → Prop} {ret : Option FieldType} (hw : ws = Cond.code y cc nL ret :: ws') (hy : plainName y.cls = true) (hn : (lg_sl av).length ≤ nL)
    (body : ∀ (p : Program) (e : Env) (s : State) (m : MethodId) (below : List Frame) (meth : Method) (c : Code) (ls : Array Slot), CallFix p m c cc nL s av.toArray ws y.cls → meth.sig.returnType = ret → meth.locks = false → meth.name = y.name → s.heap.size = sz →
      qW D g (va_A w sz) s.heap s w s.heap [] → lv_has ls nL (lv_args 0 av) →
      W p l e rm s m av.toArray below meth c s.heap [] 0 0 (MQ below Qc av.toArray s mc ms (va_A w sz)) (F0 m 0 ls [])) : Met l y ws rm (qPc D g av w sz) Qc mc ms (va_A w sz) := by
  refine Met.ofW (cc := cc) (maxL := nL) (ret := ret) hy hw ?_
  intro p e s m args below meth c s₁ B hml hv
  obtain ⟨rfl, hsz, hP, hK, hD0⟩ := hv
  have hl := lv_entry av (n := nL) hn
  rw [lg_entry_eq]
  generalize (lg_sl av ++ List.replicate (nL - (lg_sl av).length) Slot.unset).toArray = ls at hl ⊢
  refine body p e s m below meth c ls ⟨B.exec, B.bytes, hml, findClass_of_methodNamed B.named, atoms_spec (ws := ws) B.pre⟩ B.returns B.notSynchronized (name_of_methodNamed B.named B.method).1 hsz ⟨hP, hK, ?_, va_S.rf, fun q h => Or.inr (by rw [← hsz]; exact h)⟩ hl
  exact hD0.self
end QE
section QC
variable {p : Program} {l : Launch} {e : Env} {R : Room} {s : State} {m : MethodId} {args : Array Value} {below : List Frame} {meth : Method} {c : Code} {H : Heap} {locs : List Loc} {cells slots : Nat} {Q : State → Prop}
variable {cc : ByteArray} {nL : Nat} {Ts : List Cond} {own : String} {D : va_G} {g : Nat → ClassId} {A : Nat → Prop} {H0 : Heap} {w : va_W} {pc : Nat} {ls : Array Slot} {rest st : List Value} {a : Nat}
/-- fields -/
theorem q_get (C : CallFix p m c cc nL s args Ts own) (hW : qW D g A H0 s w H locs) {ref K : String} {T : u_T} {N ci index : Nat} (q0 : Nat) {fs : List Value} (he : w[q0]? = some (a, .inr (ci, fs))) (hc : vwCl[ci]? = some (K, T, N)) (k : Nat) (hk : k < N) (hin : ∀ z ∈ u_ws K T N, z ∈ Ts)
    (hlink : (Cond.fieldLink own index ref (T k).2.1 (T k).2.2.1).before args s = true) (hr : (T k).1 = ref) {v : Value} (hv : fs[k]? = some v) (hdg : decode cc pc = .ok (.getfield index, 3))
    (kk : W p l e R s m args below meth c H locs cells slots Q (F0 m (pc + 3) ls (v :: rest))) : W p l e R s m args below meth c H locs cells slots Q (F0 m pc ls (.ref a :: rest)) :=
  va_get C.1 C.2.1 C.2.2.2.2 hin C.2.2.2.1 hW.2.1 hW.1 q0 he hc k hk hlink (fun x hx => by rw [← hr]; exact hx) hv hdg kk
theorem q_put (C : CallFix p m c cc nL s args Ts own) (hW : qW D g A H0 s w H locs) {ref K : String} {T : u_T} {N ci index : Nat} (q0 : Nat) {fs : List Value} (he : w[q0]? = some (a, .inr (ci, fs))) (hc : vwCl[ci]? = some (K, T, N)) (k : Nat) (hk : k < N) (hin : ∀ z ∈ u_ws K T N, z ∈ Ts) {ty0 : Nat → FieldType} (hty : ∀ k, k < N → parseFieldDescriptor (T k).2.2.1 = some (ty0 k)) (hnm : ∀ a, a < N → ∀ b, b < N → a ≠ b → (T a).2.1 ≠ (T b).2.1)
    (hlink : (Cond.fieldLink own index ref (T k).2.1 (T k).2.2.1).before args s = true) (hr : (T k).1 = ref) (hfin : (T k).2.2.2 = false) {v : Value} (hn : narrow (ty0 k) v = v) (hfit : fits (ty0 k) v = true) (hl : k < fs.length) (w' : va_W) (hw : w.set q0 (a, .inr (ci, fs.set k v)) = w') (hdg : decode cc pc = .ok (.putfield index, 3))
    (kk : ∀ (H1 : Heap) (locs1 : List Loc), qW D g A H0 s w' H1 locs1 → W p l e R s m args below meth c H1 locs1 cells slots Q (F0 m (pc + 3) ls rest)) : W p l e R s m args below meth c H locs cells slots Q (F0 m pc ls (v :: .ref a :: rest)) := by
  subst hw
  exact va_put C.1 C.2.1 C.2.2.2.2 hin ty0 hty hnm C.2.2.2.1 hW.2.1 hW.1 hW.2.2.1 hW.2.2.2.1 q0 he hc k hk hlink (fun x hx => by rw [← hr]; exact hx) hfin (hty k hk) hn hfit hl hdg (fun H1 locs1 h1 h2 h3 => kk H1 locs1 ⟨h1, hW.2.1, h2, h3, hW.2.2.2.2⟩)
theorem q_putF (C : CallFix p m c cc nL s args Ts own) (hW : qW D g A H0 s w H locs) {ref K : String} {T : u_T} {N ci index : Nat} (q0 : Nat) {fs : List Value} (he : w[q0]? = some (a, .inr (ci, fs))) (hc : vwCl[ci]? = some (K, T, N)) (k : Nat) (hk : k < N) (hin : ∀ z ∈ u_ws K T N, z ∈ Ts) {ty0 : Nat → FieldType} (hty : ∀ k, k < N → parseFieldDescriptor (T k).2.2.1 = some (ty0 k)) (hnm : ∀ a, a < N → ∀ b, b < N → a ≠ b → (T a).2.1 ≠ (T b).2.1)
    (hlink : (Cond.fieldLink own index ref (T k).2.1 (T k).2.2.1).before args s = true) (hr : (T k).1 = ref) (hfin : (T k).2.2.2 = true) (hi : meth.name = "<init>") (ho : (T k).1 = own) {v : Value} (hn : narrow (ty0 k) v = v) (hfit : fits (ty0 k) v = true) (hl : k < fs.length) (w' : va_W) (hw : w.set q0 (a, .inr (ci, fs.set k v)) = w') (hdg : decode cc pc = .ok (.putfield index, 3))
    (kk : ∀ (H1 : Heap) (locs1 : List Loc), qW D g A H0 s w' H1 locs1 → W p l e R s m args below meth c H1 locs1 cells slots Q (F0 m (pc + 3) ls rest)) : W p l e R s m args below meth c H locs cells slots Q (F0 m pc ls (v :: .ref a :: rest)) := by
  subst hw
  exact va_putF C.1 C.2.1 C.2.2.2.2 hin ty0 hty hnm C.2.2.2.1 hW.2.1 hW.1 hW.2.2.1 hW.2.2.2.1 q0 he hc k hk hlink (fun x hx => by rw [← hr]; exact hx) hfin hi ho (hty k hk) hn hfit hl hdg (fun H1 locs1 h1 h2 h3 => kk H1 locs1 ⟨h1, hW.2.1, h2, h3, hW.2.2.2.2⟩)
/-- arrays, places by numbers -/
theorem q_iald (C : CallFix p m c cc nL s args Ts own) (hW : qW D g A H0 s w H locs) (q0 : Nat) {n : Nat} {f : Nat → Int32} (ha : w[q0]? = some (a, .inl (g 1, n, .inl f))) {k : Nat} (hk : k < n) (hn : n < 2 ^ 31) (hdg : decode cc pc = .ok (.iaload, 1))
    (kk : W p l e R s m args below meth c H locs cells slots Q (F0 m (pc + 1) ls (.int (f k) :: rest))) : W p l e R s m args below meth c H locs cells slots Q (F0 m pc ls (.int (nI k) :: .ref a :: rest)) := by
  refine va_iald C.1 C.2.1 hW.2.1 hW.1 q0 1 ha rfl (vp_in_nI hk hn) hdg ?_
  rw [nI_clamp (by omega)]; exact kk
theorem q_zald (C : CallFix p m c cc nL s args Ts own) (hW : qW D g A H0 s w H locs) (q0 : Nat) {n : Nat} {f : Nat → Int32} (ha : w[q0]? = some (a, .inl (g 2, n, .inl f))) {k : Nat} (hk : k < n) (hn : n < 2 ^ 31) (hdg : decode cc pc = .ok (.baload, 1))
    (kk : W p l e R s m args below meth c H locs cells slots Q (F0 m (pc + 1) ls (.int (f k) :: rest))) : W p l e R s m args below meth c H locs cells slots Q (F0 m pc ls (.int (nI k) :: .ref a :: rest)) := by
  refine va_zald C.1 C.2.1 hW.2.1 hW.1 q0 2 ha rfl (vp_in_nI hk hn) hdg ?_
  rw [nI_clamp (by omega)]; exact kk
theorem q_cald (C : CallFix p m c cc nL s args Ts own) (hW : qW D g A H0 s w H locs) (q0 : Nat) {n : Nat} {f : Nat → Int32} (ha : w[q0]? = some (a, .inl (g 0, n, .inl f))) {k : Nat} (hk : k < n) (hn : n < 2 ^ 31) (hdg : decode cc pc = .ok (.caload, 1))
    (kk : W p l e R s m args below meth c H locs cells slots Q (F0 m (pc + 1) ls (.int (f k) :: rest))) : W p l e R s m args below meth c H locs cells slots Q (F0 m pc ls (.int (nI k) :: .ref a :: rest)) := by
  refine va_cald C.1 C.2.1 hW.2.1 hW.1 q0 0 ha rfl (vp_in_nI hk hn) hdg ?_
  rw [nI_clamp (by omega)]; exact kk
theorem q_lald (C : CallFix p m c cc nL s args Ts own) (hW : qW D g A H0 s w H locs) (q0 : Nat) {n : Nat} {f : Nat → Int64} (ha : w[q0]? = some (a, .inl (g 4, n, .inr (.inl f)))) {k : Nat} (hk : k < n) (hn : n < 2 ^ 31) (hdg : decode cc pc = .ok (.laload, 1))
    (kk : W p l e R s m args below meth c H locs cells slots Q (F0 m (pc + 1) ls (.long (f k) :: rest))) : W p l e R s m args below meth c H locs cells slots Q (F0 m pc ls (.int (nI k) :: .ref a :: rest)) := by
  refine va_lald C.1 C.2.1 hW.2.1 hW.1 q0 4 ha rfl (vp_in_nI hk hn) hdg ?_
  rw [nI_clamp (by omega)]; exact kk
theorem q_dald (C : CallFix p m c cc nL s args Ts own) (hW : qW D g A H0 s w H locs) (q0 : Nat) {n : Nat} {f : Nat → UInt64} (ha : w[q0]? = some (a, .inl (g 5, n, .inr (.inr (.inr (.inl f)))))) {k : Nat} (hk : k < n) (hn : n < 2 ^ 31) (hdg : decode cc pc = .ok (.daload, 1))
    (kk : W p l e R s m args below meth c H locs cells slots Q (F0 m (pc + 1) ls (.double (f k) :: rest))) : W p l e R s m args below meth c H locs cells slots Q (F0 m pc ls (.int (nI k) :: .ref a :: rest)) := by
  refine va_dald C.1 C.2.1 hW.2.1 hW.1 q0 5 ha rfl (vp_in_nI hk hn) hdg ?_
  rw [nI_clamp (by omega)]; exact kk
theorem q_iast (C : CallFix p m c cc nL s args Ts own) (hW : qW D g A H0 s w H locs) (q0 : Nat) {n : Nat} {f : Nat → Int32} (ha : w[q0]? = some (a, .inl (g 1, n, .inl f))) {k : Nat} (hk : k < n) (hn : n < 2 ^ 31) {x : Int32} (w' : va_W) (hw : w.set q0 (a, .inl (g 1, n, .inl (upd f k x))) = w') (hdg : decode cc pc = .ok (.iastore, 1))
    (kk : ∀ (H1 : Heap) (locs1 : List Loc), qW D g A H0 s w' H1 locs1 → W p l e R s m args below meth c H1 locs1 cells slots Q (F0 m (pc + 1) ls rest)) : W p l e R s m args below meth c H locs cells slots Q (F0 m pc ls (.int x :: .int (nI k) :: .ref a :: rest)) := by
  subst hw
  refine va_iast C.1 C.2.1 hW.2.1 hW.1 hW.2.2.1 hW.2.2.2.1 q0 1 ha rfl (vp_in_nI hk hn) hdg (fun H1 locs1 h1 h2 h3 => ?_)
  rw [nI_clamp (by omega)] at h1 h2
  exact kk H1 locs1 ⟨h1, hW.2.1, h2, h3, hW.2.2.2.2⟩
theorem q_zast (C : CallFix p m c cc nL s args Ts own) (hW : qW D g A H0 s w H locs) (q0 : Nat) {n : Nat} {f : Nat → Int32} (ha : w[q0]? = some (a, .inl (g 2, n, .inl f))) {k : Nat} (hk : k < n) (hn : n < 2 ^ 31) {x : Int32} (hx : vp_nar .boolean x = x) (w' : va_W) (hw : w.set q0 (a, .inl (g 2, n, .inl (upd f k x))) = w') (hdg : decode cc pc = .ok (.bastore, 1))
    (kk : ∀ (H1 : Heap) (locs1 : List Loc), qW D g A H0 s w' H1 locs1 → W p l e R s m args below meth c H1 locs1 cells slots Q (F0 m (pc + 1) ls rest)) : W p l e R s m args below meth c H locs cells slots Q (F0 m pc ls (.int x :: .int (nI k) :: .ref a :: rest)) := by
  subst hw
  refine va_zast C.1 C.2.1 hW.2.1 hW.1 hW.2.2.1 hW.2.2.2.1 q0 2 ha rfl (vp_in_nI hk hn) hdg (fun H1 locs1 h1 h2 h3 => ?_)
  rw [nI_clamp (by omega), hx] at h1 h2
  exact kk H1 locs1 ⟨h1, hW.2.1, h2, h3, hW.2.2.2.2⟩
theorem q_cast (C : CallFix p m c cc nL s args Ts own) (hW : qW D g A H0 s w H locs) (q0 : Nat) {n : Nat} {f : Nat → Int32} (ha : w[q0]? = some (a, .inl (g 0, n, .inl f))) {k : Nat} (hk : k < n) (hn : n < 2 ^ 31) {x : Int32} (hx : vp_nar .char x = x) (w' : va_W) (hw : w.set q0 (a, .inl (g 0, n, .inl (upd f k x))) = w') (hdg : decode cc pc = .ok (.castore, 1))
    (kk : ∀ (H1 : Heap) (locs1 : List Loc), qW D g A H0 s w' H1 locs1 → W p l e R s m args below meth c H1 locs1 cells slots Q (F0 m (pc + 1) ls rest)) : W p l e R s m args below meth c H locs cells slots Q (F0 m pc ls (.int x :: .int (nI k) :: .ref a :: rest)) := by
  subst hw
  refine va_cast C.1 C.2.1 hW.2.1 hW.1 hW.2.2.1 hW.2.2.2.1 q0 0 ha rfl (vp_in_nI hk hn) hdg (fun H1 locs1 h1 h2 h3 => ?_)
  rw [nI_clamp (by omega), hx] at h1 h2
  exact kk H1 locs1 ⟨h1, hW.2.1, h2, h3, hW.2.2.2.2⟩
theorem q_last (C : CallFix p m c cc nL s args Ts own) (hW : qW D g A H0 s w H locs) (q0 : Nat) {n : Nat} {f : Nat → Int64} (ha : w[q0]? = some (a, .inl (g 4, n, .inr (.inl f)))) {k : Nat} (hk : k < n) (hn : n < 2 ^ 31) {x : Int64} (w' : va_W) (hw : w.set q0 (a, .inl (g 4, n, .inr (.inl (vp_updL f k x)))) = w') (hdg : decode cc pc = .ok (.lastore, 1))
    (kk : ∀ (H1 : Heap) (locs1 : List Loc), qW D g A H0 s w' H1 locs1 → W p l e R s m args below meth c H1 locs1 cells slots Q (F0 m (pc + 1) ls rest)) : W p l e R s m args below meth c H locs cells slots Q (F0 m pc ls (.long x :: .int (nI k) :: .ref a :: rest)) := by
  subst hw
  refine va_last C.1 C.2.1 hW.2.1 hW.1 hW.2.2.1 hW.2.2.2.1 q0 4 ha rfl (vp_in_nI hk hn) hdg (fun H1 locs1 h1 h2 h3 => ?_)
  rw [nI_clamp (by omega)] at h1 h2
  exact kk H1 locs1 ⟨h1, hW.2.1, h2, h3, hW.2.2.2.2⟩
/-- numbers -/
theorem q_to {x y : Int32} (h : x = y) (k : W p l e R s m args below meth c H locs cells slots Q (F0 m pc ls (.int y :: rest))) : W p l e R s m args below meth c H locs cells slots Q (F0 m pc ls (.int x :: rest)) := h ▸ k
theorem q_iadd (C : CallFix p m c cc nL s args Ts own) {x y : Nat} (hdg : decode cc pc = .ok (.iadd, 1)) (k : W p l e R s m args below meth c H locs cells slots Q (F0 m (pc + 1) ls (.int (nI (x + y)) :: rest))) : W p l e R s m args below meth c H locs cells slots Q (F0 m pc ls (.int (nI y) :: .int (nI x) :: rest)) :=
  lv_iadd C.1 C.2.1 hdg (by rw [nI_add]; exact k)
theorem q_imul (C : CallFix p m c cc nL s args Ts own) {x y : Nat} (hdg : decode cc pc = .ok (.imul, 1)) (k : W p l e R s m args below meth c H locs cells slots Q (F0 m (pc + 1) ls (.int (nI (x * y)) :: rest))) : W p l e R s m args below meth c H locs cells slots Q (F0 m pc ls (.int (nI y) :: .int (nI x) :: rest)) :=
  lv_imul C.1 C.2.1 hdg (by rw [pk_mul]; exact k)
theorem q_isub (C : CallFix p m c cc nL s args Ts own) {x y : Nat} (h : y ≤ x) (hdg : decode cc pc = .ok (.isub, 1)) (k : W p l e R s m args below meth c H locs cells slots Q (F0 m (pc + 1) ls (.int (nI (x - y)) :: rest))) : W p l e R s m args below meth c H locs cells slots Q (F0 m pc ls (.int (nI y) :: .int (nI x) :: rest)) :=
  lv_isub C.1 C.2.1 hdg (by rw [pk_sub h]; exact k)
theorem q_idiv (C : CallFix p m c cc nL s args Ts own) {x y : Nat} (hx : x < 2 ^ 31) (h0 : 0 < y) (hy : y < 2 ^ 31) (hdg : decode cc pc = .ok (.idiv, 1)) (k : W p l e R s m args below meth c H locs cells slots Q (F0 m (pc + 1) ls (.int (nI (x / y)) :: rest))) : W p l e R s m args below meth c H locs cells slots Q (F0 m pc ls (.int (nI y) :: .int (nI x) :: rest)) :=
  lv_idiv C.1 C.2.1 hdg (nI_ne0 h0 hy) (by rw [pk_div hx h0 hy]; exact k)
theorem q_irem (C : CallFix p m c cc nL s args Ts own) {x y : Nat} (hx : x < 2 ^ 31) (h0 : 0 < y) (hy : y < 2 ^ 31) (hdg : decode cc pc = .ok (.irem, 1)) (k : W p l e R s m args below meth c H locs cells slots Q (F0 m (pc + 1) ls (.int (nI (x % y)) :: rest))) : W p l e R s m args below meth c H locs cells slots Q (F0 m pc ls (.int (nI y) :: .int (nI x) :: rest)) :=
  lv_irem C.1 C.2.1 hdg (nI_ne0 h0 hy) (by rw [pk_rem hx h0 hy]; exact k)
theorem q_lt (C : CallFix p m c cc nL s args Ts own) {x y : Nat} {off : Int} {tgt : Nat} (hx : x < 2 ^ 31) (hy : y < 2 ^ 31) (hdg : decode cc pc = .ok (.if_icmp .lt off, 3)) (ht : (pc : Int) + off = (tgt : Int)) (kt : x < y → W p l e R s m args below meth c H locs cells slots Q (F0 m tgt ls rest)) (kf : y ≤ x → W p l e R s m args below meth c H locs cells slots Q (F0 m (pc + 3) ls rest)) : W p l e R s m args below meth c H locs cells slots Q (F0 m pc ls (.int (nI y) :: .int (nI x) :: rest)) :=
  lv_icmp_lt C.1 C.2.1 hdg ht (fun h => kt ((nI_ltI hx hy).mp h)) (fun h => kf (Nat.not_lt.mp fun z => h ((nI_ltI hx hy).mpr z)))
theorem q_ge (C : CallFix p m c cc nL s args Ts own) {x y : Nat} {off : Int} {tgt : Nat} (hx : x < 2 ^ 31) (hy : y < 2 ^ 31) (hdg : decode cc pc = .ok (.if_icmp .ge off, 3)) (ht : (pc : Int) + off = (tgt : Int)) (kt : y ≤ x → W p l e R s m args below meth c H locs cells slots Q (F0 m tgt ls rest)) (kf : x < y → W p l e R s m args below meth c H locs cells slots Q (F0 m (pc + 3) ls rest)) : W p l e R s m args below meth c H locs cells slots Q (F0 m pc ls (.int (nI y) :: .int (nI x) :: rest)) :=
  lv_icmp_ge C.1 C.2.1 hdg ht (fun h => kt ((nI_leI hy hx).mp h)) (fun h => kf (Nat.not_le.mp fun z => h ((nI_leI hy hx).mpr z)))
theorem q_gt (C : CallFix p m c cc nL s args Ts own) {x y : Nat} {off : Int} {tgt : Nat} (hx : x < 2 ^ 31) (hy : y < 2 ^ 31) (hdg : decode cc pc = .ok (.if_icmp .gt off, 3)) (ht : (pc : Int) + off = (tgt : Int)) (kt : y < x → W p l e R s m args below meth c H locs cells slots Q (F0 m tgt ls rest)) (kf : x ≤ y → W p l e R s m args below meth c H locs cells slots Q (F0 m (pc + 3) ls rest)) : W p l e R s m args below meth c H locs cells slots Q (F0 m pc ls (.int (nI y) :: .int (nI x) :: rest)) :=
  lv_icmp_gt C.1 C.2.1 hdg ht (fun h => kt ((nI_ltI hy hx).mp h)) (fun h => kf (Nat.not_lt.mp fun z => h ((nI_ltI hy hx).mpr z)))
theorem q_le (C : CallFix p m c cc nL s args Ts own) {x y : Nat} {off : Int} {tgt : Nat} (hx : x < 2 ^ 31) (hy : y < 2 ^ 31) (hdg : decode cc pc = .ok (.if_icmp .le off, 3)) (ht : (pc : Int) + off = (tgt : Int)) (kt : x ≤ y → W p l e R s m args below meth c H locs cells slots Q (F0 m tgt ls rest)) (kf : y < x → W p l e R s m args below meth c H locs cells slots Q (F0 m (pc + 3) ls rest)) : W p l e R s m args below meth c H locs cells slots Q (F0 m pc ls (.int (nI y) :: .int (nI x) :: rest)) :=
  lv_icmp_le C.1 C.2.1 hdg ht (fun h => kt ((nI_leI hx hy).mp h)) (fun h => kf (Nat.not_le.mp fun z => h ((nI_leI hx hy).mpr z)))
theorem q_eq (C : CallFix p m c cc nL s args Ts own) {x y : Nat} {off : Int} {tgt : Nat} (hx : x < 2 ^ 31) (hy : y < 2 ^ 31) (hdg : decode cc pc = .ok (.if_icmp .eq off, 3)) (ht : (pc : Int) + off = (tgt : Int)) (kt : x = y → W p l e R s m args below meth c H locs cells slots Q (F0 m tgt ls rest)) (kf : ¬ x = y → W p l e R s m args below meth c H locs cells slots Q (F0 m (pc + 3) ls rest)) : W p l e R s m args below meth c H locs cells slots Q (F0 m pc ls (.int (nI y) :: .int (nI x) :: rest)) :=
  lv_icmp_eq C.1 C.2.1 hdg ht (fun h => kt ((nI_eq hx hy).mp h)) (fun h => kf (fun z => h ((nI_eq hx hy).mpr z)))
theorem q_ne (C : CallFix p m c cc nL s args Ts own) {x y : Nat} {off : Int} {tgt : Nat} (hx : x < 2 ^ 31) (hy : y < 2 ^ 31) (hdg : decode cc pc = .ok (.if_icmp .ne off, 3)) (ht : (pc : Int) + off = (tgt : Int)) (kt : ¬ x = y → W p l e R s m args below meth c H locs cells slots Q (F0 m tgt ls rest)) (kf : x = y → W p l e R s m args below meth c H locs cells slots Q (F0 m (pc + 3) ls rest)) : W p l e R s m args below meth c H locs cells slots Q (F0 m pc ls (.int (nI y) :: .int (nI x) :: rest)) :=
  lv_icmp_ne C.1 C.2.1 hdg ht (fun h => kt (fun z => h ((nI_eq hx hy).mpr z))) (fun h => kf ((nI_eq hx hy).mp h))
theorem q_bt (C : CallFix p m c cc nL s args Ts own) {b : Bool} {off : Int} {tgt : Nat} (hdg : decode cc pc = .ok (.ifCond .eq off, 3)) (ht : (pc : Int) + off = (tgt : Int)) (kt : b = false → W p l e R s m args below meth c H locs cells slots Q (F0 m tgt ls rest)) (kf : b = true → W p l e R s m args below meth c H locs cells slots Q (F0 m (pc + 3) ls rest)) : W p l e R s m args below meth c H locs cells slots Q (F0 m pc ls (.int (bI b) :: rest)) :=
  lv_if_eq C.1 C.2.1 hdg ht (fun h => kt (by cases b <;> simp_all [bI])) (fun h => kf (by cases b <;> simp_all [bI]))
theorem q_bf (C : CallFix p m c cc nL s args Ts own) {b : Bool} {off : Int} {tgt : Nat} (hdg : decode cc pc = .ok (.ifCond .ne off, 3)) (ht : (pc : Int) + off = (tgt : Int)) (kt : b = true → W p l e R s m args below meth c H locs cells slots Q (F0 m tgt ls rest)) (kf : b = false → W p l e R s m args below meth c H locs cells slots Q (F0 m (pc + 3) ls rest)) : W p l e R s m args below meth c H locs cells slots Q (F0 m pc ls (.int (bI b) :: rest)) :=
  lv_if_ne C.1 C.2.1 hdg ht (fun h => kt (by cases b <;> simp_all [bI])) (fun h => kf (by cases b <;> simp_all [bI]))
/-- truth values and signs in arrays -/
def aB (f : Nat → Bool) : Nat → Int32 := fun j => bI (f j)
def cI (x : UInt16) : Int32 := nI x.toNat
def aC (f : Nat → UInt16) : Nat → Int32 := fun j => cI (f j)
theorem narB : ∀ b : Bool, narrow .boolean (.int (bI b)) = .int (bI b) := by decide
theorem fitB : ∀ b : Bool, fits .boolean (.int (bI b)) = true := by decide
theorem narC (x : UInt16) : narrow .char (.int (cI x)) = .int (cI x) := (pk_charN x.toNat_lt).1
theorem fitC (x : UInt16) : fits .char (.int (cI x)) = true := (pk_charN x.toNat_lt).2
theorem upB (f : Nat → Bool) (k : Nat) (v : Bool) : upd (aB f) k (bI v) = aB (va_up f k v) := by
  funext j
  unfold upd aB va_up
  by_cases h : j = k <;> simp [h]
theorem upC (f : Nat → UInt16) (k : Nat) (v : UInt16) : upd (aC f) k (cI v) = aC (va_up f k v) := by
  funext j
  unfold upd aC va_up
  by_cases h : j = k <;> simp [h]
theorem vnB (v : Bool) : vp_nar .boolean (bI v) = bI v := by cases v <;> decide
theorem vnC (v : UInt16) : vp_nar .char (cI v) = cI v := by
  have h := narC v
  unfold vp_nar
  rw [h]
theorem q_zaldB (C : CallFix p m c cc nL s args Ts own) (hW : qW D g A H0 s w H locs) (q0 : Nat) {n : Nat} {f : Nat → Bool} (ha : w[q0]? = some (a, .inl (g 2, n, .inl (aB f)))) {k : Nat} (hk : k < n) (hn : n < 2 ^ 31) (hdg : decode cc pc = .ok (.baload, 1))
    (kk : W p l e R s m args below meth c H locs cells slots Q (F0 m (pc + 1) ls (.int (bI (f k)) :: rest))) : W p l e R s m args below meth c H locs cells slots Q (F0 m pc ls (.int (nI k) :: .ref a :: rest)) := q_zald C hW q0 ha hk hn hdg kk
theorem q_caldC (C : CallFix p m c cc nL s args Ts own) (hW : qW D g A H0 s w H locs) (q0 : Nat) {n : Nat} {f : Nat → UInt16} (ha : w[q0]? = some (a, .inl (g 0, n, .inl (aC f)))) {k : Nat} (hk : k < n) (hn : n < 2 ^ 31) (hdg : decode cc pc = .ok (.caload, 1))
    (kk : W p l e R s m args below meth c H locs cells slots Q (F0 m (pc + 1) ls (.int (cI (f k)) :: rest))) : W p l e R s m args below meth c H locs cells slots Q (F0 m pc ls (.int (nI k) :: .ref a :: rest)) := q_cald C hW q0 ha hk hn hdg kk
theorem q_zastB (C : CallFix p m c cc nL s args Ts own) (hW : qW D g A H0 s w H locs) (q0 : Nat) {n : Nat} {f : Nat → Bool} (ha : w[q0]? = some (a, .inl (g 2, n, .inl (aB f)))) {k : Nat} (hk : k < n) (hn : n < 2 ^ 31) {v : Bool} (w' : va_W) (hw : w.set q0 (a, .inl (g 2, n, .inl (aB (va_up f k v)))) = w') (hdg : decode cc pc = .ok (.bastore, 1))
    (kk : ∀ (H1 : Heap) (locs1 : List Loc), qW D g A H0 s w' H1 locs1 → W p l e R s m args below meth c H1 locs1 cells slots Q (F0 m (pc + 1) ls rest)) : W p l e R s m args below meth c H locs cells slots Q (F0 m pc ls (.int (bI v) :: .int (nI k) :: .ref a :: rest)) :=
  q_zast C hW q0 ha hk hn (vnB v) w' (by rw [upB]; exact hw) hdg kk
theorem q_castC (C : CallFix p m c cc nL s args Ts own) (hW : qW D g A H0 s w H locs) (q0 : Nat) {n : Nat} {f : Nat → UInt16} (ha : w[q0]? = some (a, .inl (g 0, n, .inl (aC f)))) {k : Nat} (hk : k < n) (hn : n < 2 ^ 31) {v : UInt16} (w' : va_W) (hw : w.set q0 (a, .inl (g 0, n, .inl (aC (va_up f k v)))) = w') (hdg : decode cc pc = .ok (.castore, 1))
    (kk : ∀ (H1 : Heap) (locs1 : List Loc), qW D g A H0 s w' H1 locs1 → W p l e R s m args below meth c H1 locs1 cells slots Q (F0 m (pc + 1) ls rest)) : W p l e R s m args below meth c H locs cells slots Q (F0 m pc ls (.int (cI v) :: .int (nI k) :: .ref a :: rest)) :=
  q_cast C hW q0 ha hk hn (vnC v) w' (by rw [upC]; exact hw) hdg kk
theorem cI_nI {x : UInt16} {y : Nat} (hy : y < 65536) : cI x = nI y ↔ x = UInt16.ofNat y := by
  unfold cI
  rw [nI_eq (by have := x.toNat_lt; omega) (by omega)]
  constructor
  · intro h
    apply UInt16.toNat_inj.mp
    rw [h, UInt16.toNat_ofNat_of_lt' hy]
  · intro h
    rw [h, UInt16.toNat_ofNat_of_lt' hy]
theorem cI_inj {x y : UInt16} : cI x = cI y ↔ x = y := by
  unfold cI
  rw [nI_eq (by have := x.toNat_lt; omega) (by have := y.toNat_lt; omega), UInt16.toNat_inj]
theorem bI_inj {x y : Bool} : bI x = bI y ↔ x = y := by cases x <;> cases y <;> decide
theorem q_ceq (C : CallFix p m c cc nL s args Ts own) {x : UInt16} {y : Nat} {off : Int} {tgt : Nat} (hy : y < 65536) (hdg : decode cc pc = .ok (.if_icmp .eq off, 3)) (ht : (pc : Int) + off = (tgt : Int)) (kt : x = UInt16.ofNat y → W p l e R s m args below meth c H locs cells slots Q (F0 m tgt ls rest)) (kf : ¬ x = UInt16.ofNat y → W p l e R s m args below meth c H locs cells slots Q (F0 m (pc + 3) ls rest)) : W p l e R s m args below meth c H locs cells slots Q (F0 m pc ls (.int (nI y) :: .int (cI x) :: rest)) :=
  lv_icmp_eq C.1 C.2.1 hdg ht (fun h => kt ((cI_nI hy).mp h)) (fun h => kf (fun z => h ((cI_nI hy).mpr z)))
theorem q_cne (C : CallFix p m c cc nL s args Ts own) {x : UInt16} {y : Nat} {off : Int} {tgt : Nat} (hy : y < 65536) (hdg : decode cc pc = .ok (.if_icmp .ne off, 3)) (ht : (pc : Int) + off = (tgt : Int)) (kt : ¬ x = UInt16.ofNat y → W p l e R s m args below meth c H locs cells slots Q (F0 m tgt ls rest)) (kf : x = UInt16.ofNat y → W p l e R s m args below meth c H locs cells slots Q (F0 m (pc + 3) ls rest)) : W p l e R s m args below meth c H locs cells slots Q (F0 m pc ls (.int (nI y) :: .int (cI x) :: rest)) :=
  lv_icmp_ne C.1 C.2.1 hdg ht (fun h => kt (fun z => h ((cI_nI hy).mpr z))) (fun h => kf ((cI_nI hy).mp h))
theorem q_cceq (C : CallFix p m c cc nL s args Ts own) {x y : UInt16} {off : Int} {tgt : Nat} (hdg : decode cc pc = .ok (.if_icmp .eq off, 3)) (ht : (pc : Int) + off = (tgt : Int)) (kt : x = y → W p l e R s m args below meth c H locs cells slots Q (F0 m tgt ls rest)) (kf : ¬ x = y → W p l e R s m args below meth c H locs cells slots Q (F0 m (pc + 3) ls rest)) : W p l e R s m args below meth c H locs cells slots Q (F0 m pc ls (.int (cI y) :: .int (cI x) :: rest)) :=
  lv_icmp_eq C.1 C.2.1 hdg ht (fun h => kt (cI_inj.mp h)) (fun h => kf (fun z => h (cI_inj.mpr z)))
theorem q_ccne (C : CallFix p m c cc nL s args Ts own) {x y : UInt16} {off : Int} {tgt : Nat} (hdg : decode cc pc = .ok (.if_icmp .ne off, 3)) (ht : (pc : Int) + off = (tgt : Int)) (kt : ¬ x = y → W p l e R s m args below meth c H locs cells slots Q (F0 m tgt ls rest)) (kf : x = y → W p l e R s m args below meth c H locs cells slots Q (F0 m (pc + 3) ls rest)) : W p l e R s m args below meth c H locs cells slots Q (F0 m pc ls (.int (cI y) :: .int (cI x) :: rest)) :=
  lv_icmp_ne C.1 C.2.1 hdg ht (fun h => kt (fun z => h (cI_inj.mpr z))) (fun h => kf (cI_inj.mp h))
theorem q_bbeq (C : CallFix p m c cc nL s args Ts own) {x y : Bool} {off : Int} {tgt : Nat} (hdg : decode cc pc = .ok (.if_icmp .eq off, 3)) (ht : (pc : Int) + off = (tgt : Int)) (kt : x = y → W p l e R s m args below meth c H locs cells slots Q (F0 m tgt ls rest)) (kf : ¬ x = y → W p l e R s m args below meth c H locs cells slots Q (F0 m (pc + 3) ls rest)) : W p l e R s m args below meth c H locs cells slots Q (F0 m pc ls (.int (bI y) :: .int (bI x) :: rest)) :=
  lv_icmp_eq C.1 C.2.1 hdg ht (fun h => kt (bI_inj.mp h)) (fun h => kf (fun z => h (bI_inj.mpr z)))
theorem q_zeq (C : CallFix p m c cc nL s args Ts own) {x : Nat} {off : Int} {tgt : Nat} (hx : x < 2 ^ 31) (hdg : decode cc pc = .ok (.ifCond .eq off, 3)) (ht : (pc : Int) + off = (tgt : Int)) (kt : x = 0 → W p l e R s m args below meth c H locs cells slots Q (F0 m tgt ls rest)) (kf : ¬ x = 0 → W p l e R s m args below meth c H locs cells slots Q (F0 m (pc + 3) ls rest)) : W p l e R s m args below meth c H locs cells slots Q (F0 m pc ls (.int (nI x) :: rest)) :=
  lv_if_eq C.1 C.2.1 hdg ht (fun h => kt ((nI_eq hx (by decide)).mp h)) (fun h => kf (fun z => h ((nI_eq hx (by decide)).mpr z)))
theorem q_zne (C : CallFix p m c cc nL s args Ts own) {x : Nat} {off : Int} {tgt : Nat} (hx : x < 2 ^ 31) (hdg : decode cc pc = .ok (.ifCond .ne off, 3)) (ht : (pc : Int) + off = (tgt : Int)) (kt : ¬ x = 0 → W p l e R s m args below meth c H locs cells slots Q (F0 m tgt ls rest)) (kf : x = 0 → W p l e R s m args below meth c H locs cells slots Q (F0 m (pc + 3) ls rest)) : W p l e R s m args below meth c H locs cells slots Q (F0 m pc ls (.int (nI x) :: rest)) :=
  lv_if_ne C.1 C.2.1 hdg ht (fun h => kt (fun z => h ((nI_eq hx (by decide)).mpr z))) (fun h => kf ((nI_eq hx (by decide)).mp h))
theorem q_zle (C : CallFix p m c cc nL s args Ts own) {x : Nat} {off : Int} {tgt : Nat} (hx : x < 2 ^ 31) (hdg : decode cc pc = .ok (.ifCond .le off, 3)) (ht : (pc : Int) + off = (tgt : Int)) (kt : x = 0 → W p l e R s m args below meth c H locs cells slots Q (F0 m tgt ls rest)) (kf : 0 < x → W p l e R s m args below meth c H locs cells slots Q (F0 m (pc + 3) ls rest)) : W p l e R s m args below meth c H locs cells slots Q (F0 m pc ls (.int (nI x) :: rest)) :=
  lv_if_le C.1 C.2.1 hdg ht (fun h => kt (Nat.le_zero.mp ((nI_leI hx (by decide)).mp h))) (fun h => kf (Nat.pos_of_ne_zero fun z => h (by rw [z]; decide)))
theorem q_zgt (C : CallFix p m c cc nL s args Ts own) {x : Nat} {off : Int} {tgt : Nat} (hx : x < 2 ^ 31) (hdg : decode cc pc = .ok (.ifCond .gt off, 3)) (ht : (pc : Int) + off = (tgt : Int)) (kt : 0 < x → W p l e R s m args below meth c H locs cells slots Q (F0 m tgt ls rest)) (kf : x = 0 → W p l e R s m args below meth c H locs cells slots Q (F0 m (pc + 3) ls rest)) : W p l e R s m args below meth c H locs cells slots Q (F0 m pc ls (.int (nI x) :: rest)) :=
  lv_if_gt C.1 C.2.1 hdg ht (fun h => kt ((nI_ltI (by decide) hx).mp h)) (fun h => kf (Nat.le_zero.mp (Nat.not_lt.mp fun z => h ((nI_ltI (by decide) hx).mpr z))))
theorem q_iinc (C : CallFix p m c cc nL s args Ts own) {i k d x : Nat} {n : Int} {lv lv' : List (Nat × Value)} (hdg : decode cc pc = .ok (.iinc i n, 3)) (hd : Int32.ofInt n = nI d) (h : lv_has ls nL lv) (hk : lv[k]? = some (i, .int (nI x))) (hn : i < nL) (hl : (i, Value.int (nI (x + d))) :: lv.filter (fun q => !(q.1 == i) && !(q.1 + 1 == i && q.2.category == 2)) = lv')
    (kk : ∀ ls' : Array Slot, lv_has ls' nL lv' → W p l e R s m args below meth c H locs cells slots Q (F0 m (pc + 3) ls' rest)) : W p l e R s m args below meth c H locs cells slots Q (F0 m pc ls rest) :=
  lv_iinc C.1 C.2.1 hdg h hk (by rw [hd, nI_add]) hn hl kk
/-- numbers, and numbers or -1, in arrays of ints -/
def oI (o : Option Nat) : Int32 := match o with
  | some i => nI i
  | none => -1
def aN (f : Nat → Nat) : Nat → Int32 := fun j => nI (f j)
def aO (f : Nat → Option Nat) : Nat → Int32 := fun j => oI (f j)
theorem upN (f : Nat → Nat) (k v : Nat) : upd (aN f) k (nI v) = aN (va_up f k v) := by
  funext j
  unfold upd aN va_up
  by_cases h : j = k <;> simp [h]
theorem upO (f : Nat → Option Nat) (k : Nat) (v : Option Nat) : upd (aO f) k (oI v) = aO (va_up f k v) := by
  funext j
  unfold upd aO va_up
  by_cases h : j = k <;> simp [h]
theorem nI_m1 {m : Nat} (h : m < 2 ^ 31) : ¬ nI m = (-1) := by
  intro e
  have h1 := congrArg Int32.toInt e
  rw [nI_toInt h] at h1
  have h2 : (-1 : Int32).toInt = -1 := by decide
  omega
theorem q_ialdN (C : CallFix p m c cc nL s args Ts own) (hW : qW D g A H0 s w H locs) (q0 : Nat) {n : Nat} {f : Nat → Nat} (ha : w[q0]? = some (a, .inl (g 1, n, .inl (aN f)))) {k : Nat} (hk : k < n) (hn : n < 2 ^ 31) (hdg : decode cc pc = .ok (.iaload, 1))
    (kk : W p l e R s m args below meth c H locs cells slots Q (F0 m (pc + 1) ls (.int (nI (f k)) :: rest))) : W p l e R s m args below meth c H locs cells slots Q (F0 m pc ls (.int (nI k) :: .ref a :: rest)) := q_iald C hW q0 ha hk hn hdg kk
theorem q_ialdO (C : CallFix p m c cc nL s args Ts own) (hW : qW D g A H0 s w H locs) (q0 : Nat) {n : Nat} {f : Nat → Option Nat} (ha : w[q0]? = some (a, .inl (g 1, n, .inl (aO f)))) {k : Nat} (hk : k < n) (hn : n < 2 ^ 31) (hdg : decode cc pc = .ok (.iaload, 1))
    (kk : W p l e R s m args below meth c H locs cells slots Q (F0 m (pc + 1) ls (.int (oI (f k)) :: rest))) : W p l e R s m args below meth c H locs cells slots Q (F0 m pc ls (.int (nI k) :: .ref a :: rest)) := q_iald C hW q0 ha hk hn hdg kk
theorem q_iastN (C : CallFix p m c cc nL s args Ts own) (hW : qW D g A H0 s w H locs) (q0 : Nat) {n : Nat} {f : Nat → Nat} (ha : w[q0]? = some (a, .inl (g 1, n, .inl (aN f)))) {k : Nat} (hk : k < n) (hn : n < 2 ^ 31) {v : Nat} (w' : va_W) (hw : w.set q0 (a, .inl (g 1, n, .inl (aN (va_up f k v)))) = w') (hdg : decode cc pc = .ok (.iastore, 1))
    (kk : ∀ (H1 : Heap) (locs1 : List Loc), qW D g A H0 s w' H1 locs1 → W p l e R s m args below meth c H1 locs1 cells slots Q (F0 m (pc + 1) ls rest)) : W p l e R s m args below meth c H locs cells slots Q (F0 m pc ls (.int (nI v) :: .int (nI k) :: .ref a :: rest)) :=
  q_iast C hW q0 ha hk hn w' (by rw [upN]; exact hw) hdg kk
theorem q_iastO (C : CallFix p m c cc nL s args Ts own) (hW : qW D g A H0 s w H locs) (q0 : Nat) {n : Nat} {f : Nat → Option Nat} (ha : w[q0]? = some (a, .inl (g 1, n, .inl (aO f)))) {k : Nat} (hk : k < n) (hn : n < 2 ^ 31) {v : Option Nat} (w' : va_W) (hw : w.set q0 (a, .inl (g 1, n, .inl (aO (va_up f k v)))) = w') (hdg : decode cc pc = .ok (.iastore, 1))
    (kk : ∀ (H1 : Heap) (locs1 : List Loc), qW D g A H0 s w' H1 locs1 → W p l e R s m args below meth c H1 locs1 cells slots Q (F0 m (pc + 1) ls rest)) : W p l e R s m args below meth c H locs cells slots Q (F0 m pc ls (.int (oI v) :: .int (nI k) :: .ref a :: rest)) :=
  q_iast C hW q0 ha hk hn w' (by rw [upO]; exact hw) hdg kk
theorem q_oeq (C : CallFix p m c cc nL s args Ts own) {o : Option Nat} {off : Int} {tgt : Nat} (hb : ∀ i, o = some i → i < 2 ^ 31) (hdg : decode cc pc = .ok (.if_icmp .eq off, 3)) (ht : (pc : Int) + off = (tgt : Int)) (kt : o = none → W p l e R s m args below meth c H locs cells slots Q (F0 m tgt ls rest)) (kf : ∀ i, o = some i → W p l e R s m args below meth c H locs cells slots Q (F0 m (pc + 3) ls rest)) : W p l e R s m args below meth c H locs cells slots Q (F0 m pc ls (.int (-1) :: .int (oI o) :: rest)) := by
  refine lv_icmp_eq C.1 C.2.1 hdg ht (fun h => ?_) (fun h => ?_)
  · cases o with
    | none => exact kt rfl
    | some i => exact absurd h (nI_m1 (hb i rfl))
  · cases o with
    | none => exact absurd rfl h
    | some i => exact kf i rfl
theorem q_one (C : CallFix p m c cc nL s args Ts own) {o : Option Nat} {off : Int} {tgt : Nat} (hb : ∀ i, o = some i → i < 2 ^ 31) (hdg : decode cc pc = .ok (.if_icmp .ne off, 3)) (ht : (pc : Int) + off = (tgt : Int)) (kt : ∀ i, o = some i → W p l e R s m args below meth c H locs cells slots Q (F0 m tgt ls rest)) (kf : o = none → W p l e R s m args below meth c H locs cells slots Q (F0 m (pc + 3) ls rest)) : W p l e R s m args below meth c H locs cells slots Q (F0 m pc ls (.int (-1) :: .int (oI o) :: rest)) := by
  refine lv_icmp_ne C.1 C.2.1 hdg ht (fun h => ?_) (fun h => ?_)
  · cases o with
    | none => exact absurd rfl h
    | some i => exact kt i rfl
  · cases o with
    | none => exact kf rfl
    | some i => exact absurd h (nI_m1 (hb i rfl))
/-- a sign: less than 0, or a number -/
theorem q_olt (C : CallFix p m c cc nL s args Ts own) {o : Option Nat} {off : Int} {tgt : Nat} (hb : ∀ i, o = some i → i < 2 ^ 31) (hdg : decode cc pc = .ok (.ifCond .lt off, 3)) (ht : (pc : Int) + off = (tgt : Int)) (kt : o = none → W p l e R s m args below meth c H locs cells slots Q (F0 m tgt ls rest)) (kf : ∀ i, o = some i → W p l e R s m args below meth c H locs cells slots Q (F0 m (pc + 3) ls rest)) : W p l e R s m args below meth c H locs cells slots Q (F0 m pc ls (.int (oI o) :: rest)) := by
  refine lv_if_lt C.1 C.2.1 hdg ht (fun h => ?_) (fun h => ?_)
  · cases o with
    | none => exact kt rfl
    | some i => exact absurd h (nI_pos (hb i rfl))
  · cases o with
    | none => exact absurd (by decide : (-1 : Int32) < 0) h
    | some i => exact kf i rfl
theorem q_oge (C : CallFix p m c cc nL s args Ts own) {o : Option Nat} {off : Int} {tgt : Nat} (hb : ∀ i, o = some i → i < 2 ^ 31) (hdg : decode cc pc = .ok (.ifCond .ge off, 3)) (ht : (pc : Int) + off = (tgt : Int)) (kt : ∀ i, o = some i → W p l e R s m args below meth c H locs cells slots Q (F0 m tgt ls rest)) (kf : o = none → W p l e R s m args below meth c H locs cells slots Q (F0 m (pc + 3) ls rest)) : W p l e R s m args below meth c H locs cells slots Q (F0 m pc ls (.int (oI o) :: rest)) := by
  refine lv_if_ge C.1 C.2.1 hdg ht (fun h => ?_) (fun h => ?_)
  · cases o with
    | none => exact absurd h (by decide)
    | some i => exact kt i rfl
  · cases o with
    | none => exact kf rfl
    | some i => exact absurd (nI_pos' (hb i rfl)) h
/-- a new array of a class that is known -/
theorem q_newa (C : CallFix p m c cc nL s args Ts own) (hW : qW D g A H0 s w H locs) {atype : ArrayType} {ty : FieldType} (hty : newarray.typeOf atype = ty) {cA : ClassId} (t0 : Nat) (ht : (tyA g)[t0]? = some (cA, ty)) (hra : ∀ (U : State) (c9 : ClassId), va_RA U c9 ty → U.vm.findClass ("[" ++ ty.toString) = some c9) (harr : (Cond.arrayClass (newarray.typeOf atype)).before args s = true)
    {N' : Nat} (a0 : vp_A) (ha : ∀ c9 : ClassId, vp_cell c9 a0 = arrV c9 N' (fun _ => defaultValue ty)) (hn : N' < 2 ^ 31) (hbytes : N' * componentBytes ty ≤ 536870912) (hcells : cells + 1 ≤ R.cells) (hslots : slots + N' ≤ R.slots) (hdg : decode cc pc = .ok (.newarray atype, 2))
    (kk : ∀ (q : Nat) (H1 : Heap), qW D g A H0 s (w ++ [(q, .inl (cA, a0))]) H1 locs → W p l e R s m args below meth c H1 locs (cells + 1) (slots + N') Q (F0 m (pc + 2) ls (.ref q :: rest))) : W p l e R s m args below meth c H locs cells slots Q (F0 m pc ls (.int (nI N') :: rest)) := by
  refine va_newa C.1 C.2.1 (atype := atype) harr hty hW.2.1 hW.1 hW.2.2.1 hW.2.2.2.1 hW.2.2.2.2 ha (nI_pos hn) (nI_clamp hn) hbytes hcells hslots hdg (fun q c9 H1 hK9 hP hD hS => ?_)
  have h1 := hra s cA (hW.2.1.2 t0 _ ht).2
  have h2 := hra s c9 (hK9.2 (tyA g).length (c9, ty) (by simp)).2
  have e : c9 = cA := Option.some.inj (h2.symm.trans h1)
  subst e
  exact kk q H1 ⟨hP, hW.2.1, hD, hS, hW.2.2.2.2⟩
theorem q_new (C : CallFix p m c cc nL s args Ts own) (hW : qW D g A H0 s w H locs) {K : String} {T : u_T} {N ci index : Nat} (hc : vwCl[ci]? = some (K, T, N)) (hin : ∀ z ∈ u_ws K T N, z ∈ Ts) {ty0 : Nat → FieldType} (hty : ∀ k, k < N → parseFieldDescriptor (T k).2.2.1 = some (ty0 k)) (hcl : (Cond.classLink own index K).before args s = true) (hinst : (Cond.instantiable K N).before args s = true) (hini : (Cond.initialized K).before args s = true)
    (fs : List Value) (hfs : ∀ j, j < N → defaultValue (ty0 j) = vp_V fs j) (hcells : cells + 1 ≤ R.cells) (hslots : slots + N ≤ R.slots) (hdg : decode cc pc = .ok (.new index, 3))
    (kk : ∀ (q : Nat) (H1 : Heap), qW D g A H0 s (w ++ [(q, .inr (ci, fs))]) H1 locs → W p l e R s m args below meth c H1 locs (cells + 1) (slots + N) Q (F0 m (pc + 3) ls (.ref q :: rest))) : W p l e R s m args below meth c H locs cells slots Q (F0 m pc ls rest) :=
  va_new C.1 C.2.1 C.2.2.2.2 hin ty0 hty C.2.2.2.1 hcl hinst hini hW.2.1 hW.1 hW.2.2.1 hW.2.2.2.1 hW.2.2.2.2 hc hfs hcells hslots hdg (fun q H1 hP hD hS => kk q H1 ⟨hP, hW.2.1, hD, hS, hW.2.2.2.2⟩)
/-- ends -/
theorem q_iret {S : Type} {post : Int32 → S → Prop} {w0 : va_W} {sz mc ms : Nat} {w' : S → va_W} {ty : FieldType} {v : Int32} (C : CallFix p m c cc nL s args Ts own) (hr : meth.sig.returnType = some ty) (hk : meth.locks = false) (hW : qW D g (va_A w0 sz) s.heap s w H locs) (hn : narrow ty (.int v) = .int v) (u : S) (hp : post v u) (hw : w = w' u) (hc : cells ≤ mc) (hs : slots ≤ ms) (hdg : decode cc pc = .ok (.ireturn, 1)) :
    W p l e R s m args below meth c H locs cells slots (MQ below (va_Qi post (qB D g w0 sz w') (va_A w0 sz)) args s mc ms (va_A w0 sz)) (F0 m pc ls [.int v]) := by
  subst hw
  refine W.widen hc hs ?_
  exact W.zret C.1 C.2.1 hr hn (fun t ht hW9 => ⟨⟨v, u, rfl, hp, by rw [ht]; exact hW.1, va_K.moved hW9.alike hW.2.1, hW.2.2.1⟩, hW.2.2.2.1.F ht⟩) hW.2.2.2.1.2.2 hdg
theorem q_vret {S : Type} {post : S → Prop} {w0 : va_W} {sz mc ms : Nat} {w' : S → va_W} (C : CallFix p m c cc nL s args Ts own) (hr : meth.sig.returnType = none) (hk : meth.locks = false) (hW : qW D g (va_A w0 sz) s.heap s w H locs) (u : S) (hp : post u) (hw : w = w' u) (hc : cells ≤ mc) (hs : slots ≤ ms) (hdg : decode cc pc = .ok (.return_, 1)) :
    W p l e R s m args below meth c H locs cells slots (MQ below (va_Qv post (qB D g w0 sz w') (va_A w0 sz)) args s mc ms (va_A w0 sz)) (F0 m pc ls []) := by
  subst hw
  refine W.widen hc hs ?_
  exact W.vret C.1 C.2.1 hr (fun t ht hW9 => ⟨⟨u, rfl, hp, by rw [ht]; exact hW.1, va_K.moved hW9.alike hW.2.1, hW.2.2.1⟩, hW.2.2.2.1.F ht⟩) hW.2.2.2.1.2.2 hdg
theorem q_lret {S : Type} {post : Int64 → S → Prop} {w0 : va_W} {sz mc ms : Nat} {w' : S → va_W} {v : Int64} (C : CallFix p m c cc nL s args Ts own) (hr : meth.sig.returnType = some .long) (hk : meth.locks = false) (hW : qW D g (va_A w0 sz) s.heap s w H locs) (u : S) (hp : post v u) (hw : w = w' u) (hc : cells ≤ mc) (hs : slots ≤ ms) (hdg : decode cc pc = .ok (.lreturn, 1)) :
    W p l e R s m args below meth c H locs cells slots (MQ below (va_Ql post (qB D g w0 sz w') (va_A w0 sz)) args s mc ms (va_A w0 sz)) (F0 m pc ls [.long v]) := by
  subst hw
  refine W.widen hc hs ?_
  exact W.lret C.1 C.2.1 hr (fun t ht hW9 => ⟨⟨v, u, rfl, hp, by rw [ht]; exact hW.1, va_K.moved hW9.alike hW.2.1, hW.2.2.1⟩, hW.2.2.2.1.F ht⟩) hW.2.2.2.1.2.2 hdg
/-- calls -/
theorem q_preV {wc wr : va_W} {q : vw_C} {ci b : Nat} {fs As : List Value} (hW : qW D g A H0 s w H locs) (hp : w.Perm (wc ++ wr)) (hc : vwCl[ci]? = some q) (he : wc[0]? = some (b, .inr (ci, fs))) : PreV s H q.1 b (qPc D g (.ref b :: As) wc H.size) As := by
  have hPc : va_P D vwCl wc H := q_Pmem.mpr fun z hz => q_Pmem.mp hW.1 z (hp.mem_iff.mpr (List.mem_append_left _ hz))
  have hDc : va_D A wc := by
    obtain ⟨h1, h2⟩ := q_Dmem.mp (q_Dperm hp.symm hW.2.2.1)
    rw [List.map_append, List.nodup_append] at h1
    exact q_Dmem.mpr ⟨h1.1, fun z hz => h2 z (List.mem_append_left _ hz)⟩
  exact ⟨q_blind, va_recv hW.2.1 hPc hc he, fun U hU hW9 => ⟨rfl, by rw [hU], by rw [hU]; exact hPc, va_K.moved hW9.alike hW.2.1, hDc.weaken (fun _ _ _ _ => trivial)⟩⟩
theorem q_preS {wc wr : va_W} {As : List Value} (hW : qW D g A H0 s w H locs) (hp : w.Perm (wc ++ wr)) : PreS s H (qPc D g As wc H.size) As := by
  have hPc : va_P D vwCl wc H := q_Pmem.mpr fun z hz => q_Pmem.mp hW.1 z (hp.mem_iff.mpr (List.mem_append_left _ hz))
  have hDc : va_D A wc := by
    obtain ⟨h1, h2⟩ := q_Dmem.mp (q_Dperm hp.symm hW.2.2.1)
    rw [List.map_append, List.nodup_append] at h1
    exact q_Dmem.mpr ⟨h1.1, fun z hz => h2 z (List.mem_append_left _ hz)⟩
  exact ⟨q_blind, fun U hU hW9 => ⟨rfl, by rw [hU], by rw [hU]; exact hPc, va_K.moved hW9.alike hW.2.1, hDc.weaken (fun _ _ _ _ => trivial)⟩⟩
/-- the world behind a call -/
theorem q_back {S : Type} {wc wr : va_W} {w1 W' : S → va_W} {u : S} {t : State} {H1 : Heap} {locs1 : List Loc} (hW : qW D g A H0 s w H locs) (hp : w.Perm (wc ++ wr)) (hp' : ∀ u, (W' u).Perm (w1 u ++ wr)) (ht : t.heap = H1) (hB : qB D g wc H.size w1 u t)
    (hk : ∀ q : Nat, q < H.size → ¬ va_A wc H.size q → H1[q]? = H[q]?) (hS : va_S A H0 H1 locs1) : qW D g A H0 s (W' u) H1 locs1 := by
  obtain ⟨b1, -, b3⟩ := hB
  rw [ht] at b1
  obtain ⟨j1, j2⟩ := q_join hp hW.1 hW.2.2.1 hk (q_free hW hp) b1 b3
  exact ⟨q_Pperm (hp' u) j1, hW.2.1, q_Dperm (hp' u) j2, hS, hW.2.2.2.2⟩
variable {S : Type} {y : MethodName} {wsy wsy' : List Cond} {rm : Room} {b ci index maxL mc ms : Nat} {bytes : ByteArray} {ret : Option FieldType} {As fs : List Value} {wc wr : va_W} {w1 : S → va_W} {q : vw_C}
theorem q_callVi {post : Int32 → S → Prop} (C : CallFix p m c cc nL s args Ts own) (hM : qMi l y wsy rm D g (.ref b :: As) wc H.size post w1 mc ms) (hT : GoodIn Ts (wsV own index q.1 y wsy)) (hw : wsy = Cond.code y bytes maxL ret :: wsy') (hrc : rm.cells = mc) (hrs : rm.slots = ms)
    (hd : y.cls = q.1 ∧ y.cls ≠ "java/lang/invoke/MethodHandle" ∧ y.cls ≠ "java/lang/invoke/VarHandle" ∧ (parseMethodDescriptor y.desc).map (fun d => d.parameters.length) = some As.length) (hR : rm.frames + 1 ≤ R.frames ∧ 8 + (maxL + 11) + rm.locals ≤ R.locals)
    (hW : qW D g A H0 s w H locs) (hp : w.Perm (wc ++ wr)) (W' : S → va_W) (hp' : ∀ u, (W' u).Perm (w1 u ++ wr)) (hc : vwCl[ci]? = some q) (he : wc[0]? = some (b, .inr (ci, fs))) (hl : ls.size = nL) (hst : st = As.reverse ++ .ref b :: rest) (hrm : (rest.map fun v => v.category).sum ≤ 8) (hf : cells + mc ≤ R.cells ∧ slots + ms ≤ R.slots)
    (hdg : decode cc pc = .ok (.invokevirtual index, 3))
    (kk : ∀ (r : Int32) (u : S) (H1 : Heap) (locs1 : List Loc), post r u → qW D g A H0 s (W' u) H1 locs1 → W p l e R s m args below meth c H1 locs1 (cells + mc) (slots + ms) Q (F0 m (pc + 3) ls (.int r :: rest))) : W p l e R s m args below meth c H locs cells slots Q (F0 m pc ls st) :=
  va_calli (va_runV C hM (cwV As.length C.2.2.2.2 hT hw hrc hrs hd hR) (q_preV hW hp hc he) rfl rfl hl hst (lv_room hrm) hdg hf) hW.2.2.2.1 (fun z _ h => q_free hW hp z h) (q_free hW hp) (fun r u t H1 locs1 ht _ hpo hB _ hk hS => kk r u H1 locs1 hpo (q_back hW hp hp' ht hB hk hS))
theorem q_callVv {post : S → Prop} (C : CallFix p m c cc nL s args Ts own) (hM : qMv l y wsy rm D g (.ref b :: As) wc H.size post w1 mc ms) (hT : GoodIn Ts (wsV own index q.1 y wsy)) (hw : wsy = Cond.code y bytes maxL ret :: wsy') (hrc : rm.cells = mc) (hrs : rm.slots = ms)
    (hd : y.cls = q.1 ∧ y.cls ≠ "java/lang/invoke/MethodHandle" ∧ y.cls ≠ "java/lang/invoke/VarHandle" ∧ (parseMethodDescriptor y.desc).map (fun d => d.parameters.length) = some As.length) (hR : rm.frames + 1 ≤ R.frames ∧ 8 + (maxL + 11) + rm.locals ≤ R.locals)
    (hW : qW D g A H0 s w H locs) (hp : w.Perm (wc ++ wr)) (W' : S → va_W) (hp' : ∀ u, (W' u).Perm (w1 u ++ wr)) (hc : vwCl[ci]? = some q) (he : wc[0]? = some (b, .inr (ci, fs))) (hl : ls.size = nL) (hst : st = As.reverse ++ .ref b :: rest) (hrm : (rest.map fun v => v.category).sum ≤ 8) (hf : cells + mc ≤ R.cells ∧ slots + ms ≤ R.slots)
    (hdg : decode cc pc = .ok (.invokevirtual index, 3))
    (kk : ∀ (u : S) (H1 : Heap) (locs1 : List Loc), post u → qW D g A H0 s (W' u) H1 locs1 → W p l e R s m args below meth c H1 locs1 (cells + mc) (slots + ms) Q (F0 m (pc + 3) ls rest)) : W p l e R s m args below meth c H locs cells slots Q (F0 m pc ls st) :=
  va_callv (va_runV C hM (cwV As.length C.2.2.2.2 hT hw hrc hrs hd hR) (q_preV hW hp hc he) rfl rfl hl hst (lv_room hrm) hdg hf) hW.2.2.2.1 (fun z _ h => q_free hW hp z h) (q_free hW hp) (fun u t H1 locs1 ht _ hpo hB _ hk hS => kk u H1 locs1 hpo (q_back hW hp hp' ht hB hk hS))
theorem q_callSi {post : Int32 → S → Prop} (C : CallFix p m c cc nL s args Ts own) (hM : qMi l y wsy rm D g As wc H.size post w1 mc ms) (hT : GoodIn Ts (va_wsS own index y wsy)) (hw : wsy = Cond.code y bytes maxL ret :: wsy') (hrc : rm.cells = mc) (hrs : rm.slots = ms)
    (hd : y.cls ≠ "java/lang/invoke/MethodHandle" ∧ y.cls ≠ "java/lang/invoke/VarHandle" ∧ (parseMethodDescriptor y.desc).map (fun d => d.parameters.length) = some As.length) (hR : rm.frames + 1 ≤ R.frames ∧ 8 + (maxL + 11) + rm.locals ≤ R.locals)
    (hW : qW D g A H0 s w H locs) (hp : w.Perm (wc ++ wr)) (W' : S → va_W) (hp' : ∀ u, (W' u).Perm (w1 u ++ wr)) (hl : ls.size = nL) (hst : st = As.reverse ++ rest) (hrm : (rest.map fun v => v.category).sum ≤ 8) (hf : cells + mc ≤ R.cells ∧ slots + ms ≤ R.slots)
    (hdg : decode cc pc = .ok (.invokestatic index, 3))
    (kk : ∀ (r : Int32) (u : S) (H1 : Heap) (locs1 : List Loc), post r u → qW D g A H0 s (W' u) H1 locs1 → W p l e R s m args below meth c H1 locs1 (cells + mc) (slots + ms) Q (F0 m (pc + 3) ls (.int r :: rest))) : W p l e R s m args below meth c H locs cells slots Q (F0 m pc ls st) :=
  va_calli (va_runS C hM (va_cwS As.length C.2.2.2.2 hT hw hrc hrs hd hR) (q_preS hW hp) rfl rfl hl hst (lv_room hrm) hdg hf) hW.2.2.2.1 (fun z _ h => q_free hW hp z h) (q_free hW hp) (fun r u t H1 locs1 ht _ hpo hB _ hk hS => kk r u H1 locs1 hpo (q_back hW hp hp' ht hB hk hS))
theorem q_callVl {post : Int64 → S → Prop} (C : CallFix p m c cc nL s args Ts own) (hM : qMl l y wsy rm D g (.ref b :: As) wc H.size post w1 mc ms) (hT : GoodIn Ts (wsV own index q.1 y wsy)) (hw : wsy = Cond.code y bytes maxL ret :: wsy') (hrc : rm.cells = mc) (hrs : rm.slots = ms)
    (hd : y.cls = q.1 ∧ y.cls ≠ "java/lang/invoke/MethodHandle" ∧ y.cls ≠ "java/lang/invoke/VarHandle" ∧ (parseMethodDescriptor y.desc).map (fun d => d.parameters.length) = some As.length) (hR : rm.frames + 1 ≤ R.frames ∧ 8 + (maxL + 11) + rm.locals ≤ R.locals)
    (hW : qW D g A H0 s w H locs) (hp : w.Perm (wc ++ wr)) (W' : S → va_W) (hp' : ∀ u, (W' u).Perm (w1 u ++ wr)) (hc : vwCl[ci]? = some q) (he : wc[0]? = some (b, .inr (ci, fs))) (hl : ls.size = nL) (hst : st = As.reverse ++ .ref b :: rest) (hrm : (rest.map fun v => v.category).sum ≤ 8) (hf : cells + mc ≤ R.cells ∧ slots + ms ≤ R.slots)
    (hdg : decode cc pc = .ok (.invokevirtual index, 3))
    (kk : ∀ (r : Int64) (u : S) (H1 : Heap) (locs1 : List Loc), post r u → qW D g A H0 s (W' u) H1 locs1 → W p l e R s m args below meth c H1 locs1 (cells + mc) (slots + ms) Q (F0 m (pc + 3) ls (.long r :: rest))) : W p l e R s m args below meth c H locs cells slots Q (F0 m pc ls st) :=
  va_calll (va_runV C hM (cwV As.length C.2.2.2.2 hT hw hrc hrs hd hR) (q_preV hW hp hc he) rfl rfl hl hst (lv_room hrm) hdg hf) hW.2.2.2.1 (fun z _ h => q_free hW hp z h) (q_free hW hp) (fun r u t H1 locs1 ht _ hpo hB _ hk hS => kk r u H1 locs1 hpo (q_back hW hp hp' ht hB hk hS))
theorem q_callIv {post : S → Prop} (C : CallFix p m c cc nL s args Ts own) (hM : qMv l y wsy rm D g (.ref b :: As) wc H.size post w1 mc ms) (hG : GoodIn Ts wsy) (hini : (Cond.initialized y.cls).before args s = true) (hlk : (Cond.methodLink own index y).before args s = true) (him : (Cond.instanceMethod y).before args s = true) (hy1 : y.name = "<init>") (hw : wsy = Cond.code y bytes maxL none :: wsy') (hrc : rm.cells = mc) (hrs : rm.slots = ms)
    (hd : y.cls ≠ "java/lang/invoke/MethodHandle" ∧ y.cls ≠ "java/lang/invoke/VarHandle" ∧ (parseMethodDescriptor y.desc).map (fun d => d.parameters.length) = some As.length) (hR : rm.frames + 1 ≤ R.frames ∧ 8 + (maxL + 11) + rm.locals ≤ R.locals)
    (hW : qW D g A H0 s w H locs) (hp : w.Perm (wc ++ wr)) (W' : S → va_W) (hp' : ∀ u, (W' u).Perm (w1 u ++ wr)) (hl : ls.size = nL) (hst : st = As.reverse ++ .ref b :: rest) (hrm : (rest.map fun v => v.category).sum ≤ 8) (hf : cells + mc ≤ R.cells ∧ slots + ms ≤ R.slots)
    (hdg : decode cc pc = .ok (.invokespecial index, 3))
    (kk : ∀ (u : S) (H1 : Heap) (locs1 : List Loc), post u → qW D g A H0 s (W' u) H1 locs1 → W p l e R s m args below meth c H1 locs1 (cells + mc) (slots + ms) Q (F0 m (pc + 3) ls rest)) : W p l e R s m args below meth c H locs cells slots Q (F0 m pc ls st) :=
  va_callv (va_runI C hM (cwI As.length C.2.2.2.2 hG hw hrc hrs hini hlk him hy1 hd hR) (q_preS hW hp) rfl rfl hl hst (lv_room hrm) hdg hf) hW.2.2.2.1 (fun z _ h => q_free hW hp z h) (q_free hW hp) (fun u t H1 locs1 ht _ hpo hB _ hk hS => kk u H1 locs1 hpo (q_back hW hp hp' ht hB hk hS))
end QC
