/-! The class's object: what it holds, and what its methods answer, as pure functions. -/
abbrev XS : Type := LyS × CS × CS × ALs × ALs × List (Nat × Ev)
abbrev xL (X : XS) : LyS := X.1
abbrev xC (X : XS) : CS := X.2.1
abbrev xR (X : XS) : CS := X.2.2.1
abbrev xl (X : XS) : ALs := X.2.2.2.1
abbrev xa (X : XS) : ALs := X.2.2.2.2.1
abbrev xE (X : XS) : List (Nat × Ev) := X.2.2.2.2.2
def wP (E : List (Nat × Ev)) : va_W := E.map (fun p => (p.1, evC p.2))
theorem wP_push (E : List (Nat × Ev)) (q : Nat) (z : Ev) : wP (E ++ [(q, z)]) = wP E ++ wE1 q z := by unfold wP wE1; rw [List.map_append]; rfl
def wX (g : Nat → ClassId) (A : Nat → Nat → Nat) (X : XS) : va_W := [(A 0 0, .inr (6, [.ref (A 0 1), .ref (A 0 2), .ref (A 0 3), .ref (A 0 4), .ref (A 0 5)]))] ++ (wL g (A 0 1) (A 1) (xL X) ++ (wC g (A 0 2) (A 2) (xC X) ++ (wC g (A 0 3) (A 3) (xR X) ++ (wAL g (A 0 4) (xl X) ++ (wAL g (A 0 5) (xa X) ++ wP (xE X))))))
def isA (z : Ev) : Bool := decide (eKd z ≤ 1)
def isW (z : Ev) : Bool := decide (eKd z = 1)
def acs (E : List (Nat × Ev)) : List (Nat × Ev) := E.filter (fun p => isA p.2)
def evOK (z : Ev) : Prop := eKd z < 5 ∧ eCo z < 4 ∧ (eKd z ≤ 1 → ∃ n k, eNa z = some n ∧ eLi z = some k ∧ n < 12 ∧ k < 64) ∧ eCs z ≤ 45
/-- a list holds these cells -/
def lst (a : ALs) (E : List (Nat × Ev)) : Prop := alC a = E.length ∧ ∀ i p, E[i]? = some p → alF a i = some p.1
def XOK (z0 : Nat) (X : XS) : Prop := LOK (xL X) ∧ ALOK z0 (xl X) ∧ ALOK z0 (xa X) ∧ lst (xl X) (xE X) ∧ lst (xa X) (acs (xE X)) ∧ (∀ p ∈ xE X, evOK p.2) ∧ (xE X).length ≤ 512
/-- what the object stands for: the layout, the caches, the events -/
abbrev PX : Type := LyS × CS × List Ev
abbrev evs (X : XS) : List Ev := (xE X).map Prod.snd
def pX (X : XS) : PX := (xL X, xC X, evs X)
abbrev sL (S : PX) : LyS := S.1
abbrev sC (S : PX) : CS := S.2.1
abbrev sE (S : PX) : List Ev := S.2.2
abbrev evD : Ev := (0, 0, none, none, 0, 0)
def sA (S : PX) : List Ev := (sE S).filter isA
def acAt (S : PX) (i : Nat) : Ev := (sA S).getD i evD
theorem acs_map (E : List (Nat × Ev)) : (acs E).map Prod.snd = (E.map Prod.snd).filter isA := by
  unfold acs
  rw [List.filter_map]
  rfl
theorem sA_len (X : XS) : (sA (pX X)).length = (acs (xE X)).length := by
  show ((evs X).filter isA).length = _
  rw [← acs_map, List.length_map]
theorem acAt_of {X : XS} {i : Nat} {p : Nat × Ev} (h : (acs (xE X))[i]? = some p) : acAt (pX X) i = p.2 := by
  show ((evs X).filter isA).getD i evD = p.2
  rw [← acs_map, List.getD_eq_getElem?_getD, List.getElem?_map, h]
  rfl
theorem acs_le (E : List (Nat × Ev)) : (acs E).length ≤ E.length := List.length_filter_le _ _
theorem XOK.len {z0 : Nat} {X : XS} (h : XOK z0 X) : alC (xa X) ≤ 512 ∧ alC (xl X) ≤ 512 := by
  obtain ⟨-, -, -, h4, h5, -, h7⟩ := h
  have := acs_le (xE X)
  rw [h4.1, h5.1]
  omega
/-- the i-th access, out of the list -/
theorem XOK.ac {z0 : Nat} {X : XS} (h : XOK z0 X) {i : Nat} (hi : i < alC (xa X)) : ∃ p : Nat × Ev, alF (xa X) i = some p.1 ∧ acAt (pX X) i = p.2 ∧ p ∈ xE X ∧ evOK p.2 ∧ eKd p.2 ≤ 1 := by
  obtain ⟨-, -, -, -, h5, h6, -⟩ := h
  rw [h5.1] at hi
  have e := List.getElem?_eq_getElem hi
  have hm : (acs (xE X))[i] ∈ acs (xE X) := List.getElem_mem hi
  have hf := List.mem_filter.mp hm
  exact ⟨(acs (xE X))[i], h5.2 i _ e, acAt_of e, hf.1, h6 _ hf.1, of_decide_eq_true hf.2⟩
theorem XOK.evt {z0 : Nat} {X : XS} (h : XOK z0 X) {i : Nat} (hi : i < alC (xl X)) : ∃ p : Nat × Ev, alF (xl X) i = some p.1 ∧ (evs X)[i]? = some p.2 ∧ p ∈ xE X ∧ evOK p.2 := by
  obtain ⟨-, -, -, h4, -, h6, -⟩ := h
  rw [h4.1] at hi
  have e := List.getElem?_eq_getElem hi
  have hm : (xE X)[i] ∈ xE X := List.getElem_mem hi
  exact ⟨(xE X)[i], h4.2 i _ e, by rw [List.getElem?_map, e]; rfl, hm, h6 _ hm⟩
theorem wP_mem {E : List (Nat × Ev)} {p : Nat × Ev} (h : p ∈ E) : ((p.1, evC p.2) : Nat × va_E) ∈ wP E := List.mem_map.mpr ⟨p, h, rfl⟩
theorem wX_mem {g : Nat → ClassId} {A : Nat → Nat → Nat} {X : XS} {p : Nat × Ev} (h : p ∈ xE X) : ((p.1, evC p.2) : Nat × va_E) ∈ wX g A X := by
  unfold wX
  exact List.mem_append_right _ (List.mem_append_right _ (List.mem_append_right _ (List.mem_append_right _ (List.mem_append_right _ (List.mem_append_right _ (wP_mem h))))))
theorem lst_in {z0 : Nat} {X : XS} (h : XOK z0 X) (q : Nat) (z : Ev) : (∀ i y, i < alC (xl X) → alF (xl X) i = some y → inP4 (wP (xE X ++ [(q, z)])) y) ∧ (∀ i y, i < alC (xa X) → alF (xa X) i = some y → inP4 (wP (xE X ++ [(q, z)])) y) ∧ inP4 (wP (xE X ++ [(q, z)])) q := by
  have key : ∀ p ∈ xE X ++ [(q, z)], inP4 (wP (xE X ++ [(q, z)])) p.1 := by
    intro p hp
    obtain ⟨k, hk⟩ := List.getElem?_of_mem (wP_mem hp)
    exact ⟨k, _, hk⟩
  refine ⟨fun i y hi hy => ?_, fun i y hi hy => ?_, key (q, z) (List.mem_append_right _ List.mem_cons_self)⟩
  · obtain ⟨p, h1, -, h2, -⟩ := h.evt hi
    cases h1.symm.trans hy
    exact key p (List.mem_append_left _ h2)
  · obtain ⟨p, h1, -, h2, -⟩ := h.ac hi
    cases h1.symm.trans hy
    exact key p (List.mem_append_left _ h2)
theorem lst_add {z0 : Nat} {a u : ALs} {E : List (Nat × Ev)} {q : Nat} {z : Ev} (h : lst a E) (hu : ALadd z0 a u q) : lst u (E ++ [(q, z)]) := by
  obtain ⟨-, h2, h3, h4⟩ := hu
  refine ⟨by rw [h2, h.1, List.length_append]; rfl, fun i p hp => ?_⟩
  rcases Nat.lt_trichotomy i E.length with h9 | h9 | h9
  · rw [List.getElem?_append_left h9] at hp
    rw [h3 i (by rw [h.1]; exact h9)]
    exact h.2 i p hp
  · subst h9
    rw [List.getElem?_append_right (Nat.le_refl _), Nat.sub_self] at hp
    cases hp
    rw [← h.1]
    exact h4
  · rw [List.getElem?_append_right (by omega), List.getElem?_eq_none (by simp only [List.length_singleton]; omega)] at hp
    cases hp
/-- an event is put behind the others -/
theorem XOK.push {z0 : Nat} {X : XS} (h : XOK z0 X) (hl : (xE X).length < 512) {q : Nat} {z : Ev} (hz : evOK z) {le la : ALs} (h1 : ALadd z0 (xl X) le q) (h2 : if isA z = true then ALadd z0 (xa X) la q else la = xa X) {L : LyS} (hL : LOK L) (C R : CS) : XOK z0 (L, C, R, le, la, xE X ++ [(q, z)]) := by
  obtain ⟨-, -, g3, g4, g5, g6, -⟩ := h
  have e : acs (xE X ++ [(q, z)]) = acs (xE X) ++ (if isA z = true then [(q, z)] else []) := by
    unfold acs
    rw [List.filter_append, List.filter_cons]
    rfl
  refine ⟨hL, h1.1, ?_, lst_add g4 h1, ?_, fun p hp => ?_, ?_⟩
  · show ALOK z0 la
    by_cases hA : isA z = true
    · rw [if_pos hA] at h2; exact h2.1
    · rw [if_neg hA] at h2; rw [h2]; exact g3
  · show lst la (acs (xE X ++ [(q, z)]))
    rw [e]
    by_cases hA : isA z = true
    · rw [if_pos hA] at h2 ⊢; exact lst_add g5 h2
    · rw [if_neg hA] at h2 ⊢; rw [h2, List.append_nil]; exact g5
  · rcases List.mem_append.mp hp with h9 | h9
    · exact g6 p h9
    · rw [List.mem_singleton] at h9; rw [h9]; exact hz
  · show (xE X ++ [(q, z)]).length ≤ 512
    rw [List.length_append]
    exact hl
theorem XOK.set {z0 : Nat} {X : XS} (h : XOK z0 X) {L : LyS} (hL : LOK L) (C R : CS) : XOK z0 (L, C, R, xl X, xa X, xE X) := ⟨hL, h.2⟩
theorem pm_EP {b0 b1 b2 b3 E A P : va_W} : (b0 ++ (b1 ++ (b2 ++ (b3 ++ (E ++ (A ++ P)))))).Perm ((E ++ P) ++ (b0 ++ (b1 ++ (b2 ++ (b3 ++ A))))) := by
  refine pm_4.trans ?_
  rw [List.append_assoc]
  refine List.Perm.append_left E ?_
  rw [show b0 ++ (b1 ++ (b2 ++ (b3 ++ (A ++ P)))) = (b0 ++ (b1 ++ (b2 ++ (b3 ++ A)))) ++ P by simp only [List.append_assoc]]
  exact List.perm_append_comm
theorem pm_AP {b0 b1 b2 b3 E A P : va_W} : (b0 ++ (b1 ++ (b2 ++ (b3 ++ (E ++ (A ++ P)))))).Perm ((A ++ P) ++ (b0 ++ (b1 ++ (b2 ++ (b3 ++ E))))) := by
  refine pm_5.trans ?_
  rw [List.append_assoc]
  refine List.Perm.append_left A ?_
  rw [show b0 ++ (b1 ++ (b2 ++ (b3 ++ (E ++ P)))) = (b0 ++ (b1 ++ (b2 ++ (b3 ++ E)))) ++ P by simp only [List.append_assoc]]
  exact List.perm_append_comm
theorem pm_new {x b0 b1 b2 b3 E A P : va_W} : (x ++ (b0 ++ (b1 ++ (b2 ++ (b3 ++ (E ++ (A ++ P))))))).Perm ((E ++ (P ++ x)) ++ (b0 ++ (b1 ++ (b2 ++ (b3 ++ A))))) := by
  refine List.perm_append_comm.trans ?_
  rw [show b0 ++ (b1 ++ (b2 ++ (b3 ++ (E ++ (A ++ P))))) ++ x = b0 ++ (b1 ++ (b2 ++ (b3 ++ (E ++ (A ++ (P ++ x)))))) by simp only [List.append_assoc]]
  exact pm_EP
/-- hasStatesOf: the object's caches behind those of the replays -/
theorem pm_RC {b0 b1 C R x : va_W} : (b0 ++ (b1 ++ (C ++ (R ++ x)))).Perm ((R ++ C) ++ (b0 ++ (b1 ++ x))) := by
  refine pm_3.trans ?_
  rw [List.append_assoc]
  exact List.Perm.append_left R pm_2
section QX
variable {p : Program} {l : Launch} {e : Env} {R : Room} {s : State} {m : MethodId} {args : Array Value} {below : List Frame} {meth : Method} {c : Code} {H : Heap} {locs : List Loc} {cells slots : Nat} {Q : State → Prop}
variable {cc : ByteArray} {nL : Nat} {Ts : List Cond} {own : String} {D : va_G} {g : Nat → ClassId} {ev : Nat × Nat × (Nat → Nat)} {A : Nat → Prop} {H0 : Heap} {w w0 : va_W} {pc sz : Nat} {ls : Array Slot} {rest st : List Value} {a : Nat}
/-- a field of a cell that stands somewhere in the world -/
theorem q_getM (C : CallFix p m c cc nL s args Ts own) (hW : qW D g A H0 s w H locs) {ref K : String} {T : u_T} {N ci index : Nat} {fs : List Value} (he : ((a, .inr (ci, fs)) : Nat × va_E) ∈ w) (hc : vwCl[ci]? = some (K, T, N)) (k : Nat) (hk : k < N) (hin : ∀ z ∈ u_ws K T N, z ∈ Ts)
    (hlink : (Cond.fieldLink own index ref (T k).2.1 (T k).2.2.1).before args s = true) (hr : (T k).1 = ref) {v : Value} (hv : fs[k]? = some v) (hdg : decode cc pc = .ok (.getfield index, 3))
    (kk : W p l e R s m args below meth c H locs cells slots Q (F0 m (pc + 3) ls (v :: rest))) : W p l e R s m args below meth c H locs cells slots Q (F0 m pc ls (.ref a :: rest)) := by
  obtain ⟨q0, h0⟩ := List.getElem?_of_mem he
  exact q_get C hW q0 h0 hc k hk hin hlink hr hv hdg kk
theorem q_castM (C : CallFix p m c cc nL s args Ts own) (hW : qW D g A H0 s w H locs) {index : Nat} (hlink : (Cond.classLink own index RX1).before args s = true) {z : Ev} (he : ((a, evC z) : Nat × va_E) ∈ w) (hdg : decode cc pc = .ok (.checkcast index, 3))
    (kk : W p l e R s m args below meth c H locs cells slots Q (F0 m (pc + 3) ls (.ref a :: rest))) : W p l e R s m args below meth c H locs cells slots Q (F0 m pc ls (.ref a :: rest)) := by
  obtain ⟨q0, h0⟩ := List.getElem?_of_mem he
  exact va_castS C.1 C.2.1 C.2.2.2.1 hlink (hW.2.1.1 4 (RX1, TX1, 6) rfl).2 (va_recv hW.2.1 hW.1 (q := (RX1, TX1, 6)) (ci := 4) rfl h0) hdg kk
/-- a cell out of the world, and back -/
theorem qW.out {q : Nat × va_E} (h : qW D g A H0 s w H locs) (he : q ∈ w) : ∃ wr, w.Perm ([q] ++ wr) := by
  obtain ⟨q0, h0⟩ := List.getElem?_of_mem he
  exact ⟨_, pm_at q0 h0⟩
variable {S S' : Type} {y x : MethodName} {wsy wsy' : List Cond} {rm : Room} {b ci index maxL mc ms mc' ms' count : Nat} {bytes : ByteArray} {ret : Option FieldType} {As fs : List Value} {wc wr : va_W} {w1 : S → va_W} {w2 : S' → va_W} {q : vw_C} {px : String → S → Prop} {px' : String → S' → Prop} {Qc : Array Value → State → Outcome → State → Prop}
theorem qx_callVv {post : S → Prop} (C : CallFix p m c cc nL s args Ts own) (hE : qE D g ev (va_A w0 sz) s s.heap) (hlk : meth.locks = false) (hnt : ∀ x ∈ c.exceptionTable.toList, False) (hM : qXv l y wsy rm D g ev (.ref b :: As) wc H.size post px w1 mc ms) (hT : GoodIn Ts (wsV own index q.1 y wsy)) (hw : wsy = Cond.code y bytes maxL ret :: wsy') (hrc : rm.cells = mc) (hrs : rm.slots = ms)
    (hd : y.cls = q.1 ∧ y.cls ≠ "java/lang/invoke/MethodHandle" ∧ y.cls ≠ "java/lang/invoke/VarHandle" ∧ (parseMethodDescriptor y.desc).map (fun d => d.parameters.length) = some As.length) (hR : rm.frames + 1 ≤ R.frames ∧ 8 + (maxL + 11) + rm.locals ≤ R.locals)
    (hW : qW D g (va_A w0 sz) s.heap s w H locs) (hp : w.Perm (wc ++ wr)) (W' : S → va_W) (hp' : ∀ u, (W' u).Perm (w1 u ++ wr)) (hc : vwCl[ci]? = some q) (he : wc[0]? = some (b, .inr (ci, fs))) (hl : ls.size = nL) (hst : st = As.reverse ++ .ref b :: rest) (hrm : (rest.map fun v => v.category).sum ≤ 8) (hf : cells + mc ≤ R.cells ∧ slots + ms ≤ R.slots) (hf' : cells + mc ≤ mc' ∧ slots + ms ≤ ms')
    (hdg : decode cc pc = .ok (.invokevirtual index, 3)) (kx : ∀ E u, px E u → ∃ u', px' E u' ∧ W' u = w2 u')
    (kk : ∀ (u : S) (H1 : Heap) (locs1 : List Loc), post u → qW D g (va_A w0 sz) s.heap s (W' u) H1 locs1 → W p l e R s m args below meth c H1 locs1 (cells + mc) (slots + ms) (vx_MQ below Qc (qXX D g w0 sz px' w2) args s mc' ms' (va_A w0 sz)) (F0 m (pc + 3) ls rest)) : W p l e R s m args below meth c H locs cells slots (vx_MQ below Qc (qXX D g w0 sz px' w2) args s mc' ms' (va_A w0 sz)) (F0 m pc ls st) :=
  vx_callv (vx_runV C hM (cwV As.length C.2.2.2.2 hT hw hrc hrs hd hR) (qe_preV hE hW hp hc he) rfl rfl hl hst (lv_room hrm) hdg hf) hW.2.2.2.1 (fun z _ h => q_free hW hp z h) (q_free hW hp) (fun z _ h => q_free hW hp z h)
    (fun E ce q9 u t H1 locs1 ht hal _ hBX hz hk hS hcell hv hcl => by
      obtain ⟨hpx, hB⟩ := hBX
      obtain ⟨u', h1, h2⟩ := kx E u hpx
      have hW1 := q_back hW hp hp' ht hB hk hS
      rw [h2] at hW1
      exact vx_out (fun x hx => (hnt x hx).elim) hlk hcell hv hcl (fun t9 ht9 hal9 => q_xw hW1 u' h1 rfl hal9 (by rw [ht9]; exact Nat.le_refl _) (fun q hq => by rw [ht9])) hS.2.2 hf'.1 hf'.2)
    (fun u t H1 locs1 ht _ hpo hB _ hk hS => kk u H1 locs1 hpo (q_back hW hp hp' ht hB hk hS))
theorem qx_callVi {post : Int32 → S → Prop} (C : CallFix p m c cc nL s args Ts own) (hE : qE D g ev (va_A w0 sz) s s.heap) (hlk : meth.locks = false) (hnt : ∀ x ∈ c.exceptionTable.toList, False) (hM : qXi l y wsy rm D g ev (.ref b :: As) wc H.size post px w1 mc ms) (hT : GoodIn Ts (wsV own index q.1 y wsy)) (hw : wsy = Cond.code y bytes maxL ret :: wsy') (hrc : rm.cells = mc) (hrs : rm.slots = ms)
    (hd : y.cls = q.1 ∧ y.cls ≠ "java/lang/invoke/MethodHandle" ∧ y.cls ≠ "java/lang/invoke/VarHandle" ∧ (parseMethodDescriptor y.desc).map (fun d => d.parameters.length) = some As.length) (hR : rm.frames + 1 ≤ R.frames ∧ 8 + (maxL + 11) + rm.locals ≤ R.locals)
    (hW : qW D g (va_A w0 sz) s.heap s w H locs) (hp : w.Perm (wc ++ wr)) (W' : S → va_W) (hp' : ∀ u, (W' u).Perm (w1 u ++ wr)) (hc : vwCl[ci]? = some q) (he : wc[0]? = some (b, .inr (ci, fs))) (hl : ls.size = nL) (hst : st = As.reverse ++ .ref b :: rest) (hrm : (rest.map fun v => v.category).sum ≤ 8) (hf : cells + mc ≤ R.cells ∧ slots + ms ≤ R.slots) (hf' : cells + mc ≤ mc' ∧ slots + ms ≤ ms')
    (hdg : decode cc pc = .ok (.invokevirtual index, 3)) (kx : ∀ E u, px E u → ∃ u', px' E u' ∧ W' u = w2 u')
    (kk : ∀ (r : Int32) (u : S) (H1 : Heap) (locs1 : List Loc), post r u → qW D g (va_A w0 sz) s.heap s (W' u) H1 locs1 → W p l e R s m args below meth c H1 locs1 (cells + mc) (slots + ms) (vx_MQ below Qc (qXX D g w0 sz px' w2) args s mc' ms' (va_A w0 sz)) (F0 m (pc + 3) ls (.int r :: rest))) : W p l e R s m args below meth c H locs cells slots (vx_MQ below Qc (qXX D g w0 sz px' w2) args s mc' ms' (va_A w0 sz)) (F0 m pc ls st) :=
  vx_calli (vx_runV C hM (cwV As.length C.2.2.2.2 hT hw hrc hrs hd hR) (qe_preV hE hW hp hc he) rfl rfl hl hst (lv_room hrm) hdg hf) hW.2.2.2.1 (fun z _ h => q_free hW hp z h) (q_free hW hp) (fun z _ h => q_free hW hp z h)
    (fun E ce q9 u t H1 locs1 ht hal _ hBX hz hk hS hcell hv hcl => by
      obtain ⟨hpx, hB⟩ := hBX
      obtain ⟨u', h1, h2⟩ := kx E u hpx
      have hW1 := q_back hW hp hp' ht hB hk hS
      rw [h2] at hW1
      exact vx_out (fun x hx => (hnt x hx).elim) hlk hcell hv hcl (fun t9 ht9 hal9 => q_xw hW1 u' h1 rfl hal9 (by rw [ht9]; exact Nat.le_refl _) (fun q hq => by rw [ht9])) hS.2.2 hf'.1 hf'.2)
    (fun r u t H1 locs1 ht _ hpo hB _ hk hS => kk r u H1 locs1 hpo (q_back hW hp hp' ht hB hk hS))
theorem qx_callSv {post : S → Prop} (C : CallFix p m c cc nL s args Ts own) (hE : qE D g ev (va_A w0 sz) s s.heap) (hlk : meth.locks = false) (hnt : ∀ x ∈ c.exceptionTable.toList, False) (hM : qXv l y wsy rm D g ev As wc H.size post px w1 mc ms) (hT : GoodIn Ts (va_wsS own index y wsy)) (hw : wsy = Cond.code y bytes maxL ret :: wsy') (hrc : rm.cells = mc) (hrs : rm.slots = ms)
    (hd : y.cls ≠ "java/lang/invoke/MethodHandle" ∧ y.cls ≠ "java/lang/invoke/VarHandle" ∧ (parseMethodDescriptor y.desc).map (fun d => d.parameters.length) = some As.length) (hR : rm.frames + 1 ≤ R.frames ∧ 8 + (maxL + 11) + rm.locals ≤ R.locals)
    (hW : qW D g (va_A w0 sz) s.heap s w H locs) (hp : w.Perm (wc ++ wr)) (W' : S → va_W) (hp' : ∀ u, (W' u).Perm (w1 u ++ wr)) (hl : ls.size = nL) (hst : st = As.reverse ++ rest) (hrm : (rest.map fun v => v.category).sum ≤ 8) (hf : cells + mc ≤ R.cells ∧ slots + ms ≤ R.slots) (hf' : cells + mc ≤ mc' ∧ slots + ms ≤ ms')
    (hdg : decode cc pc = .ok (.invokestatic index, 3)) (kx : ∀ E u, px E u → ∃ u', px' E u' ∧ W' u = w2 u')
    (kk : ∀ (u : S) (H1 : Heap) (locs1 : List Loc), post u → qW D g (va_A w0 sz) s.heap s (W' u) H1 locs1 → W p l e R s m args below meth c H1 locs1 (cells + mc) (slots + ms) (vx_MQ below Qc (qXX D g w0 sz px' w2) args s mc' ms' (va_A w0 sz)) (F0 m (pc + 3) ls rest)) : W p l e R s m args below meth c H locs cells slots (vx_MQ below Qc (qXX D g w0 sz px' w2) args s mc' ms' (va_A w0 sz)) (F0 m pc ls st) :=
  vx_callv (vx_runS C hM (va_cwS As.length C.2.2.2.2 hT hw hrc hrs hd hR) (qe_preS hE hW hp) rfl rfl hl hst (lv_room hrm) hdg hf) hW.2.2.2.1 (fun z _ h => q_free hW hp z h) (q_free hW hp) (fun z _ h => q_free hW hp z h)
    (fun E ce q9 u t H1 locs1 ht hal _ hBX hz hk hS hcell hv hcl => by
      obtain ⟨hpx, hB⟩ := hBX
      obtain ⟨u', h1, h2⟩ := kx E u hpx
      have hW1 := q_back hW hp hp' ht hB hk hS
      rw [h2] at hW1
      exact vx_out (fun x hx => (hnt x hx).elim) hlk hcell hv hcl (fun t9 ht9 hal9 => q_xw hW1 u' h1 rfl hal9 (by rw [ht9]; exact Nat.le_refl _) (fun q hq => by rw [ht9])) hS.2.2 hf'.1 hf'.2)
    (fun u t H1 locs1 ht _ hpo hB _ hk hS => kk u H1 locs1 hpo (q_back hW hp hp' ht hB hk hS))
end QX
