/-! The law's walk: what its calls stand on. -/
abbrev lwl (b : Nat) (A : Nat → Nat → Nat) (h o od i : Nat) : List (Nat × Value) := [(5, .int (nI i)), (0, .ref b), (1, .ref (A 0 0)), (2, .ref h), (3, .ref o), (4, .ref od)]
abbrev lwW (g : Nat → ClassId) (A : Nat → Nat → Nat) (h o od : Nat) (X : XS) (M : MdS) (a : Nat → Nat) (f : Nat → Int64) (fd : Nat → UInt64) : va_W := oL g o f ++ (oD g od fd ++ (wX g A X ++ wM g h a M))
def LK (p : Program) (l : Launch) (e : Env) (s : State) (m : MethodId) (b : Nat) (below : List Frame) (meth : Method) (c : Code) (D : va_G) (g : Nat → ClassId) (ev : Nat × Nat × (Nat → Nat)) (A : Nat → Nat → Nat) (h o od i : Nat) (X : XS) (cells slots : Nat) (Q : State → Prop) : Prop :=
  ∀ (X' : XS) (M' : MdS) (a' : Nat → Nat) (f' : Nat → Int64) (fd' : Nat → UInt64) (H1 : Heap) (locs1 : List Loc) (ls1 : Array Slot), XOK ev.1 X' → Rel (pX X') M' → (sE (pX X')).length ≤ (sE (pX X)).length + 1 → lv_has ls1 9 (lwl b A h o od i) →
    qW D g (fun q => s.heap.size ≤ q) s.heap s (lwW g A h o od X' M' a' f' fd') H1 locs1 → W p l e room_1 s m #[Value.ref b] below meth c H1 locs1 (cells + 11) (slots + 6174) Q (F0 m 1943 ls1 [])
theorem pm_hL {b0 b1 b2 b3 : va_W} : (b0 ++ (b1 ++ (b2 ++ b3))).Perm ((b0 ++ b2) ++ (b1 ++ b3)) := by
  rw [List.append_assoc]
  exact List.Perm.append_left b0 pm_1
theorem pm_hD {b0 b1 b2 b3 : va_W} : (b0 ++ (b1 ++ (b2 ++ b3))).Perm ((b1 ++ b2) ++ (b0 ++ b3)) := by
  refine pm_1.trans ?_
  rw [List.append_assoc]
  exact List.Perm.append_left b1 pm_1
theorem pm_l3 {b0 b1 b2 b3 : va_W} : (b0 ++ (b1 ++ (b2 ++ b3))).Perm (b3 ++ (b0 ++ (b1 ++ b2))) := by
  rw [show b0 ++ (b1 ++ (b2 ++ b3)) = (b0 ++ (b1 ++ b2)) ++ b3 by simp only [List.append_assoc]]
  exact List.perm_append_comm
theorem pm_x3 {b0 b1 b2 b3 : va_W} : (b0 ++ (b1 ++ (b2 ++ b3))).Perm (b2 ++ (b0 ++ (b1 ++ b3))) := pm_2
theorem evs_len (X : XS) : (sE (pX X)).length = (xE X).length := List.length_map _
theorem len_add (S : PX) (v : Int32) : (sE (xAdd S v).2.2).length ≤ (sE S).length + 1 := by
  unfold xAdd
  split
  · exact Nat.le_succ _
  · split <;> exact Nat.le_succ _
theorem len_place (S : PX) (v1 v2 : Int32) : (sE (xPlace S v1 v2).2.2).length ≤ (sE S).length + 1 := by
  unfold xPlace
  split
  · exact Nat.le_succ _
  · split
    · split
      · exact Nat.le_succ _
      · split <;> exact Nat.le_succ _
    · exact Nat.le_succ _
theorem len_link (S : PX) (v : Int32) : (sE (xLink S v).2.2).length ≤ (sE S).length + 1 := by
  unfold xLink
  split
  · exact Nat.le_succ _
  · split <;> exact Nat.le_succ _
theorem len_take (S : PX) (v : Int32) : (sE (xTake S v).2.2).length ≤ (sE S).length + 1 := by
  unfold xTake
  split
  · exact Nat.le_succ _
  · split <;> exact Nat.le_succ _
theorem len_app {L : LyS} {C : CS} {S : PX} {z : Ev} : (sE (L, C, sE S ++ [z])).length ≤ (sE S).length + 1 := by
  show (sE S ++ [z]).length ≤ _
  rw [List.length_append]
  exact Nat.le_refl _
theorem len_acc (S : PX) (w : Bool) (v1 v2 v3 : Int32) : (sE (xAcc S w v1 v2 v3).2.2).length ≤ (sE S).length + 1 := by
  unfold xAcc
  split
  · exact Nat.le_succ _
  · split
    · exact Nat.le_succ _
    · split
      · exact Nat.le_succ _
      · split
        · exact Nat.le_succ _
        · exact len_app
theorem len_empty (S : PX) (v : Int32) : (sE (xEmpty S v).2.2).length ≤ (sE S).length + 1 := by
  unfold xEmpty
  split
  · exact Nat.le_succ _
  · exact len_app
theorem len_ahead (S : PX) (v : Int32) (b : Bool) : (sE (xAhead S v b).2.2).length ≤ (sE S).length + 1 := by
  unfold xAhead
  split
  · exact Nat.le_succ _
  · exact len_app
theorem lcmp_self (x : Int64) : lg_cmp x x = 0 := (lg_cmp_eq x x).mpr rfl
theorem dcmp_self0 {x : UInt64} {op : CmpOp} (h : FP.Core.val64 x ≠ .nan) : Op.cmpValue (FP.dcmp x x) op = 0 := by
  rw [show FP.dcmp x x = some .eq from FP.Core.dcmp_self h]
  rfl
theorem nI_k0 {k : Nat} (h : k ≤ 4) (z : nI k = 0) : k = 0 := by
  rw [← nI_0] at z
  exact (nI_eq (by omega) (by decide)).mp z
def i2cZ (x : Int32) : UInt16 := UInt16.ofNat (x.toBitVec.toNat % 65536)
theorem i2c_eq (x : Int32) : (x.toUInt32 % 65536).toInt32 = cI (i2cZ x) := by
  rw [pk_char]
  unfold cI i2cZ
  rw [show (UInt16.ofNat (x.toBitVec.toNat % 65536)).toNat = x.toBitVec.toNat % 65536 % 65536 from rfl, Nat.mod_mod]
section LWS
variable {S : PX} {M : MdS}
theorem rep_th {X : XS} {v : Int32} {k : Nat} {P : Nat → Nat → Prop} (h : Rel (pX X) M) (hF : (k = 1 ∧ inR (sA (pX X)).length v = none) ∨ (k = 0 ∧ ∃ i rr, inR (sA (pX X)).length v = some i ∧ P i rr)) : mTh (mCost M v).2 = k := by
  rw [h.ac] at hF
  unfold mCost
  rcases hF with ⟨rfl, h1⟩ | ⟨rfl, i, rr, h1, -⟩
  · rw [h1]
  · rw [h1]
theorem rep_an {X : XS} {v : Int32} {k : Nat} {y : Int64} (h : Rel (pX X) M) (hF : (k = 1 ∧ inR (sA (pX X)).length v = none) ∨ (k = 0 ∧ ∃ i rr, inR (sA (pX X)).length v = some i ∧ xRep (pX X) i rr ∧ y = (nI rr).toInt64)) : k = 0 → y = (nI (mCost M v).1).toInt64 := by
  intro z
  rw [h.ac] at hF
  unfold mCost
  rcases hF with ⟨rfl, h1⟩ | ⟨-, i, rr, h1, h2, h3⟩
  · cases z
  · have h12 := h.1.2.2.2.2
    rw [h1, h3, rep_eq h h2]
    rw [(h.2.2.2.2.1.2 i (inR_some (by omega) h1).1).1]
theorem share_v32 (h : Rel S M) (z : mTh (mShareF M).2 = 0) : FP.Core.val32 (mShareF M).1 ≠ .nan := by
  have h1 := h.ac512
  have h2 := h.2.2.2.2.2.2.2
  unfold mShareF at z ⊢
  by_cases e : mAc M = 0
  · rw [if_pos e] at z; cases z
  · rw [if_neg e]
    exact fdiv_ok _ (by omega) (by omega)
theorem share_nan (h : Rel S M) (z : mTh (mShareF M).2 = 0) : FP.Core.val64 (FP.f2d (mShareF M).1) ≠ .nan := f2d_ok (share_v32 h z)
theorem share_f2d (h : Rel S M) (z : mTh (mShareF M).2 = 0) : vf_n64 (FP.f2d (mShareF M).1) := n64_of (share_nan h z)
theorem mean_nan (h : Rel S M) (z : mTh (mMean M).2 = 0) : FP.Core.val64 (mMean M).1 ≠ .nan := by
  have h1 := h.ac512
  have h2 := h.2.2.2.2.2.2.2
  unfold mMean at z ⊢
  by_cases e : mAc M = 0
  · rw [if_pos e] at z; cases z
  · rw [if_neg e]
    exact ddiv_ok _ (by omega) (by omega)
end LWS
section LWQ
variable {p : Program} {l : Launch} {e : Env} {R : Room} {s : State} {m : MethodId} {args : Array Value} {below : List Frame} {meth : Method} {c : Code} {H : Heap} {locs : List Loc} {cells slots : Nat} {Q : State → Prop}
variable {cc : ByteArray} {nL : Nat} {Ts : List Cond} {own : String} {D : va_G} {g : Nat → ClassId} {w : va_W} {pc : Nat} {ls : Array Slot} {rest : List Value}
theorem q_sld (C : CallFix p m c cc nL s args Ts own) {b L : Nat} {xs : Nat → Int32} (hX : va_X b L xs s s.heap) (hbl : b < s.heap.size) (hW : qW D g (fun q => s.heap.size ≤ q) s.heap s w H locs) {k : Nat} (hk : k < L) (hL : L < 2 ^ 31) (hdg : decode cc pc = .ok (.iaload, 1))
    (kk : W p l e R s m args below meth c H locs cells slots Q (F0 m (pc + 1) ls (.int (xs k) :: rest))) : W p l e R s m args below meth c H locs cells slots Q (F0 m pc ls (.int (nI k) :: .ref b :: rest)) := by
  refine va_sld C.1 C.2.1 hX hbl (Nat.not_le.mpr hbl) hW.2.2.2.1 (vp_in_nI hk hL) hdg ?_
  rw [nI_clamp (by omega)]
  exact kk
theorem q_b01 {x : Int32} {b : Bool} {p2 : Nat} {off off2 : Int} (C : CallFix p m c cc nL s args Ts own) (d1 : decode cc pc = .ok (.ifCond .eq off, 3)) (d2 : decode cc (pc + 3) = .ok (.iconst 1, 1)) (d3 : decode cc (pc + 4) = .ok (.goto off2, 3)) (d4 : decode cc p2 = .ok (.iconst 0, 1)) (h1 : (pc : Int) + off = (p2 : Int)) (h2 : ((pc + 4 : Nat) : Int) + off2 = ((p2 + 1 : Nat) : Int)) (hb : x = 0 → b = false) (hb' : ¬ x = 0 → b = true)
    (k : W p l e R s m args below meth c H locs cells slots Q (F0 m (p2 + 1) ls (.int (bI b) :: rest))) : W p l e R s m args below meth c H locs cells slots Q (F0 m pc ls (.int x :: rest)) := by
  refine lv_if_eq (tgt := p2) C.1 C.2.1 d1 h1 (fun z => ?_) (fun z => ?_)
  · rw [hb z] at k
    exact lv_iconst (v := bI false) C.1 C.2.1 d4 (by decide) k
  · rw [hb' z] at k
    refine lv_iconst (v := bI true) C.1 C.2.1 d2 (by decide) ?_
    exact lv_goto (tgt := p2 + 1) C.1 C.2.1 d3 h2 k
theorem q_l01 {b : Bool} {p2 : Nat} {off off2 : Int} (C : CallFix p m c cc nL s args Ts own) (d1 : decode cc pc = .ok (.ifCond .eq off, 3)) (d2 : decode cc (pc + 3) = .ok (.lconst 1, 1)) (d3 : decode cc (pc + 4) = .ok (.goto off2, 3)) (d4 : decode cc p2 = .ok (.lconst 0, 1)) (h1 : (pc : Int) + off = (p2 : Int)) (h2 : ((pc + 4 : Nat) : Int) + off2 = ((p2 + 1 : Nat) : Int))
    (k : W p l e R s m args below meth c H locs cells slots Q (F0 m (p2 + 1) ls (.long (if b = true then 1 else 0) :: rest))) : W p l e R s m args below meth c H locs cells slots Q (F0 m pc ls (.int (bI b) :: rest)) := by
  refine q_bt (b := b) (tgt := p2) C d1 h1 (fun z => ?_) (fun z => ?_)
  · subst z
    exact lv_lconst (v := 0) C.1 C.2.1 d4 rfl k
  · subst z
    refine lv_lconst (v := 1) C.1 C.2.1 d2 rfl ?_
    exact lv_goto (tgt := p2 + 1) C.1 C.2.1 d3 h2 k
end LWQ
section LWF
variable {p : Program} {l : Launch} {e : Env} {R : Room} {s : State} {m : MethodId} {args : Array Value} {below : List Frame} {meth : Method} {c : Code} {H : Heap} {locs : List Loc} {cells slots : Nat} {Q : State → Prop}
variable {cc : ByteArray} {nL : Nat} {Ts : List Cond} {own : String} {D : va_G} {g : Nat → ClassId} {A : Nat → Prop} {H0 : Heap} {w : va_W} {pc : Nat} {ls : Array Slot} {rest st : List Value} {a : Nat}
variable {S : Type} {y : MethodName} {wsy wsy' : List Cond} {rm : Room} {b ci index maxL mc ms : Nat} {bytes : ByteArray} {ret : Option FieldType} {As fs : List Value} {wc wr : va_W} {w1 : S → va_W} {q : vw_C}
theorem q_callVf {post : UInt32 → S → Prop} (C : CallFix p m c cc nL s args Ts own) (hM : qMf l y wsy rm D g (.ref b :: As) wc H.size post w1 mc ms) (hT : GoodIn Ts (wsV own index q.1 y wsy)) (hw : wsy = Cond.code y bytes maxL ret :: wsy') (hrc : rm.cells = mc) (hrs : rm.slots = ms)
    (hd : y.cls = q.1 ∧ y.cls ≠ "java/lang/invoke/MethodHandle" ∧ y.cls ≠ "java/lang/invoke/VarHandle" ∧ (parseMethodDescriptor y.desc).map (fun d => d.parameters.length) = some As.length) (hR : rm.frames + 1 ≤ R.frames ∧ 8 + (maxL + 11) + rm.locals ≤ R.locals)
    (hW : qW D g A H0 s w H locs) (hp : w.Perm (wc ++ wr)) (W' : S → va_W) (hp' : ∀ u, (W' u).Perm (w1 u ++ wr)) (hc : vwCl[ci]? = some q) (he : wc[0]? = some (b, .inr (ci, fs))) (hl : ls.size = nL) (hst : st = As.reverse ++ .ref b :: rest) (hrm : (rest.map fun v => v.category).sum ≤ 8) (hf : cells + mc ≤ R.cells ∧ slots + ms ≤ R.slots)
    (hdg : decode cc pc = .ok (.invokevirtual index, 3))
    (kk : ∀ (r : UInt32) (u : S) (H1 : Heap) (locs1 : List Loc), post r u → qW D g A H0 s (W' u) H1 locs1 → W p l e R s m args below meth c H1 locs1 (cells + mc) (slots + ms) Q (F0 m (pc + 3) ls (.float r :: rest))) : W p l e R s m args below meth c H locs cells slots Q (F0 m pc ls st) :=
  va_callf (va_runV C hM (cwV As.length C.2.2.2.2 hT hw hrc hrs hd hR) (q_preV hW hp hc he) rfl rfl hl hst (lv_room hrm) hdg hf) hW.2.2.2.1 (fun z _ h => q_free hW hp z h) (q_free hW hp) (fun r u t H1 locs1 ht _ hpo hB _ hk hS => kk r u H1 locs1 hpo (q_back hW hp hp' ht hB hk hS))
theorem q_callVd {post : UInt64 → S → Prop} (C : CallFix p m c cc nL s args Ts own) (hM : qMd l y wsy rm D g (.ref b :: As) wc H.size post w1 mc ms) (hT : GoodIn Ts (wsV own index q.1 y wsy)) (hw : wsy = Cond.code y bytes maxL ret :: wsy') (hrc : rm.cells = mc) (hrs : rm.slots = ms)
    (hd : y.cls = q.1 ∧ y.cls ≠ "java/lang/invoke/MethodHandle" ∧ y.cls ≠ "java/lang/invoke/VarHandle" ∧ (parseMethodDescriptor y.desc).map (fun d => d.parameters.length) = some As.length) (hR : rm.frames + 1 ≤ R.frames ∧ 8 + (maxL + 11) + rm.locals ≤ R.locals)
    (hW : qW D g A H0 s w H locs) (hp : w.Perm (wc ++ wr)) (W' : S → va_W) (hp' : ∀ u, (W' u).Perm (w1 u ++ wr)) (hc : vwCl[ci]? = some q) (he : wc[0]? = some (b, .inr (ci, fs))) (hl : ls.size = nL) (hst : st = As.reverse ++ .ref b :: rest) (hrm : (rest.map fun v => v.category).sum ≤ 8) (hf : cells + mc ≤ R.cells ∧ slots + ms ≤ R.slots)
    (hdg : decode cc pc = .ok (.invokevirtual index, 3))
    (kk : ∀ (r : UInt64) (u : S) (H1 : Heap) (locs1 : List Loc), post r u → qW D g A H0 s (W' u) H1 locs1 → W p l e R s m args below meth c H1 locs1 (cells + mc) (slots + ms) Q (F0 m (pc + 3) ls (.double r :: rest))) : W p l e R s m args below meth c H locs cells slots Q (F0 m pc ls st) :=
  va_calld (va_runV C hM (cwV As.length C.2.2.2.2 hT hw hrc hrs hd hR) (q_preV hW hp hc he) rfl rfl hl hst (lv_room hrm) hdg hf) hW.2.2.2.1 (fun z _ h => q_free hW hp z h) (q_free hW hp) (fun r u t H1 locs1 ht _ hpo hB _ hk hS => kk r u H1 locs1 hpo (q_back hW hp hp' ht hB hk hS))
end LWF
