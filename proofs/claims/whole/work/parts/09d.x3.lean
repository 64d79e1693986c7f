section QSI
variable {p : Program} {l : Launch} {e : Env} {R : Room} {s : State} {m : MethodId} {args : Array Value} {below : List Frame} {meth : Method} {c : Code} {H : Heap} {locs : List Loc} {cells slots : Nat} {Q : State → Prop}
variable {cc : ByteArray} {nL : Nat} {Ts : List Cond} {own : String} {D : va_G} {g : Nat → ClassId} {ev : Nat × Nat × (Nat → Nat)} {A : Nat → Prop} {w : va_W} {pc : Nat} {ls : Array Slot} {rest st : List Value} {S : Type} {y : MethodName} {wsy wsy' : List Cond} {rm : Room} {index maxL mc ms : Nat} {bytes : ByteArray} {ret : Option FieldType} {As : List Value} {wc wr : va_W} {w1 : S → va_W}
theorem qe_callSi {post : Int32 → S → Prop} (C : CallFix p m c cc nL s args Ts own) (hE : qE D g ev A s s.heap) (hM : qNi l y wsy rm D g ev As wc H.size post w1 mc ms) (hT : GoodIn Ts (va_wsS own index y wsy)) (hw : wsy = Cond.code y bytes maxL ret :: wsy') (hrc : rm.cells = mc) (hrs : rm.slots = ms)
    (hd : y.cls ≠ "java/lang/invoke/MethodHandle" ∧ y.cls ≠ "java/lang/invoke/VarHandle" ∧ (parseMethodDescriptor y.desc).map (fun d => d.parameters.length) = some As.length) (hR : rm.frames + 1 ≤ R.frames ∧ 8 + (maxL + 11) + rm.locals ≤ R.locals)
    (hW : qW D g A s.heap s w H locs) (hp : w.Perm (wc ++ wr)) (W' : S → va_W) (hp' : ∀ u, (W' u).Perm (w1 u ++ wr)) (hl : ls.size = nL) (hst : st = As.reverse ++ rest) (hrm : (rest.map fun v => v.category).sum ≤ 8) (hf : cells + mc ≤ R.cells ∧ slots + ms ≤ R.slots)
    (hdg : decode cc pc = .ok (.invokestatic index, 3))
    (kk : ∀ (r : Int32) (u : S) (H1 : Heap) (locs1 : List Loc), post r u → qW D g A s.heap s (W' u) H1 locs1 → W p l e R s m args below meth c H1 locs1 (cells + mc) (slots + ms) Q (F0 m (pc + 3) ls (.int r :: rest))) : W p l e R s m args below meth c H locs cells slots Q (F0 m pc ls st) :=
  va_calli (va_runS C hM (va_cwS As.length C.2.2.2.2 hT hw hrc hrs hd hR) (qe_preS hE hW hp) rfl rfl hl hst (lv_room hrm) hdg hf) hW.2.2.2.1 (fun z _ h => q_free hW hp z h) (q_free hW hp) (fun r u t H1 locs1 ht _ hpo hB _ hk hS => kk r u H1 locs1 hpo (q_back hW hp hp' ht hB hk hS))
end QSI
theorem LOK.add {L : LyS} (h : LOK L) {k : Nat} (hn : lNm L < 12) (h1 : 1 ≤ k) (h2 : k ≤ 32) : LOK (pAdd L k) := by
  obtain ⟨g1, g2, g3, g4⟩ := h
  refine ⟨by show lNm L + 1 ≤ 12; omega, fun i hi => ?_, fun i a hi e => ?_, fun i hi => ?_⟩
  · show va_up (lSz L) (lNm L) k i ≤ 32
    unfold va_up
    split
    · exact h2
    · exact g2 i hi
  · have e : va_up (lSt L) (lNm L) none i = some a := e
    unfold va_up at e
    split at e
    · cases e
    · exact g3 i a hi e
  · have hi : i < lNm L + 1 := hi
    show 1 ≤ va_up (lSz L) (lNm L) k i
    unfold va_up
    split
    · exact h1
    · exact g4 i (by omega)
theorem LOK.set {L : LyS} (h : LOK L) {n : Nat} {o : Option Nat} (ho : ∀ a, o = some a → a ≤ 511) : LOK (pSetSt L n o) := by
  obtain ⟨g1, g2, g3, g4⟩ := h
  refine ⟨g1, g2, fun i a hi e => ?_, g4⟩
  have e : va_up (lSt L) n o i = some a := e
  unfold va_up at e
  split at e
  · exact ho a e
  · exact g3 i a hi e
theorem LOK.all {L : LyS} (h : LOK L) {al : Nat} (_ : 1 ≤ al) : LOK (pAll L al).2 := by
  unfold pAll
  cases e : plN (pCopy L) al (lNm L) with
  | none => exact h
  | some q => exact (plN_spec (show LOK (pCopy L) from h) e).1
theorem pAll_le {L : LyS} (h : LOK L) {al k : Nat} (e9 : (pAll L al).1 = some k) : k ≤ 12 := by
  unfold pAll at e9
  cases e : plN (pCopy L) al (lNm L) with
  | none => rw [e] at e9; cases e9
  | some q =>
    rw [e] at e9
    cases e9
    have := (plN_spec (show LOK (pCopy L) from h) e).2.2.2.2
    have := h.1
    omega
theorem inMem_of {L : LyS} {n : Nat} {v : Int32} (h : lSz L n ≤ 32) (h1 : 1 ≤ lSz L n) (e : inMem L n v = true) : ∃ x, x < 512 ∧ v = nI x := by
  unfold inMem at e
  by_cases h0 : v < 0
  · rw [if_pos h0] at e; cases e
  · rw [if_neg h0] at e
    by_cases h2 : nI (512 - lSz L n) < v
    · rw [if_pos h2] at e; cases e
    · obtain ⟨j, hj, rfl⟩ := nI_of h0
      rw [nI_ltI (by omega) hj] at h2
      exact ⟨j, by omega, rfl⟩
theorem hd_X3_addName : yX3_addName.cls = RX3 ∧ yX3_addName.cls ≠ "java/lang/invoke/MethodHandle" ∧ yX3_addName.cls ≠ "java/lang/invoke/VarHandle" ∧ (parseMethodDescriptor yX3_addName.desc).map (fun d => d.parameters.length) = some 1 := by decide +kernel
set_option maxHeartbeats 4000000 in
set_option maxRecDepth 100000 in
theorem c_X3_addName (l : Launch) (hst : l.stackTraces = false) (D : va_G) (g : Nat → ClassId) (ev : Nat × Nat × (Nat → Nat)) (A : Nat → Nat → Nat) (X : XS) (hX : XOK ev.1 X) (v : Int32) (sz : Nat) : qXi l yX3_addName (.code yX3_addName cX3_addName 2 (some .int) :: GW) ({ frames := 6, cells := 1, slots := 6, locals := 90 } : Room) D g ev [.ref (A 0 0), .int v] (wX g A X) sz (fun (r : Int32) (u : XS) => XOK ev.1 u ∧ ∃ rr : Nat, nI rr = r ∧ xAdd (pX X) v = (0, rr, pX u)) (fun E (u : XS) => XOK ev.1 u ∧ ∃ k, ([iaN, isN] : List String)[k]? = some E ∧ xAdd (pX X) v = (k + 1, 0, pX u)) (fun (u : XS) => wX g A u) 1 6 := by
  refine qx_entry (cc := cX3_addName) (nL := 2) (ret := (some .int)) rfl (by decide) (Nat.le_of_ble_eq_true rfl) (fun pp ee ss mm bb mt kc ls C hRt hLk hin hsz hW hE hnt hl => ?_)
  have hl : lv_has ls 2 [(0, .ref (A 0 0)), (1, .int v)] := hl
  have hW : qW D g (va_A (wX g A X) sz) ss.heap ss ([((A 0 0), .inr (6, [.ref (A 0 1), .ref (A 0 2), .ref (A 0 3), .ref (A 0 4), .ref (A 0 5)]))] ++ ((wL g (A 0 1) (A 1) (xL X)) ++ ((wC g (A 0 2) (A 2) (xC X)) ++ ((wC g (A 0 3) (A 3) (xR X)) ++ ((wAL g (A 0 4) (xl X)) ++ ((wAL g (A 0 5) (xa X)) ++ (wP  (xE X)))))))) ss.heap [] := hW
  have hN := hX.1.1
  have hN9 : lNm (sL (pX X)) ≤ 12 := hN
  refine lv_iload_n C.1 C.2.1 dX3_addName_0 rfl (lv_at hl 1 rfl) ?_
  refine lv_iconst (v := nI 1) C.1 C.2.1 dX3_addName_1 (by decide) ?_
  refine lv_icmp_lt (tgt := 11) C.1 C.2.1 dX3_addName_2 (by decide) (fun c_2 => ?_) (fun c_2 => ?_)
  · exact q_thrIAE C hst hE hW hLk hnt hl.1 (text := "a name has from 1 to 32 words") (List.mem_of_getElem? (i := 0) rfl) dX3_addName_11 dX3_addName_14 dX3_addName_15 dX3_addName_17 dX3_addName_20 ⟨(Nat.le_of_ble_eq_true rfl), (Nat.le_of_ble_eq_true rfl), (Nat.le_of_ble_eq_true rfl), (Nat.le_of_ble_eq_true rfl)⟩ (Nat.le_of_ble_eq_true rfl) (Nat.le_of_ble_eq_true rfl) X ⟨hX, 0, rfl, by unfold xAdd; rw [inP_lo c_2]⟩ rfl
  refine lv_iload_n C.1 C.2.1 dX3_addName_5 rfl (lv_at hl 1 rfl) ?_
  refine lv_bipush (v := nI 32) C.1 C.2.1 dX3_addName_6 (by decide) ?_
  refine lv_icmp_le (tgt := 21) C.1 C.2.1 dX3_addName_8 (by decide) (fun c_8 => ?_) (fun c_8 => ?_)
  · obtain ⟨k, hk1, hk2, rfl, hk9⟩ := inP_ok (by decide) c_2 c_8
    refine lv_aload_n C.1 C.2.1 dX3_addName_21 rfl (lv_at hl 0 rfl) ?_
    refine q_get (v := .ref (A 0 1)) C hW 0 rfl rfl 0 (by decide) gu_X3 (C.2.2.2.2 _ fl_X3_10) rfl rfl dX3_addName_22 ?_
    refine q_callVi (rest := []) C (c_X2_isFull l D g (A 0 1) (A 1) (xL X) hX.1 _) (gw_V ml_X3_43 im_X2_isFull se_X2_X2_isFull ini_X2 cd_X2_isFull rfl) rfl rfl rfl hd_X2_isFull ⟨Nat.le_of_ble_eq_true rfl, Nat.le_of_ble_eq_true rfl⟩ hW pm_1 (fun u_1 => ([((A 0 0), .inr (6, [.ref (A 0 1), .ref (A 0 2), .ref (A 0 3), .ref (A 0 4), .ref (A 0 5)]))] ++ ((wL g (A 0 1) (A 1) u_1) ++ ((wC g (A 0 2) (A 2) (xC X)) ++ ((wC g (A 0 3) (A 3) (xR X)) ++ ((wAL g (A 0 4) (xl X)) ++ ((wAL g (A 0 5) (xa X)) ++ (wP  (xE X))))))))) (fun _ => pm_1) rfl rfl hl.1 rfl (Nat.le_of_ble_eq_true rfl) ⟨Nat.le_of_ble_eq_true rfl, Nat.le_of_ble_eq_true rfl⟩ dX3_addName_25 (fun r_1 u_1 H locs e_1 hW => ?_)
    obtain ⟨rfl, rfl⟩ := e_1
    refine q_bt (b := decide (12 ≤ lNm (xL X))) (tgt := 41) C dX3_addName_28 (by decide) (fun c_28 => ?_) (fun c_28 => ?_)
    · have hf9 := of_decide_eq_false c_28
      refine lv_aload_n C.1 C.2.1 dX3_addName_41 rfl (lv_at hl 0 rfl) ?_
      refine q_get (v := .ref (A 0 1)) C hW 0 rfl rfl 0 (by decide) gu_X3 (C.2.2.2.2 _ fl_X3_10) rfl rfl dX3_addName_42 ?_
      refine lv_iload_n C.1 C.2.1 dX3_addName_45 rfl (lv_at hl 1 rfl) ?_
      refine q_callVi (rest := []) C (c_X2_addUnplaced l D g (A 0 1) (A 1) (xL X) k hX.1 (by omega) _) (gw_V ml_X3_52 im_X2_addUnplaced se_X2_X2_addUnplaced ini_X2 cd_X2_addUnplaced rfl) rfl rfl rfl hd_X2_addUnplaced ⟨Nat.le_of_ble_eq_true rfl, Nat.le_of_ble_eq_true rfl⟩ hW pm_1 (fun u_2 => ([((A 0 0), .inr (6, [.ref (A 0 1), .ref (A 0 2), .ref (A 0 3), .ref (A 0 4), .ref (A 0 5)]))] ++ ((wL g (A 0 1) (A 1) u_2) ++ ((wC g (A 0 2) (A 2) (xC X)) ++ ((wC g (A 0 3) (A 3) (xR X)) ++ ((wAL g (A 0 4) (xl X)) ++ ((wAL g (A 0 5) (xa X)) ++ (wP  (xE X))))))))) (fun _ => pm_1) rfl rfl hl.1 rfl (Nat.le_of_ble_eq_true rfl) ⟨Nat.le_of_ble_eq_true rfl, Nat.le_of_ble_eq_true rfl⟩ dX3_addName_46 (fun r_2 u_2 H locs e_2 hW => ?_)
      obtain ⟨rfl, e_2⟩ := e_2
      subst e_2
      exact vx_ret (q_iret C hRt hLk hW rfl (pAdd (xL X) k, xC X, xR X, xl X, xa X, xE X) ⟨hX.set (LOK.add hX.1 (by omega) hk1 hk2) _ _, _, rfl, by unfold xAdd; rw [hk9]; exact if_pos (show lNm (xL X) < 12 by omega)⟩ rfl (Nat.le_of_ble_eq_true rfl) (Nat.le_of_ble_eq_true rfl) dX3_addName_49)
    exact q_thrISE C hst hE hW hLk hnt hl.1 (text := "there are 12 names") (List.mem_of_getElem? (i := 1) rfl) dX3_addName_31 dX3_addName_34 dX3_addName_35 dX3_addName_37 dX3_addName_40 ⟨(Nat.le_of_ble_eq_true rfl), (Nat.le_of_ble_eq_true rfl), (Nat.le_of_ble_eq_true rfl), (Nat.le_of_ble_eq_true rfl)⟩ (Nat.le_of_ble_eq_true rfl) (Nat.le_of_ble_eq_true rfl) X ⟨hX, 1, rfl, by unfold xAdd; rw [hk9]; exact if_neg (by have := of_decide_eq_true c_28; show ¬ lNm (xL X) < 12; omega)⟩ rfl
  exact q_thrIAE C hst hE hW hLk hnt hl.1 (text := "a name has from 1 to 32 words") (List.mem_of_getElem? (i := 0) rfl) dX3_addName_11 dX3_addName_14 dX3_addName_15 dX3_addName_17 dX3_addName_20 ⟨(Nat.le_of_ble_eq_true rfl), (Nat.le_of_ble_eq_true rfl), (Nat.le_of_ble_eq_true rfl), (Nat.le_of_ble_eq_true rfl)⟩ (Nat.le_of_ble_eq_true rfl) (Nat.le_of_ble_eq_true rfl) X ⟨hX, 0, rfl, by unfold xAdd; rw [inP_hi c_2 c_8]⟩ rfl

theorem hd_X3_place : yX3_place.cls = RX3 ∧ yX3_place.cls ≠ "java/lang/invoke/MethodHandle" ∧ yX3_place.cls ≠ "java/lang/invoke/VarHandle" ∧ (parseMethodDescriptor yX3_place.desc).map (fun d => d.parameters.length) = some 2 := by decide +kernel
set_option maxHeartbeats 4000000 in
set_option maxRecDepth 100000 in
theorem c_X3_place (l : Launch) (hst : l.stackTraces = false) (D : va_G) (g : Nat → ClassId) (ev : Nat × Nat × (Nat → Nat)) (A : Nat → Nat → Nat) (X : XS) (hX : XOK ev.1 X) (v1 : Int32) (v2 : Int32) (sz : Nat) : qXi l yX3_place (.code yX3_place cX3_place 3 (some .int) :: GW) ({ frames := 7, cells := 2, slots := 12, locals := 111 } : Room) D g ev [.ref (A 0 0), .int v1, .int v2] (wX g A X) sz (fun (r : Int32) (u : XS) => XOK ev.1 u ∧ ∃ rr : Nat, nI rr = r ∧ xPlace (pX X) v1 v2 = (0, rr, pX u)) (fun E (u : XS) => XOK ev.1 u ∧ ∃ k, ([nsN, iaN, isN] : List String)[k]? = some E ∧ xPlace (pX X) v1 v2 = (k + 1, 0, pX u)) (fun (u : XS) => wX g A u) 2 12 := by
  refine qx_entry (cc := cX3_place) (nL := 3) (ret := (some .int)) rfl (by decide) (Nat.le_of_ble_eq_true rfl) (fun pp ee ss mm bb mt kc ls C hRt hLk hin hsz hW hE hnt hl => ?_)
  have hl : lv_has ls 3 [(0, .ref (A 0 0)), (1, .int v1), (2, .int v2)] := hl
  have hW : qW D g (va_A (wX g A X) sz) ss.heap ss ([((A 0 0), .inr (6, [.ref (A 0 1), .ref (A 0 2), .ref (A 0 3), .ref (A 0 4), .ref (A 0 5)]))] ++ ((wL g (A 0 1) (A 1) (xL X)) ++ ((wC g (A 0 2) (A 2) (xC X)) ++ ((wC g (A 0 3) (A 3) (xR X)) ++ ((wAL g (A 0 4) (xl X)) ++ ((wAL g (A 0 5) (xa X)) ++ (wP  (xE X)))))))) ss.heap [] := hW
  have hN := hX.1.1
  have hN9 : lNm (sL (pX X)) ≤ 12 := hN
  refine lv_aload_n C.1 C.2.1 dX3_place_0 rfl (lv_at hl 0 rfl) ?_
  refine lv_iload_n C.1 C.2.1 dX3_place_1 rfl (lv_at hl 1 rfl) ?_
  refine qx_callVv (rest := []) C hE hLk hnt (c_X3_checkName l hst D g ev A X hX v1 _) (gw_V ml_X3_56 im_X3_checkName se_X3_X3_checkName ini_X3 cd_X3_checkName rfl) rfl rfl rfl hd_X3_checkName ⟨(Nat.le_of_ble_eq_true rfl), (Nat.le_of_ble_eq_true rfl)⟩ hW pm_all (fun _ => ([((A 0 0), .inr (6, [.ref (A 0 1), .ref (A 0 2), .ref (A 0 3), .ref (A 0 4), .ref (A 0 5)]))] ++ ((wL g (A 0 1) (A 1) (xL X)) ++ ((wC g (A 0 2) (A 2) (xC X)) ++ ((wC g (A 0 3) (A 3) (xR X)) ++ ((wAL g (A 0 4) (xl X)) ++ ((wAL g (A 0 5) (xa X)) ++ (wP  (xE X))))))))) (fun _ => pm_all) rfl rfl hl.1 rfl (Nat.le_of_ble_eq_true rfl) ⟨(Nat.le_of_ble_eq_true rfl), (Nat.le_of_ble_eq_true rfl)⟩ ⟨(Nat.le_of_ble_eq_true rfl), (Nat.le_of_ble_eq_true rfl)⟩ dX3_place_2 (fun E _ h => ⟨X, ⟨hX, by obtain ⟨rfl, h0⟩ := h; exact ⟨0, rfl, by unfold xPlace; rw [show inR (lNm (sL (pX X))) v1 = none from h0]⟩⟩, rfl⟩) (fun u_1 H locs e_1 hW => ?_)
  obtain ⟨n, hn, rfl⟩ := e_1
  refine lv_aload_n C.1 C.2.1 dX3_place_5 rfl (lv_at hl 0 rfl) ?_
  refine q_get (v := .ref (A 0 1)) C hW 0 rfl rfl 0 (by decide) gu_X3 (C.2.2.2.2 _ fl_X3_10) rfl rfl dX3_place_6 ?_
  refine lv_iload_n C.1 C.2.1 dX3_place_9 rfl (lv_at hl 1 rfl) ?_
  refine lv_iload_n C.1 C.2.1 dX3_place_10 rfl (lv_at hl 2 rfl) ?_
  refine q_callVi (rest := []) C (c_X2_isInMemory l D g (A 0 1) (A 1) (xL X) n v2 hX.1 (by omega) _) (gw_V ml_X3_60 im_X2_isInMemory se_X2_X2_isInMemory ini_X2 cd_X2_isInMemory rfl) rfl rfl rfl hd_X2_isInMemory ⟨Nat.le_of_ble_eq_true rfl, Nat.le_of_ble_eq_true rfl⟩ hW pm_1 (fun u_2 => ([((A 0 0), .inr (6, [.ref (A 0 1), .ref (A 0 2), .ref (A 0 3), .ref (A 0 4), .ref (A 0 5)]))] ++ ((wL g (A 0 1) (A 1) u_2) ++ ((wC g (A 0 2) (A 2) (xC X)) ++ ((wC g (A 0 3) (A 3) (xR X)) ++ ((wAL g (A 0 4) (xl X)) ++ ((wAL g (A 0 5) (xa X)) ++ (wP  (xE X))))))))) (fun _ => pm_1) rfl rfl hl.1 rfl (Nat.le_of_ble_eq_true rfl) ⟨Nat.le_of_ble_eq_true rfl, Nat.le_of_ble_eq_true rfl⟩ dX3_place_11 (fun r_2 u_2 H locs e_2 hW => ?_)
  obtain ⟨rfl, rfl⟩ := e_2
  refine q_bf (b := inMem (xL X) n v2) (tgt := 27) C dX3_place_14 (by decide) (fun c_14 => ?_) (fun c_14 => ?_)
  · obtain ⟨x, hx, rfl⟩ := inMem_of (hX.1.sz (i := n) (by omega)) (hX.1.2.2.2 n hn) c_14
    refine lv_aload_n C.1 C.2.1 dX3_place_27 rfl (lv_at hl 0 rfl) ?_
    refine q_get (v := .ref (A 0 1)) C hW 0 rfl rfl 0 (by decide) gu_X3 (C.2.2.2.2 _ fl_X3_10) rfl rfl dX3_place_28 ?_
    refine lv_iload_n C.1 C.2.1 dX3_place_31 rfl (lv_at hl 1 rfl) ?_
    refine q_callVi (rest := []) C (c_X2_isPlaced l D g (A 0 1) (A 1) (xL X) n hX.1 (by omega) _) (gw_V ml_X3_66 im_X2_isPlaced se_X2_X2_isPlaced ini_X2 cd_X2_isPlaced rfl) rfl rfl rfl hd_X2_isPlaced ⟨Nat.le_of_ble_eq_true rfl, Nat.le_of_ble_eq_true rfl⟩ hW pm_1 (fun u_3 => ([((A 0 0), .inr (6, [.ref (A 0 1), .ref (A 0 2), .ref (A 0 3), .ref (A 0 4), .ref (A 0 5)]))] ++ ((wL g (A 0 1) (A 1) u_3) ++ ((wC g (A 0 2) (A 2) (xC X)) ++ ((wC g (A 0 3) (A 3) (xR X)) ++ ((wAL g (A 0 4) (xl X)) ++ ((wAL g (A 0 5) (xa X)) ++ (wP  (xE X))))))))) (fun _ => pm_1) rfl rfl hl.1 rfl (Nat.le_of_ble_eq_true rfl) ⟨Nat.le_of_ble_eq_true rfl, Nat.le_of_ble_eq_true rfl⟩ dX3_place_32 (fun r_3 u_3 H locs e_3 hW => ?_)
    obtain ⟨rfl, rfl⟩ := e_3
    refine q_bt (b := (lSt (xL X) n).isSome) (tgt := 48) C dX3_place_35 (by decide) (fun c_35 => ?_) (fun c_35 => ?_)
    · refine lv_aload_n C.1 C.2.1 dX3_place_48 rfl (lv_at hl 0 rfl) ?_
      refine q_get (v := .ref (A 0 1)) C hW 0 rfl rfl 0 (by decide) gu_X3 (C.2.2.2.2 _ fl_X3_10) rfl rfl dX3_place_49 ?_
      refine lv_iload_n C.1 C.2.1 dX3_place_52 rfl (lv_at hl 1 rfl) ?_
      refine lv_iload_n C.1 C.2.1 dX3_place_53 rfl (lv_at hl 2 rfl) ?_
      refine q_callVi (rest := []) C (c_X2_isFree l D g (A 0 1) (A 1) (xL X) n x hX.1 (by omega) (by omega) _) (gw_V ml_X3_72 im_X2_isFree se_X2_X2_isFree ini_X2 cd_X2_isFree rfl) rfl rfl rfl hd_X2_isFree ⟨Nat.le_of_ble_eq_true rfl, Nat.le_of_ble_eq_true rfl⟩ hW pm_1 (fun u_4 => ([((A 0 0), .inr (6, [.ref (A 0 1), .ref (A 0 2), .ref (A 0 3), .ref (A 0 4), .ref (A 0 5)]))] ++ ((wL g (A 0 1) (A 1) u_4) ++ ((wC g (A 0 2) (A 2) (xC X)) ++ ((wC g (A 0 3) (A 3) (xR X)) ++ ((wAL g (A 0 4) (xl X)) ++ ((wAL g (A 0 5) (xa X)) ++ (wP  (xE X))))))))) (fun _ => pm_1) rfl rfl hl.1 rfl (Nat.le_of_ble_eq_true rfl) ⟨Nat.le_of_ble_eq_true rfl, Nat.le_of_ble_eq_true rfl⟩ dX3_place_54 (fun r_4 u_4 H locs e_4 hW => ?_)
      obtain ⟨rfl, rfl⟩ := e_4
      refine q_bf (b := pFree (xL X) n x) (tgt := 70) C dX3_place_57 (by decide) (fun c_57 => ?_) (fun c_57 => ?_)
      · refine lv_aload_n C.1 C.2.1 dX3_place_70 rfl (lv_at hl 0 rfl) ?_
        refine q_get (v := .ref (A 0 1)) C hW 0 rfl rfl 0 (by decide) gu_X3 (C.2.2.2.2 _ fl_X3_10) rfl rfl dX3_place_71 ?_
        refine lv_iload_n C.1 C.2.1 dX3_place_74 rfl (lv_at hl 1 rfl) ?_
        refine lv_iload_n C.1 C.2.1 dX3_place_75 rfl (lv_at hl 2 rfl) ?_
        refine q_callVv (rest := []) C (c_X2_setStart l D g (A 0 1) (A 1) (xL X) n (some x) hX.1 (by omega) _) (gw_V ml_X3_77 im_X2_setStart se_X2_X2_setStart ini_X2 cd_X2_setStart rfl) rfl rfl rfl hd_X2_setStart ⟨Nat.le_of_ble_eq_true rfl, Nat.le_of_ble_eq_true rfl⟩ hW pm_1 (fun u_5 => ([((A 0 0), .inr (6, [.ref (A 0 1), .ref (A 0 2), .ref (A 0 3), .ref (A 0 4), .ref (A 0 5)]))] ++ ((wL g (A 0 1) (A 1) u_5) ++ ((wC g (A 0 2) (A 2) (xC X)) ++ ((wC g (A 0 3) (A 3) (xR X)) ++ ((wAL g (A 0 4) (xl X)) ++ ((wAL g (A 0 5) (xa X)) ++ (wP  (xE X))))))))) (fun _ => pm_1) rfl rfl hl.1 rfl (Nat.le_of_ble_eq_true rfl) ⟨Nat.le_of_ble_eq_true rfl, Nat.le_of_ble_eq_true rfl⟩ dX3_place_76 (fun u_5 H locs e_5 hW => ?_)
        skip
        refine lv_iload_n C.1 C.2.1 dX3_place_79 rfl (lv_at hl 2 rfl) ?_
        refine lv_bipush (v := nI 8) C.1 C.2.1 dX3_place_80 (by decide) ?_
        refine q_idiv C (by omega) (by omega) (by omega) dX3_place_82 ?_
        subst e_5
        exact vx_ret (q_iret C hRt hLk hW rfl (pSetSt (xL X) n (some x), xC X, xR X, xl X, xa X, xE X) ⟨hX.set (LOK.set hX.1 (fun a ha => by cases ha; omega)) _ _, _, rfl, by unfold xPlace; rw [show inR (lNm (sL (pX X))) (nI n) = some n from inR_nI hn (by omega)]; dsimp only; rw [if_pos (show inMem (sL (pX X)) n (nI x) = true from c_14), if_neg (by rw [show (lSt (sL (pX X)) n).isSome = false from c_35]; decide), nI_clamp (by omega)]; exact if_pos c_57⟩ rfl (Nat.le_of_ble_eq_true rfl) (Nat.le_of_ble_eq_true rfl) dX3_place_83)
      exact q_thrISE C hst hE hW hLk hnt hl.1 (text := "another name is there") (List.mem_of_getElem? (i := 5) rfl) dX3_place_60 dX3_place_63 dX3_place_64 dX3_place_66 dX3_place_69 ⟨(Nat.le_of_ble_eq_true rfl), (Nat.le_of_ble_eq_true rfl), (Nat.le_of_ble_eq_true rfl), (Nat.le_of_ble_eq_true rfl)⟩ (Nat.le_of_ble_eq_true rfl) (Nat.le_of_ble_eq_true rfl) X ⟨hX, 2, rfl, by unfold xPlace; rw [show inR (lNm (sL (pX X))) (nI n) = some n from inR_nI hn (by omega)]; dsimp only; rw [if_pos (show inMem (sL (pX X)) n (nI x) = true from c_14)]; rw [if_neg (by rw [show (lSt (sL (pX X)) n).isSome = false from c_35]; decide)]; exact if_neg (by rw [nI_clamp (by omega), show pFree (sL (pX X)) n x = false from c_57]; decide)⟩ rfl
    exact q_thrISE C hst hE hW hLk hnt hl.1 (text := "the name is placed") (List.mem_of_getElem? (i := 4) rfl) dX3_place_38 dX3_place_41 dX3_place_42 dX3_place_44 dX3_place_47 ⟨(Nat.le_of_ble_eq_true rfl), (Nat.le_of_ble_eq_true rfl), (Nat.le_of_ble_eq_true rfl), (Nat.le_of_ble_eq_true rfl)⟩ (Nat.le_of_ble_eq_true rfl) (Nat.le_of_ble_eq_true rfl) X ⟨hX, 2, rfl, by unfold xPlace; rw [show inR (lNm (sL (pX X))) (nI n) = some n from inR_nI hn (by omega)]; dsimp only; rw [if_pos (show inMem (sL (pX X)) n (nI x) = true from c_14)]; exact if_pos c_35⟩ rfl
  exact q_thrIAE C hst hE hW hLk hnt hl.1 (text := "the memory has the addresses 0 to 511") (List.mem_of_getElem? (i := 3) rfl) dX3_place_17 dX3_place_20 dX3_place_21 dX3_place_23 dX3_place_26 ⟨(Nat.le_of_ble_eq_true rfl), (Nat.le_of_ble_eq_true rfl), (Nat.le_of_ble_eq_true rfl), (Nat.le_of_ble_eq_true rfl)⟩ (Nat.le_of_ble_eq_true rfl) (Nat.le_of_ble_eq_true rfl) X ⟨hX, 1, rfl, by unfold xPlace; rw [show inR (lNm (sL (pX X))) (nI n) = some n from inR_nI hn (by omega)]; dsimp only; exact if_neg (by rw [show inMem (sL (pX X)) n v2 = false from c_14]; decide)⟩ rfl

theorem hd_X3_link : yX3_link.cls = RX3 ∧ yX3_link.cls ≠ "java/lang/invoke/MethodHandle" ∧ yX3_link.cls ≠ "java/lang/invoke/VarHandle" ∧ (parseMethodDescriptor yX3_link.desc).map (fun d => d.parameters.length) = some 1 := by decide +kernel
set_option maxHeartbeats 4000000 in
set_option maxRecDepth 100000 in
theorem c_X3_link (l : Launch) (hst : l.stackTraces = false) (D : va_G) (g : Nat → ClassId) (ev : Nat × Nat × (Nat → Nat)) (A : Nat → Nat → Nat) (X : XS) (hX : XOK ev.1 X) (v : Int32) (sz : Nat) : qXi l yX3_link (.code yX3_link cX3_link 3 (some .int) :: GW) ({ frames := 6, cells := 1, slots := 6, locals := 93 } : Room) D g ev [.ref (A 0 0), .int v] (wX g A X) sz (fun (r : Int32) (u : XS) => XOK ev.1 u ∧ ∃ rr : Nat, nI rr = r ∧ xLink (pX X) v = (0, rr, pX u)) (fun E (u : XS) => XOK ev.1 u ∧ ∃ k, ([iaN, uoN] : List String)[k]? = some E ∧ xLink (pX X) v = (k + 1, 0, pX u)) (fun (u : XS) => wX g A u) 1 6 := by
  refine qx_entry (cc := cX3_link) (nL := 3) (ret := (some .int)) rfl (by decide) (Nat.le_of_ble_eq_true rfl) (fun pp ee ss mm bb mt kc ls C hRt hLk hin hsz hW hE hnt hl => ?_)
  have hl : lv_has ls 3 [(0, .ref (A 0 0)), (1, .int v)] := hl
  have hW : qW D g (va_A (wX g A X) sz) ss.heap ss ([((A 0 0), .inr (6, [.ref (A 0 1), .ref (A 0 2), .ref (A 0 3), .ref (A 0 4), .ref (A 0 5)]))] ++ ((wL g (A 0 1) (A 1) (xL X)) ++ ((wC g (A 0 2) (A 2) (xC X)) ++ ((wC g (A 0 3) (A 3) (xR X)) ++ ((wAL g (A 0 4) (xl X)) ++ ((wAL g (A 0 5) (xa X)) ++ (wP  (xE X)))))))) ss.heap [] := hW
  have hN := hX.1.1
  have hN9 : lNm (sL (pX X)) ≤ 12 := hN
  refine lv_iload_n C.1 C.2.1 dX3_link_0 rfl (lv_at hl 1 rfl) ?_
  refine lv_iconst (v := nI 1) C.1 C.2.1 dX3_link_1 (by decide) ?_
  refine lv_icmp_lt (tgt := 11) C.1 C.2.1 dX3_link_2 (by decide) (fun c_2 => ?_) (fun c_2 => ?_)
  · exact q_thrIAE C hst hE hW hLk hnt hl.1 (text := "the number is from 1 to 64") (List.mem_of_getElem? (i := 6) rfl) dX3_link_11 dX3_link_14 dX3_link_15 dX3_link_17 dX3_link_20 ⟨(Nat.le_of_ble_eq_true rfl), (Nat.le_of_ble_eq_true rfl), (Nat.le_of_ble_eq_true rfl), (Nat.le_of_ble_eq_true rfl)⟩ (Nat.le_of_ble_eq_true rfl) (Nat.le_of_ble_eq_true rfl) X ⟨hX, 0, rfl, by unfold xLink; rw [inP_lo c_2]⟩ rfl
  refine lv_iload_n C.1 C.2.1 dX3_link_5 rfl (lv_at hl 1 rfl) ?_
  refine lv_bipush (v := nI 64) C.1 C.2.1 dX3_link_6 (by decide) ?_
  refine lv_icmp_le (tgt := 21) C.1 C.2.1 dX3_link_8 (by decide) (fun c_8 => ?_) (fun c_8 => ?_)
  · obtain ⟨al, hk1, hk2, rfl, hk9⟩ := inP_ok (by decide) c_2 c_8
    refine lv_aload_n C.1 C.2.1 dX3_link_21 rfl (lv_at hl 0 rfl) ?_
    refine q_get (v := .ref (A 0 1)) C hW 0 rfl rfl 0 (by decide) gu_X3 (C.2.2.2.2 _ fl_X3_10) rfl rfl dX3_link_22 ?_
    refine lv_iload_n C.1 C.2.1 dX3_link_25 rfl (lv_at hl 1 rfl) ?_
    refine q_callVi (rest := []) C (c_X2_placeAll l D g (A 0 1) (A 1) (xL X) al hX.1 (by omega) (by omega) _) (gw_V ml_X3_83 im_X2_placeAll se_X2_X2_placeAll ini_X2 cd_X2_placeAll rfl) rfl rfl rfl hd_X2_placeAll ⟨Nat.le_of_ble_eq_true rfl, Nat.le_of_ble_eq_true rfl⟩ hW pm_1 (fun u_1 => ([((A 0 0), .inr (6, [.ref (A 0 1), .ref (A 0 2), .ref (A 0 3), .ref (A 0 4), .ref (A 0 5)]))] ++ ((wL g (A 0 1) (A 1) u_1) ++ ((wC g (A 0 2) (A 2) (xC X)) ++ ((wC g (A 0 3) (A 3) (xR X)) ++ ((wAL g (A 0 4) (xl X)) ++ ((wAL g (A 0 5) (xa X)) ++ (wP  (xE X))))))))) (fun _ => pm_1) rfl rfl hl.1 rfl (Nat.le_of_ble_eq_true rfl) ⟨Nat.le_of_ble_eq_true rfl, Nat.le_of_ble_eq_true rfl⟩ dX3_link_26 (fun r_1 u_1 H locs e_1 hW => ?_)
    obtain ⟨rfl, e_1⟩ := e_1
    refine lv_istore_n (lv' := [(2, .int (oI ((pAll (xL X) al).1))), (0, .ref (A 0 0)), (1, .int (nI al))]) C.1 C.2.1 dX3_link_29 rfl hl (by decide) rfl (fun ls hl => ?_)
    refine lv_iload_n C.1 C.2.1 dX3_link_30 rfl (lv_at hl 0 rfl) ?_
    refine lv_iconst (v := (-1)) C.1 C.2.1 dX3_link_31 (by decide) ?_
    refine q_one (o := (pAll (xL X) al).1) (tgt := 45) C (fun i9 e9 => by have := pAll_le hX.1 e9; omega) dX3_link_32 (by decide) (fun j_32 o_32 => ?_) (fun o_32 => ?_)
    · rw [o_32] at hl
      have hl : lv_has ls 3 [(2, .int (nI j_32)), (0, .ref (A 0 0)), (1, .int (nI al))] := hl
      refine lv_iload_n C.1 C.2.1 dX3_link_45 rfl (lv_at hl 0 rfl) ?_
      exact vx_ret (q_iret C hRt hLk hW rfl (u_1, (xC X), (xR X), (xl X), (xa X), (xE X)) ⟨hX.set (by rw [← e_1]; exact LOK.all hX.1 hk1) _ _, _, rfl, by unfold xLink; rw [hk9]; dsimp only; rw [show (pAll (sL (pX X)) al).1 = some _ from o_32]; dsimp only; rw [show (pAll (sL (pX X)) al).2 = _ from e_1]; rfl⟩ rfl (Nat.le_of_ble_eq_true rfl) (Nat.le_of_ble_eq_true rfl) dX3_link_46)
    rw [o_32] at hl
    have hl : lv_has ls 3 [(2, .int (-1)), (0, .ref (A 0 0)), (1, .int (nI al))] := hl
    exact q_thrUOE C hst hE hW hLk hnt hl.1 (text := "a name cannot be placed") (List.mem_of_getElem? (i := 7) rfl) dX3_link_35 dX3_link_38 dX3_link_39 dX3_link_41 dX3_link_44 ⟨(Nat.le_of_ble_eq_true rfl), (Nat.le_of_ble_eq_true rfl), (Nat.le_of_ble_eq_true rfl), (Nat.le_of_ble_eq_true rfl)⟩ (Nat.le_of_ble_eq_true rfl) (Nat.le_of_ble_eq_true rfl) (u_1, (xC X), (xR X), (xl X), (xa X), (xE X)) ⟨hX.set (by rw [← e_1]; exact LOK.all hX.1 hk1) _ _, 1, rfl, by unfold xLink; rw [hk9]; dsimp only; rw [show (pAll (sL (pX X)) al).1 = none from o_32]; dsimp only; rw [show (pAll (sL (pX X)) al).2 = _ from e_1]; rfl⟩ rfl
  exact q_thrIAE C hst hE hW hLk hnt hl.1 (text := "the number is from 1 to 64") (List.mem_of_getElem? (i := 6) rfl) dX3_link_11 dX3_link_14 dX3_link_15 dX3_link_17 dX3_link_20 ⟨(Nat.le_of_ble_eq_true rfl), (Nat.le_of_ble_eq_true rfl), (Nat.le_of_ble_eq_true rfl), (Nat.le_of_ble_eq_true rfl)⟩ (Nat.le_of_ble_eq_true rfl) (Nat.le_of_ble_eq_true rfl) X ⟨hX, 0, rfl, by unfold xLink; rw [inP_hi c_2 c_8]⟩ rfl

theorem hd_X3_take : yX3_take.cls = RX3 ∧ yX3_take.cls ≠ "java/lang/invoke/MethodHandle" ∧ yX3_take.cls ≠ "java/lang/invoke/VarHandle" ∧ (parseMethodDescriptor yX3_take.desc).map (fun d => d.parameters.length) = some 1 := by decide +kernel
set_option maxHeartbeats 4000000 in
set_option maxRecDepth 100000 in
theorem c_X3_take (l : Launch) (hst : l.stackTraces = false) (D : va_G) (g : Nat → ClassId) (ev : Nat × Nat × (Nat → Nat)) (A : Nat → Nat → Nat) (X : XS) (hX : XOK ev.1 X) (v : Int32) (sz : Nat) : qXi l yX3_take (.code yX3_take cX3_take 3 (some .int) :: GW) ({ frames := 8, cells := 2, slots := 12, locals := 132 } : Room) D g ev [.ref (A 0 0), .int v] (wX g A X) sz (fun (r : Int32) (u : XS) => XOK ev.1 u ∧ ∃ rr : Nat, nI rr = r ∧ xTake (pX X) v = (0, rr, pX u)) (fun E (u : XS) => XOK ev.1 u ∧ ∃ k, ([nsN, isN] : List String)[k]? = some E ∧ xTake (pX X) v = (k + 1, 0, pX u)) (fun (u : XS) => wX g A u) 2 12 := by
  refine qx_entry (cc := cX3_take) (nL := 3) (ret := (some .int)) rfl (by decide) (Nat.le_of_ble_eq_true rfl) (fun pp ee ss mm bb mt kc ls C hRt hLk hin hsz hW hE hnt hl => ?_)
  have hl : lv_has ls 3 [(0, .ref (A 0 0)), (1, .int v)] := hl
  have hW : qW D g (va_A (wX g A X) sz) ss.heap ss ([((A 0 0), .inr (6, [.ref (A 0 1), .ref (A 0 2), .ref (A 0 3), .ref (A 0 4), .ref (A 0 5)]))] ++ ((wL g (A 0 1) (A 1) (xL X)) ++ ((wC g (A 0 2) (A 2) (xC X)) ++ ((wC g (A 0 3) (A 3) (xR X)) ++ ((wAL g (A 0 4) (xl X)) ++ ((wAL g (A 0 5) (xa X)) ++ (wP  (xE X)))))))) ss.heap [] := hW
  have hN := hX.1.1
  have hN9 : lNm (sL (pX X)) ≤ 12 := hN
  refine lv_aload_n C.1 C.2.1 dX3_take_0 rfl (lv_at hl 0 rfl) ?_
  refine lv_iload_n C.1 C.2.1 dX3_take_1 rfl (lv_at hl 1 rfl) ?_
  refine qx_callVv (rest := []) C hE hLk hnt (c_X3_checkPlacedName l hst D g ev A X hX v _) (gw_V ml_X3_91 im_X3_checkPlacedName se_X3_X3_checkPlacedName ini_X3 cd_X3_checkPlacedName rfl) rfl rfl rfl hd_X3_checkPlacedName ⟨(Nat.le_of_ble_eq_true rfl), (Nat.le_of_ble_eq_true rfl)⟩ hW pm_all (fun _ => ([((A 0 0), .inr (6, [.ref (A 0 1), .ref (A 0 2), .ref (A 0 3), .ref (A 0 4), .ref (A 0 5)]))] ++ ((wL g (A 0 1) (A 1) (xL X)) ++ ((wC g (A 0 2) (A 2) (xC X)) ++ ((wC g (A 0 3) (A 3) (xR X)) ++ ((wAL g (A 0 4) (xl X)) ++ ((wAL g (A 0 5) (xa X)) ++ (wP  (xE X))))))))) (fun _ => pm_all) rfl rfl hl.1 rfl (Nat.le_of_ble_eq_true rfl) ⟨(Nat.le_of_ble_eq_true rfl), (Nat.le_of_ble_eq_true rfl)⟩ ⟨(Nat.le_of_ble_eq_true rfl), (Nat.le_of_ble_eq_true rfl)⟩ dX3_take_2 (fun E _ h => ⟨X, ⟨hX, by rcases h with ⟨rfl, h0⟩ | ⟨rfl, n9, h0, h1⟩; exact ⟨0, rfl, by unfold xTake; rw [show inR (lNm (sL (pX X))) v = none from h0]⟩; exact ⟨1, rfl, by unfold xTake; rw [show inR (lNm (sL (pX X))) v = some n9 from h0]; dsimp only; rw [show lSt (sL (pX X)) n9 = none from h1]⟩⟩, rfl⟩) (fun u_1 H locs e_1 hW => ?_)
  obtain ⟨n, hn, rfl, s0, hs0⟩ := e_1
  refine lv_aload_n C.1 C.2.1 dX3_take_5 rfl (lv_at hl 0 rfl) ?_
  refine q_get (v := .ref (A 0 1)) C hW 0 rfl rfl 0 (by decide) gu_X3 (C.2.2.2.2 _ fl_X3_10) rfl rfl dX3_take_6 ?_
  refine lv_iload_n C.1 C.2.1 dX3_take_9 rfl (lv_at hl 1 rfl) ?_
  refine q_callVi (rest := []) C (c_X2_startOf l D g (A 0 1) (A 1) (xL X) n hX.1 (by omega) _) (gw_V ml_X3_94 im_X2_startOf se_X2_X2_startOf ini_X2 cd_X2_startOf rfl) rfl rfl rfl hd_X2_startOf ⟨Nat.le_of_ble_eq_true rfl, Nat.le_of_ble_eq_true rfl⟩ hW pm_1 (fun u_2 => ([((A 0 0), .inr (6, [.ref (A 0 1), .ref (A 0 2), .ref (A 0 3), .ref (A 0 4), .ref (A 0 5)]))] ++ ((wL g (A 0 1) (A 1) u_2) ++ ((wC g (A 0 2) (A 2) (xC X)) ++ ((wC g (A 0 3) (A 3) (xR X)) ++ ((wAL g (A 0 4) (xl X)) ++ ((wAL g (A 0 5) (xa X)) ++ (wP  (xE X))))))))) (fun _ => pm_1) rfl rfl hl.1 rfl (Nat.le_of_ble_eq_true rfl) ⟨Nat.le_of_ble_eq_true rfl, Nat.le_of_ble_eq_true rfl⟩ dX3_take_10 (fun r_2 u_2 H locs e_2 hW => ?_)
  obtain ⟨rfl, rfl⟩ := e_2
  refine q_to (y := nI s0) (by rw [hs0]; rfl) ?_
  refine lv_istore_n (lv' := [(2, .int (nI s0)), (0, .ref (A 0 0)), (1, .int (nI n))]) C.1 C.2.1 dX3_take_13 rfl hl (by decide) rfl (fun ls hl => ?_)
  refine lv_aload_n C.1 C.2.1 dX3_take_14 rfl (lv_at hl 1 rfl) ?_
  refine q_get (v := .ref (A 0 1)) C hW 0 rfl rfl 0 (by decide) gu_X3 (C.2.2.2.2 _ fl_X3_10) rfl rfl dX3_take_15 ?_
  refine lv_iload_n C.1 C.2.1 dX3_take_18 rfl (lv_at hl 2 rfl) ?_
  refine lv_iconst (v := (-1)) C.1 C.2.1 dX3_take_19 (by decide) ?_
  refine q_callVv (rest := []) C (c_X2_setStart l D g (A 0 1) (A 1) (xL X) n none hX.1 (by omega) _) (gw_V ml_X3_77 im_X2_setStart se_X2_X2_setStart ini_X2 cd_X2_setStart rfl) rfl rfl rfl hd_X2_setStart ⟨Nat.le_of_ble_eq_true rfl, Nat.le_of_ble_eq_true rfl⟩ hW pm_1 (fun u_3 => ([((A 0 0), .inr (6, [.ref (A 0 1), .ref (A 0 2), .ref (A 0 3), .ref (A 0 4), .ref (A 0 5)]))] ++ ((wL g (A 0 1) (A 1) u_3) ++ ((wC g (A 0 2) (A 2) (xC X)) ++ ((wC g (A 0 3) (A 3) (xR X)) ++ ((wAL g (A 0 4) (xl X)) ++ ((wAL g (A 0 5) (xa X)) ++ (wP  (xE X))))))))) (fun _ => pm_1) rfl rfl hl.1 rfl (Nat.le_of_ble_eq_true rfl) ⟨Nat.le_of_ble_eq_true rfl, Nat.le_of_ble_eq_true rfl⟩ dX3_take_20 (fun u_3 H locs e_3 hW => ?_)
  skip
  refine lv_iload_n C.1 C.2.1 dX3_take_23 rfl (lv_at hl 0 rfl) ?_
  subst e_3
  exact vx_ret (q_iret C hRt hLk hW rfl (pSetSt (xL X) n none, xC X, xR X, xl X, xa X, xE X) ⟨hX.set (LOK.set hX.1 (fun a ha => by cases ha)) _ _, _, rfl, by unfold xTake; rw [show inR (lNm (sL (pX X))) (nI n) = some n from inR_nI hn (by omega)]; dsimp only; rw [show lSt (sL (pX X)) n = some s0 from hs0]; rfl⟩ rfl (Nat.le_of_ble_eq_true rfl) (Nat.le_of_ble_eq_true rfl) dX3_take_24)

theorem hd_X3_addressOf : yX3_addressOf.cls = RX3 ∧ yX3_addressOf.cls ≠ "java/lang/invoke/MethodHandle" ∧ yX3_addressOf.cls ≠ "java/lang/invoke/VarHandle" ∧ (parseMethodDescriptor yX3_addressOf.desc).map (fun d => d.parameters.length) = some 2 := by decide +kernel
set_option maxHeartbeats 4000000 in
set_option maxRecDepth 100000 in
theorem c_X3_addressOf (l : Launch) (hst : l.stackTraces = false) (D : va_G) (g : Nat → ClassId) (ev : Nat × Nat × (Nat → Nat)) (A : Nat → Nat → Nat) (X : XS) (hX : XOK ev.1 X) (v1 : Int32) (v2 : Int32) (sz : Nat) : qXi l yX3_addressOf (.code yX3_addressOf cX3_addressOf 3 (some .int) :: GW) ({ frames := 9, cells := 3, slots := 18, locals := 154 } : Room) D g ev [.ref (A 0 0), .int v1, .int v2] (wX g A X) sz (fun (r : Int32) (_ : Unit) => ∃ rr : Nat, nI rr = r ∧ xAddr (pX X) v1 v2 = (0, rr)) (fun E (_ : Unit) => ∃ k, ([nsN, isN, iaN] : List String)[k]? = some E ∧ xAddr (pX X) v1 v2 = (k + 1, 0)) (fun (_ : Unit) => (wX g A X)) 3 18 := by
  refine qx_entry (cc := cX3_addressOf) (nL := 3) (ret := (some .int)) rfl (by decide) (Nat.le_of_ble_eq_true rfl) (fun pp ee ss mm bb mt kc ls C hRt hLk hin hsz hW hE hnt hl => ?_)
  have hl : lv_has ls 3 [(0, .ref (A 0 0)), (1, .int v1), (2, .int v2)] := hl
  have hW : qW D g (va_A (wX g A X) sz) ss.heap ss ([((A 0 0), .inr (6, [.ref (A 0 1), .ref (A 0 2), .ref (A 0 3), .ref (A 0 4), .ref (A 0 5)]))] ++ ((wL g (A 0 1) (A 1) (xL X)) ++ ((wC g (A 0 2) (A 2) (xC X)) ++ ((wC g (A 0 3) (A 3) (xR X)) ++ ((wAL g (A 0 4) (xl X)) ++ ((wAL g (A 0 5) (xa X)) ++ (wP  (xE X)))))))) ss.heap [] := hW
  have hN := hX.1.1
  have hN9 : lNm (sL (pX X)) ≤ 12 := hN
  refine lv_aload_n C.1 C.2.1 dX3_addressOf_0 rfl (lv_at hl 0 rfl) ?_
  refine lv_iload_n C.1 C.2.1 dX3_addressOf_1 rfl (lv_at hl 1 rfl) ?_
  refine lv_iload_n C.1 C.2.1 dX3_addressOf_2 rfl (lv_at hl 2 rfl) ?_
  refine qx_callVv (rest := []) C hE hLk hnt (c_X3_checkWord l hst D g ev A X hX v1 v2 _) (gw_V ml_X3_97 im_X3_checkWord se_X3_X3_checkWord ini_X3 cd_X3_checkWord rfl) rfl rfl rfl hd_X3_checkWord ⟨(Nat.le_of_ble_eq_true rfl), (Nat.le_of_ble_eq_true rfl)⟩ hW pm_all (fun _ => ([((A 0 0), .inr (6, [.ref (A 0 1), .ref (A 0 2), .ref (A 0 3), .ref (A 0 4), .ref (A 0 5)]))] ++ ((wL g (A 0 1) (A 1) (xL X)) ++ ((wC g (A 0 2) (A 2) (xC X)) ++ ((wC g (A 0 3) (A 3) (xR X)) ++ ((wAL g (A 0 4) (xl X)) ++ ((wAL g (A 0 5) (xa X)) ++ (wP  (xE X))))))))) (fun _ => pm_all) rfl rfl hl.1 rfl (Nat.le_of_ble_eq_true rfl) ⟨(Nat.le_of_ble_eq_true rfl), (Nat.le_of_ble_eq_true rfl)⟩ ⟨(Nat.le_of_ble_eq_true rfl), (Nat.le_of_ble_eq_true rfl)⟩ dX3_addressOf_3 (fun E _ h => ⟨(), by rcases h with ⟨rfl, h0⟩ | ⟨rfl, n9, h0, h1⟩ | ⟨rfl, n9, s9, h0, h1, h2⟩; exact ⟨0, rfl, by unfold xAddr; rw [show inR (lNm (sL (pX X))) v1 = none from h0]⟩; exact ⟨1, rfl, by unfold xAddr; rw [show inR (lNm (sL (pX X))) v1 = some n9 from h0]; dsimp only; rw [show lSt (sL (pX X)) n9 = none from h1]⟩; exact ⟨2, rfl, by unfold xAddr; rw [show inR (lNm (sL (pX X))) v1 = some n9 from h0]; dsimp only; rw [show lSt (sL (pX X)) n9 = some s9 from h1]; dsimp only; rw [show inR (lSz (sL (pX X)) n9) v2 = none from h2]⟩, rfl⟩) (fun u_1 H locs e_1 hW => ?_)
  obtain ⟨n, s0, d, hn, rfl, hs0, hd, rfl⟩ := e_1
  refine lv_aload_n C.1 C.2.1 dX3_addressOf_6 rfl (lv_at hl 0 rfl) ?_
  refine q_get (v := .ref (A 0 1)) C hW 0 rfl rfl 0 (by decide) gu_X3 (C.2.2.2.2 _ fl_X3_10) rfl rfl dX3_addressOf_7 ?_
  refine lv_iload_n C.1 C.2.1 dX3_addressOf_10 rfl (lv_at hl 1 rfl) ?_
  refine q_callVi (rest := []) C (c_X2_startOf l D g (A 0 1) (A 1) (xL X) n hX.1 (by omega) _) (gw_V ml_X3_94 im_X2_startOf se_X2_X2_startOf ini_X2 cd_X2_startOf rfl) rfl rfl rfl hd_X2_startOf ⟨Nat.le_of_ble_eq_true rfl, Nat.le_of_ble_eq_true rfl⟩ hW pm_1 (fun u_2 => ([((A 0 0), .inr (6, [.ref (A 0 1), .ref (A 0 2), .ref (A 0 3), .ref (A 0 4), .ref (A 0 5)]))] ++ ((wL g (A 0 1) (A 1) u_2) ++ ((wC g (A 0 2) (A 2) (xC X)) ++ ((wC g (A 0 3) (A 3) (xR X)) ++ ((wAL g (A 0 4) (xl X)) ++ ((wAL g (A 0 5) (xa X)) ++ (wP  (xE X))))))))) (fun _ => pm_1) rfl rfl hl.1 rfl (Nat.le_of_ble_eq_true rfl) ⟨Nat.le_of_ble_eq_true rfl, Nat.le_of_ble_eq_true rfl⟩ dX3_addressOf_11 (fun r_2 u_2 H locs e_2 hW => ?_)
  obtain ⟨rfl, rfl⟩ := e_2
  refine q_to (y := nI s0) (by rw [hs0]; rfl) ?_
  refine lv_iload_n C.1 C.2.1 dX3_addressOf_14 rfl (lv_at hl 2 rfl) ?_
  refine q_iadd C dX3_addressOf_15 ?_
  exact vx_ret (q_iret C hRt hLk hW rfl () ⟨_, rfl, by unfold xAddr; rw [show inR (lNm (sL (pX X))) (nI n) = some n from inR_nI hn (by omega)]; dsimp only; rw [show lSt (sL (pX X)) n = some s0 from hs0]; dsimp only; rw [show inR (lSz (sL (pX X)) n) (nI d) = some d from inR_nI hd (by have h9 : lSz (sL (pX X)) n ≤ 32 := hX.1.sz (i := n) (by omega); omega)]⟩ rfl (Nat.le_of_ble_eq_true rfl) (Nat.le_of_ble_eq_true rfl) dX3_addressOf_16)

theorem hd_X3_nameAt : yX3_nameAt.cls = RX3 ∧ yX3_nameAt.cls ≠ "java/lang/invoke/MethodHandle" ∧ yX3_nameAt.cls ≠ "java/lang/invoke/VarHandle" ∧ (parseMethodDescriptor yX3_nameAt.desc).map (fun d => d.parameters.length) = some 1 := by decide +kernel
set_option maxHeartbeats 4000000 in
set_option maxRecDepth 100000 in
theorem c_X3_nameAt (l : Launch) (hst : l.stackTraces = false) (D : va_G) (g : Nat → ClassId) (ev : Nat × Nat × (Nat → Nat)) (A : Nat → Nat → Nat) (X : XS) (hX : XOK ev.1 X) (v : Int32) (sz : Nat) : qXi l yX3_nameAt (.code yX3_nameAt cX3_nameAt 3 (some .int) :: GW) ({ frames := 6, cells := 1, slots := 6, locals := 90 } : Room) D g ev [.ref (A 0 0), .int v] (wX g A X) sz (fun (r : Int32) (_ : Unit) => ∃ rr : Nat, nI rr = r ∧ xNameAt (pX X) v = (0, rr)) (fun E (_ : Unit) => ∃ k, ([iaN, nsN] : List String)[k]? = some E ∧ xNameAt (pX X) v = (k + 1, 0)) (fun (_ : Unit) => (wX g A X)) 1 6 := by
  refine qx_entry (cc := cX3_nameAt) (nL := 3) (ret := (some .int)) rfl (by decide) (Nat.le_of_ble_eq_true rfl) (fun pp ee ss mm bb mt kc ls C hRt hLk hin hsz hW hE hnt hl => ?_)
  have hl : lv_has ls 3 [(0, .ref (A 0 0)), (1, .int v)] := hl
  have hW : qW D g (va_A (wX g A X) sz) ss.heap ss ([((A 0 0), .inr (6, [.ref (A 0 1), .ref (A 0 2), .ref (A 0 3), .ref (A 0 4), .ref (A 0 5)]))] ++ ((wL g (A 0 1) (A 1) (xL X)) ++ ((wC g (A 0 2) (A 2) (xC X)) ++ ((wC g (A 0 3) (A 3) (xR X)) ++ ((wAL g (A 0 4) (xl X)) ++ ((wAL g (A 0 5) (xa X)) ++ (wP  (xE X)))))))) ss.heap [] := hW
  have hN := hX.1.1
  have hN9 : lNm (sL (pX X)) ≤ 12 := hN
  refine lv_iload_n C.1 C.2.1 dX3_nameAt_0 rfl (lv_at hl 1 rfl) ?_
  refine lv_if_lt (tgt := 11) C.1 C.2.1 dX3_nameAt_1 (by decide) (fun c_1 => ?_) (fun c_1 => ?_)
  · exact q_thrIAE C hst hE hW hLk hnt hl.1 (text := "the memory has the addresses 0 to 511") (List.mem_of_getElem? (i := 3) rfl) dX3_nameAt_11 dX3_nameAt_14 dX3_nameAt_15 dX3_nameAt_17 dX3_nameAt_20 ⟨(Nat.le_of_ble_eq_true rfl), (Nat.le_of_ble_eq_true rfl), (Nat.le_of_ble_eq_true rfl), (Nat.le_of_ble_eq_true rfl)⟩ (Nat.le_of_ble_eq_true rfl) (Nat.le_of_ble_eq_true rfl) () ⟨0, rfl, by unfold xNameAt; rw [inR_lo c_1]⟩ rfl
  refine lv_iload_n C.1 C.2.1 dX3_nameAt_4 rfl (lv_at hl 1 rfl) ?_
  refine lv_sipush (v := nI 512) C.1 C.2.1 dX3_nameAt_5 (by decide) ?_
  refine lv_icmp_lt (tgt := 21) C.1 C.2.1 dX3_nameAt_8 (by decide) (fun c_8 => ?_) (fun c_8 => ?_)
  · obtain ⟨x, hx, rfl⟩ := inR_ok (by decide) c_1 c_8
    refine lv_aload_n C.1 C.2.1 dX3_nameAt_21 rfl (lv_at hl 0 rfl) ?_
    refine q_get (v := .ref (A 0 1)) C hW 0 rfl rfl 0 (by decide) gu_X3 (C.2.2.2.2 _ fl_X3_10) rfl rfl dX3_nameAt_22 ?_
    refine lv_iload_n C.1 C.2.1 dX3_nameAt_25 rfl (lv_at hl 1 rfl) ?_
    refine q_callVi (rest := []) C (c_X2_findAt l D g (A 0 1) (A 1) (xL X) x hX.1 (by omega) _) (gw_V ml_X3_100 im_X2_findAt se_X2_X2_findAt ini_X2 cd_X2_findAt rfl) rfl rfl rfl hd_X2_findAt ⟨Nat.le_of_ble_eq_true rfl, Nat.le_of_ble_eq_true rfl⟩ hW pm_1 (fun u_1 => ([((A 0 0), .inr (6, [.ref (A 0 1), .ref (A 0 2), .ref (A 0 3), .ref (A 0 4), .ref (A 0 5)]))] ++ ((wL g (A 0 1) (A 1) u_1) ++ ((wC g (A 0 2) (A 2) (xC X)) ++ ((wC g (A 0 3) (A 3) (xR X)) ++ ((wAL g (A 0 4) (xl X)) ++ ((wAL g (A 0 5) (xa X)) ++ (wP  (xE X))))))))) (fun _ => pm_1) rfl rfl hl.1 rfl (Nat.le_of_ble_eq_true rfl) ⟨Nat.le_of_ble_eq_true rfl, Nat.le_of_ble_eq_true rfl⟩ dX3_nameAt_26 (fun r_1 u_1 H locs e_1 hW => ?_)
    obtain ⟨rfl, rfl⟩ := e_1
    refine lv_istore_n (lv' := [(2, .int (oI (pFind (xL X) x))), (0, .ref (A 0 0)), (1, .int (nI x))]) C.1 C.2.1 dX3_nameAt_29 rfl hl (by decide) rfl (fun ls hl => ?_)
    refine lv_iload_n C.1 C.2.1 dX3_nameAt_30 rfl (lv_at hl 0 rfl) ?_
    refine lv_iconst (v := (-1)) C.1 C.2.1 dX3_nameAt_31 (by decide) ?_
    refine q_one (o := pFind (xL X) x) (tgt := 45) C (fun i9 e9 => by have := (srch_spec e9).1; omega) dX3_nameAt_32 (by decide) (fun j_32 o_32 => ?_) (fun o_32 => ?_)
    · rw [o_32] at hl
      have hl : lv_has ls 3 [(2, .int (nI j_32)), (0, .ref (A 0 0)), (1, .int (nI x))] := hl
      refine lv_iload_n C.1 C.2.1 dX3_nameAt_45 rfl (lv_at hl 0 rfl) ?_
      exact vx_ret (q_iret C hRt hLk hW rfl () ⟨_, rfl, by unfold xNameAt; rw [inR_nI hx (by decide)]; dsimp only; rw [show pFind (sL (pX X)) x = some _ from o_32]⟩ rfl (Nat.le_of_ble_eq_true rfl) (Nat.le_of_ble_eq_true rfl) dX3_nameAt_46)
    rw [o_32] at hl
    have hl : lv_has ls 3 [(2, .int (-1)), (0, .ref (A 0 0)), (1, .int (nI x))] := hl
    exact q_thrNSE C hst hE hW hLk hnt hl.1 (text := "no name has a word there") (List.mem_of_getElem? (i := 10) rfl) dX3_nameAt_35 dX3_nameAt_38 dX3_nameAt_39 dX3_nameAt_41 dX3_nameAt_44 ⟨(Nat.le_of_ble_eq_true rfl), (Nat.le_of_ble_eq_true rfl), (Nat.le_of_ble_eq_true rfl), (Nat.le_of_ble_eq_true rfl)⟩ (Nat.le_of_ble_eq_true rfl) (Nat.le_of_ble_eq_true rfl) () ⟨1, rfl, by unfold xNameAt; rw [inR_nI hx (by decide)]; dsimp only; rw [show pFind (sL (pX X)) x = none from o_32]⟩ rfl
  exact q_thrIAE C hst hE hW hLk hnt hl.1 (text := "the memory has the addresses 0 to 511") (List.mem_of_getElem? (i := 3) rfl) dX3_nameAt_11 dX3_nameAt_14 dX3_nameAt_15 dX3_nameAt_17 dX3_nameAt_20 ⟨(Nat.le_of_ble_eq_true rfl), (Nat.le_of_ble_eq_true rfl), (Nat.le_of_ble_eq_true rfl), (Nat.le_of_ble_eq_true rfl)⟩ (Nat.le_of_ble_eq_true rfl) (Nat.le_of_ble_eq_true rfl) () ⟨0, rfl, by unfold xNameAt; rw [inR_hi c_1 c_8]⟩ rfl

theorem hd_X3_meet : yX3_meet.cls = RX3 ∧ yX3_meet.cls ≠ "java/lang/invoke/MethodHandle" ∧ yX3_meet.cls ≠ "java/lang/invoke/VarHandle" ∧ (parseMethodDescriptor yX3_meet.desc).map (fun d => d.parameters.length) = some 2 := by decide +kernel
set_option maxHeartbeats 4000000 in
set_option maxRecDepth 100000 in
theorem c_X3_meet (l : Launch) (hst : l.stackTraces = false) (D : va_G) (g : Nat → ClassId) (ev : Nat × Nat × (Nat → Nat)) (A : Nat → Nat → Nat) (X : XS) (hX : XOK ev.1 X) (v1 : Int32) (v2 : Int32) (sz : Nat) : qXi l yX3_meet (.code yX3_meet cX3_meet 3 (some .boolean) :: GW) ({ frames := 7, cells := 3, slots := 18, locals := 111 } : Room) D g ev [.ref (A 0 0), .int v1, .int v2] (wX g A X) sz (fun (r : Int32) (_ : Unit) => ∃ rr : Bool, bI rr = r ∧ xMeet (pX X) v1 v2 = (0, rr)) (fun E (_ : Unit) => ∃ k, ([nsN, iaN] : List String)[k]? = some E ∧ xMeet (pX X) v1 v2 = (k + 1, false)) (fun (_ : Unit) => (wX g A X)) 3 18 := by
  refine qx_entry (cc := cX3_meet) (nL := 3) (ret := (some .boolean)) rfl (by decide) (Nat.le_of_ble_eq_true rfl) (fun pp ee ss mm bb mt kc ls C hRt hLk hin hsz hW hE hnt hl => ?_)
  have hl : lv_has ls 3 [(0, .ref (A 0 0)), (1, .int v1), (2, .int v2)] := hl
  have hW : qW D g (va_A (wX g A X) sz) ss.heap ss ([((A 0 0), .inr (6, [.ref (A 0 1), .ref (A 0 2), .ref (A 0 3), .ref (A 0 4), .ref (A 0 5)]))] ++ ((wL g (A 0 1) (A 1) (xL X)) ++ ((wC g (A 0 2) (A 2) (xC X)) ++ ((wC g (A 0 3) (A 3) (xR X)) ++ ((wAL g (A 0 4) (xl X)) ++ ((wAL g (A 0 5) (xa X)) ++ (wP  (xE X)))))))) ss.heap [] := hW
  have hN := hX.1.1
  have hN9 : lNm (sL (pX X)) ≤ 12 := hN
  refine lv_aload_n C.1 C.2.1 dX3_meet_0 rfl (lv_at hl 0 rfl) ?_
  refine lv_iload_n C.1 C.2.1 dX3_meet_1 rfl (lv_at hl 1 rfl) ?_
  refine qx_callVv (rest := []) C hE hLk hnt (c_X3_checkName l hst D g ev A X hX v1 _) (gw_V ml_X3_56 im_X3_checkName se_X3_X3_checkName ini_X3 cd_X3_checkName rfl) rfl rfl rfl hd_X3_checkName ⟨(Nat.le_of_ble_eq_true rfl), (Nat.le_of_ble_eq_true rfl)⟩ hW pm_all (fun _ => ([((A 0 0), .inr (6, [.ref (A 0 1), .ref (A 0 2), .ref (A 0 3), .ref (A 0 4), .ref (A 0 5)]))] ++ ((wL g (A 0 1) (A 1) (xL X)) ++ ((wC g (A 0 2) (A 2) (xC X)) ++ ((wC g (A 0 3) (A 3) (xR X)) ++ ((wAL g (A 0 4) (xl X)) ++ ((wAL g (A 0 5) (xa X)) ++ (wP  (xE X))))))))) (fun _ => pm_all) rfl rfl hl.1 rfl (Nat.le_of_ble_eq_true rfl) ⟨(Nat.le_of_ble_eq_true rfl), (Nat.le_of_ble_eq_true rfl)⟩ ⟨(Nat.le_of_ble_eq_true rfl), (Nat.le_of_ble_eq_true rfl)⟩ dX3_meet_2 (fun E _ h => ⟨(), by obtain ⟨rfl, h0⟩ := h; exact ⟨0, rfl, by unfold xMeet; rw [show inR (lNm (sL (pX X))) v1 = none from h0]⟩, rfl⟩) (fun u_1 H locs e_1 hW => ?_)
  obtain ⟨n, hn, rfl⟩ := e_1
  refine lv_aload_n C.1 C.2.1 dX3_meet_5 rfl (lv_at hl 0 rfl) ?_
  refine lv_iload_n C.1 C.2.1 dX3_meet_6 rfl (lv_at hl 2 rfl) ?_
  refine qx_callVv (rest := []) C hE hLk hnt (c_X3_checkName l hst D g ev A X hX v2 _) (gw_V ml_X3_56 im_X3_checkName se_X3_X3_checkName ini_X3 cd_X3_checkName rfl) rfl rfl rfl hd_X3_checkName ⟨(Nat.le_of_ble_eq_true rfl), (Nat.le_of_ble_eq_true rfl)⟩ hW pm_all (fun _ => ([((A 0 0), .inr (6, [.ref (A 0 1), .ref (A 0 2), .ref (A 0 3), .ref (A 0 4), .ref (A 0 5)]))] ++ ((wL g (A 0 1) (A 1) (xL X)) ++ ((wC g (A 0 2) (A 2) (xC X)) ++ ((wC g (A 0 3) (A 3) (xR X)) ++ ((wAL g (A 0 4) (xl X)) ++ ((wAL g (A 0 5) (xa X)) ++ (wP  (xE X))))))))) (fun _ => pm_all) rfl rfl hl.1 rfl (Nat.le_of_ble_eq_true rfl) ⟨(Nat.le_of_ble_eq_true rfl), (Nat.le_of_ble_eq_true rfl)⟩ ⟨(Nat.le_of_ble_eq_true rfl), (Nat.le_of_ble_eq_true rfl)⟩ dX3_meet_7 (fun E _ h => ⟨(), by obtain ⟨rfl, h0⟩ := h; exact ⟨0, rfl, by unfold xMeet; rw [show inR (lNm (sL (pX X))) (nI n) = some n from inR_nI hn (by omega)]; dsimp only; rw [show inR (lNm (sL (pX X))) v2 = none from h0]⟩, rfl⟩) (fun u_2 H locs e_2 hW => ?_)
  obtain ⟨n2, hn2, rfl⟩ := e_2
  refine lv_iload_n C.1 C.2.1 dX3_meet_10 rfl (lv_at hl 1 rfl) ?_
  refine lv_iload_n C.1 C.2.1 dX3_meet_11 rfl (lv_at hl 2 rfl) ?_
  refine q_ne (tgt := 25) C (by omega) (by omega) dX3_meet_12 (by decide) (fun c_12 => ?_) (fun c_12 => ?_)
  · refine lv_aload_n C.1 C.2.1 dX3_meet_25 rfl (lv_at hl 0 rfl) ?_
    refine q_get (v := .ref (A 0 1)) C hW 0 rfl rfl 0 (by decide) gu_X3 (C.2.2.2.2 _ fl_X3_10) rfl rfl dX3_meet_26 ?_
    refine lv_iload_n C.1 C.2.1 dX3_meet_29 rfl (lv_at hl 1 rfl) ?_
    refine lv_iload_n C.1 C.2.1 dX3_meet_30 rfl (lv_at hl 2 rfl) ?_
    refine q_callVi (rest := []) C (c_X2_isOnOneLine l D g (A 0 1) (A 1) (xL X) n n2 hX.1 (by omega) (by omega) _) (gw_V ml_X3_110 im_X2_isOnOneLine se_X2_X2_isOnOneLine ini_X2 cd_X2_isOnOneLine rfl) rfl rfl rfl hd_X2_isOnOneLine ⟨Nat.le_of_ble_eq_true rfl, Nat.le_of_ble_eq_true rfl⟩ hW pm_1 (fun u_3 => ([((A 0 0), .inr (6, [.ref (A 0 1), .ref (A 0 2), .ref (A 0 3), .ref (A 0 4), .ref (A 0 5)]))] ++ ((wL g (A 0 1) (A 1) u_3) ++ ((wC g (A 0 2) (A 2) (xC X)) ++ ((wC g (A 0 3) (A 3) (xR X)) ++ ((wAL g (A 0 4) (xl X)) ++ ((wAL g (A 0 5) (xa X)) ++ (wP  (xE X))))))))) (fun _ => pm_1) rfl rfl hl.1 rfl (Nat.le_of_ble_eq_true rfl) ⟨Nat.le_of_ble_eq_true rfl, Nat.le_of_ble_eq_true rfl⟩ dX3_meet_31 (fun r_3 u_3 H locs e_3 hW => ?_)
    obtain ⟨rfl, rfl⟩ := e_3
    exact vx_ret (q_iret C hRt hLk hW (narB _) () ⟨_, rfl, by unfold xMeet; rw [show inR (lNm (sL (pX X))) (nI n) = some n from inR_nI hn (by omega)]; dsimp only; rw [show inR (lNm (sL (pX X))) (nI n2) = some n2 from inR_nI hn2 (by omega)]; exact if_neg c_12⟩ rfl (Nat.le_of_ble_eq_true rfl) (Nat.le_of_ble_eq_true rfl) dX3_meet_34)
  exact q_thrIAE C hst hE hW hLk hnt hl.1 (text := "both names are the same") (List.mem_of_getElem? (i := 11) rfl) dX3_meet_15 dX3_meet_18 dX3_meet_19 dX3_meet_21 dX3_meet_24 ⟨(Nat.le_of_ble_eq_true rfl), (Nat.le_of_ble_eq_true rfl), (Nat.le_of_ble_eq_true rfl), (Nat.le_of_ble_eq_true rfl)⟩ (Nat.le_of_ble_eq_true rfl) (Nat.le_of_ble_eq_true rfl) () ⟨1, rfl, by unfold xMeet; rw [show inR (lNm (sL (pX X))) (nI n) = some n from inR_nI hn (by omega)]; dsimp only; rw [show inR (lNm (sL (pX X))) (nI n2) = some n2 from inR_nI hn2 (by omega)]; exact if_pos c_12⟩ rfl
