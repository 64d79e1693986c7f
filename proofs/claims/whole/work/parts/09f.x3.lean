/-! The class: sums over the accesses. -/
theorem hd_X3_count : yX3_count.cls = RX3 ∧ yX3_count.cls ≠ "java/lang/invoke/MethodHandle" ∧ yX3_count.cls ≠ "java/lang/invoke/VarHandle" ∧ (parseMethodDescriptor yX3_count.desc).map (fun d => d.parameters.length) = some 2 := by decide +kernel
set_option maxHeartbeats 4000000 in
set_option maxRecDepth 100000 in
theorem c_X3_count (l : Launch) (hst : l.stackTraces = false) (D : va_G) (g : Nat → ClassId) (ev : Nat × Nat × (Nat → Nat)) (A : Nat → Nat → Nat) (X : XS) (hX : XOK ev.1 X) (v : Int32) (z : UInt16) (sz : Nat) : qXi l yX3_count (.code yX3_count cX3_count 6 (some .int) :: GW) ({ frames := 7, cells := 2, slots := 12, locals := 111 } : Room) D g ev [.ref (A 0 0), .int v, .int (cI z)] (wX g A X) sz (fun (r : Int32) (_ : Unit) => ∃ rr : Nat, nI rr = r ∧ xCount (pX X) v z = (0, rr)) (fun E (_ : Unit) => ∃ k, ([nsN, iaN] : List String)[k]? = some E ∧ xCount (pX X) v z = (k + 1, 0)) (fun (_ : Unit) => (wX g A X)) 2 12 := by
  refine qx_entry (cc := cX3_count) (nL := 6) (ret := (some .int)) rfl (by decide) (Nat.le_of_ble_eq_true rfl) (fun pp ee ss mm bb mt kc ls C hRt hLk hin hsz hW hE hnt hl => ?_)
  have hl : lv_has ls 6 [(0, .ref (A 0 0)), (1, .int v), (2, .int (cI z))] := hl
  have hW : qW D g (va_A (wX g A X) sz) ss.heap ss ([((A 0 0), .inr (6, [.ref (A 0 1), .ref (A 0 2), .ref (A 0 3), .ref (A 0 4), .ref (A 0 5)]))] ++ ((wL g (A 0 1) (A 1) (xL X)) ++ ((wC g (A 0 2) (A 2) (xC X)) ++ ((wC g (A 0 3) (A 3) (xR X)) ++ ((wAL g (A 0 4) (xl X)) ++ ((wAL g (A 0 5) (xa X)) ++ (wP  (xE X)))))))) ss.heap [] := hW
  have hN := hX.1.1
  have hN9 : lNm (sL (pX X)) ≤ 12 := hN
  have hlen := hX.len
  refine lv_aload_n C.1 C.2.1 dX3_count_0 rfl (lv_at hl 0 rfl) ?_
  refine lv_iload_n C.1 C.2.1 dX3_count_1 rfl (lv_at hl 1 rfl) ?_
  refine qx_callVv (rest := []) C hE hLk hnt (c_X3_checkName l hst D g ev A X hX v _) (gw_V ml_X3_56 im_X3_checkName se_X3_X3_checkName ini_X3 cd_X3_checkName rfl) rfl rfl rfl hd_X3_checkName ⟨(Nat.le_of_ble_eq_true rfl), (Nat.le_of_ble_eq_true rfl)⟩ hW pm_all (fun _ => ([((A 0 0), .inr (6, [.ref (A 0 1), .ref (A 0 2), .ref (A 0 3), .ref (A 0 4), .ref (A 0 5)]))] ++ ((wL g (A 0 1) (A 1) (xL X)) ++ ((wC g (A 0 2) (A 2) (xC X)) ++ ((wC g (A 0 3) (A 3) (xR X)) ++ ((wAL g (A 0 4) (xl X)) ++ ((wAL g (A 0 5) (xa X)) ++ (wP  (xE X))))))))) (fun _ => pm_all) rfl rfl hl.1 rfl (Nat.le_of_ble_eq_true rfl) ⟨(Nat.le_of_ble_eq_true rfl), (Nat.le_of_ble_eq_true rfl)⟩ ⟨(Nat.le_of_ble_eq_true rfl), (Nat.le_of_ble_eq_true rfl)⟩ dX3_count_2 (fun E _ h => ⟨(), by obtain ⟨rfl, h0⟩ := h; exact ⟨0, rfl, by unfold xCount; rw [show inR (lNm (sL (pX X))) v = none from h0]⟩, rfl⟩) (fun u_1 H locs e_1 hW => ?_)
  obtain ⟨n, hn, rfl⟩ := e_1
  refine lv_iload_n C.1 C.2.1 dX3_count_5 rfl (lv_at hl 2 rfl) ?_
  refine qe_callSi (rest := []) C hE (c_X3_isCause l hst D g ev z _) (gw_S ml_X3_189 sm_X3_isCause ini_X3 cd_X3_isCause rfl) rfl rfl rfl hd_X3_isCause ⟨(Nat.le_of_ble_eq_true rfl), (Nat.le_of_ble_eq_true rfl)⟩ hW (wc := []) (List.Perm.refl _) (fun _ => ([((A 0 0), .inr (6, [.ref (A 0 1), .ref (A 0 2), .ref (A 0 3), .ref (A 0 4), .ref (A 0 5)]))] ++ ((wL g (A 0 1) (A 1) (xL X)) ++ ((wC g (A 0 2) (A 2) (xC X)) ++ ((wC g (A 0 3) (A 3) (xR X)) ++ ((wAL g (A 0 4) (xl X)) ++ ((wAL g (A 0 5) (xa X)) ++ (wP  (xE X))))))))) (fun _ => List.Perm.refl _) hl.1 rfl (Nat.le_of_ble_eq_true rfl) ⟨(Nat.le_of_ble_eq_true rfl), (Nat.le_of_ble_eq_true rfl)⟩ dX3_count_6 (fun r_2 u_2 H locs e_2 hW => ?_)
  subst e_2
  refine q_bf (b := isCz z) (tgt := 22) C dX3_count_9 (by decide) (fun c_9 => ?_) (fun c_9 => ?_)
  · refine lv_iconst (v := nI 0) C.1 C.2.1 dX3_count_22 (by decide) ?_
    refine lv_istore_n (lv' := [(3, .int (nI 0)), (0, .ref (A 0 0)), (1, .int (nI n)), (2, .int (cI z))]) C.1 C.2.1 dX3_count_23 rfl hl (by decide) rfl (fun ls hl => ?_)
    refine lv_iconst (v := nI 0) C.1 C.2.1 dX3_count_24 (by decide) ?_
    refine lv_istore (lv' := [(4, .int (nI 0)), (3, .int (nI 0)), (0, .ref (A 0 0)), (1, .int (nI n)), (2, .int (cI z))]) C.1 C.2.1 dX3_count_25 hl (by decide) rfl (fun ls hl => ?_)
    have L_27 : ∀ (nf : Nat) (i : Nat) (hi : i ≤ alC (xa X)) (x3 : Int32) (e3 : x3 = nI (xCntN (pX X) (nI n) z i)) (x4 : Int32) (e4 : x4 = nI i) (hmu : alC (xa X) - i < nf) (ls : Array Slot) (H : Heap) (locs : List Loc), lv_has ls 6 [(0, .ref (A 0 0)), (1, .int (nI n)), (2, .int (cI z)), (3, .int x3), (4, .int x4)] → qW D g (va_A (wX g A X) sz) ss.heap ss ([((A 0 0), .inr (6, [.ref (A 0 1), .ref (A 0 2), .ref (A 0 3), .ref (A 0 4), .ref (A 0 5)]))] ++ ((wL g (A 0 1) (A 1) (xL X)) ++ ((wC g (A 0 2) (A 2) (xC X)) ++ ((wC g (A 0 3) (A 3) (xR X)) ++ ((wAL g (A 0 4) (xl X)) ++ ((wAL g (A 0 5) (xa X)) ++ (wP  (xE X)))))))) H locs → W pp l ee ({ frames := 7, cells := 2, slots := 12, locals := 111 } : Room) ss mm [.ref (A 0 0), .int (nI n), .int (cI z)].toArray bb mt kc H locs 1 6 (vx_MQ bb (va_Qi (fun (r : Int32) (_ : Unit) => ∃ rr : Nat, nI rr = r ∧ xCount (pX X) (nI n) z = (0, rr)) (qB D g (wX g A X) sz (fun (_ : Unit) => (wX g A X))) (va_A (wX g A X) sz)) (qXX D g (wX g A X) sz (fun E (_ : Unit) => ∃ k, ([nsN, iaN] : List String)[k]? = some E ∧ xCount (pX X) (nI n) z = (k + 1, 0)) (fun (_ : Unit) => (wX g A X))) [.ref (A 0 0), .int (nI n), .int (cI z)].toArray ss 2 12 (va_A (wX g A X) sz)) (F0 mm 27 ls []) := by
      intro nf
      induction nf with
      | zero =>
        intro i hi x3 e3 x4 e4 hmu ls H locs hl hW
        exact absurd hmu (by omega)
      | succ nf ih =>
        intro i hi x3 e3 x4 e4 hmu ls H locs hl hW
        subst e3
        subst e4
        refine lv_iload C.1 C.2.1 dX3_count_27 (lv_at hl 4 rfl) ?_
        refine lv_aload_n C.1 C.2.1 dX3_count_29 rfl (lv_at hl 0 rfl) ?_
        refine q_get (v := .ref (A 0 5)) C hW 0 rfl rfl 4 (by decide) gu_X3 (C.2.2.2.2 _ fl_X3_33) rfl rfl dX3_count_30 ?_
        refine q_callFi (rest := [.int (nI i)]) C hE.2.2.2.2.2.2.2.1.1 (c_AL_size l D g (A 0 5) (xa X) _) (gw_F ml_X3_141 se_Jx4a65c_Jxbd725_size_0699_Jx4a65c_size_8abf5 im_Jx4a65c_size_8abf5 ini_Jx4a65c cd_Jx4a65c_size_8abf5 rfl) rfl rfl rfl hd_xLsize ⟨(Nat.le_of_ble_eq_true rfl), (Nat.le_of_ble_eq_true rfl)⟩ hW pm_5 (fun _ => ([((A 0 0), .inr (6, [.ref (A 0 1), .ref (A 0 2), .ref (A 0 3), .ref (A 0 4), .ref (A 0 5)]))] ++ ((wL g (A 0 1) (A 1) (xL X)) ++ ((wC g (A 0 2) (A 2) (xC X)) ++ ((wC g (A 0 3) (A 3) (xR X)) ++ ((wAL g (A 0 4) (xl X)) ++ ((wAL g (A 0 5) (xa X)) ++ (wP  (xE X))))))))) (fun _ => pm_5) rfl rfl hl.1 rfl (Nat.le_of_ble_eq_true rfl) ⟨(Nat.le_of_ble_eq_true rfl), (Nat.le_of_ble_eq_true rfl)⟩ dX3_count_33 (fun r_3 _ H locs e_3 hW => ?_)
        subst e_3
        refine q_ge (tgt := 84) C (by omega) (by omega) dX3_count_38 (by decide) (fun c_38 => ?_) (fun c_38 => ?_)
        · refine lv_iload_n C.1 C.2.1 dX3_count_84 rfl (lv_at hl 3 rfl) ?_
          exact vx_ret (q_iret C hRt hLk hW rfl () ⟨_, rfl, by obtain rfl : i = alC (xa X) := (by omega); unfold xCount; rw [show inR (lNm (sL (pX X))) (nI n) = some n from inR_nI hn (by omega)]; dsimp only; rw [if_pos c_9, ← hX.alen]⟩ rfl (Nat.le_of_ble_eq_true rfl) (Nat.le_of_ble_eq_true rfl) dX3_count_85)
        refine lv_aload_n C.1 C.2.1 dX3_count_41 rfl (lv_at hl 0 rfl) ?_
        refine q_get (v := .ref (A 0 5)) C hW 0 rfl rfl 4 (by decide) gu_X3 (C.2.2.2.2 _ fl_X3_33) rfl rfl dX3_count_42 ?_
        refine lv_iload C.1 C.2.1 dX3_count_45 (lv_at hl 4 rfl) ?_
        obtain ⟨p_47, p_47_1, p_47_2, p_47_3, p_47_4, p_47_5⟩ := hX.ac (i := i) (by omega)
        refine q_callFq (rest := []) C hE.2.2.2.2.2.2.2.1.2.1 (c_AL_get l D g (A 0 5) (xa X) i (by omega) hX.2.2.1.2.1 (by have := hX.2.2.1.2.2.2; omega) _) (gw_F ml_X3_148 se_Jx4a65c_Jxbd725_get_3715_Jx4a65c_get_915e3 im_Jx4a65c_get_915e3 ini_Jx4a65c cd_Jx4a65c_get_915e3 rfl) rfl rfl rfl hd_xLget ⟨(Nat.le_of_ble_eq_true rfl), (Nat.le_of_ble_eq_true rfl)⟩ hW pm_5 (fun _ => ([((A 0 0), .inr (6, [.ref (A 0 1), .ref (A 0 2), .ref (A 0 3), .ref (A 0 4), .ref (A 0 5)]))] ++ ((wL g (A 0 1) (A 1) (xL X)) ++ ((wC g (A 0 2) (A 2) (xC X)) ++ ((wC g (A 0 3) (A 3) (xR X)) ++ ((wAL g (A 0 4) (xl X)) ++ ((wAL g (A 0 5) (xa X)) ++ (wP  (xE X))))))))) (fun _ => pm_5) rfl rfl hl.1 rfl (Nat.le_of_ble_eq_true rfl) ⟨(Nat.le_of_ble_eq_true rfl), (Nat.le_of_ble_eq_true rfl)⟩ dX3_count_47 (fun r_4 _ H locs e_4 hW => ?_)
        rw [p_47_1] at e_4
        subst e_4
        refine q_castM C hW (C.2.2.2.2 _ cl_X3_113) (z := p_47.2) (wX_mem p_47_3) dX3_count_52 ?_
        refine lv_astore (lv' := [(5, .ref p_47.1), (0, .ref (A 0 0)), (1, .int (nI n)), (2, .int (cI z)), (3, .int (nI (xCntN (pX X) (nI n) z i))), (4, .int (nI i))]) C.1 C.2.1 dX3_count_55 hl (by decide) rfl (fun ls hl => ?_)
        refine lv_aload C.1 C.2.1 dX3_count_57 (lv_at hl 0 rfl) ?_
        refine q_getM (v := .int (oI (eNa p_47.2))) C hW (wX_mem p_47_3) rfl 2 (by decide) gu_X1 (C.2.2.2.2 _ fl_X3_195) rfl rfl dX3_count_59 ?_
        refine lv_iload_n C.1 C.2.1 dX3_count_62 rfl (lv_at hl 2 rfl) ?_
        refine lv_icmp_ne (tgt := 78) C.1 C.2.1 dX3_count_63 (by decide) (fun c_63 => ?_) (fun c_63 => ?_)
        · refine q_iinc (d := 1) (lv' := [(4, .int (nI (i + 1))), (5, .ref p_47.1), (0, .ref (A 0 0)), (1, .int (nI n)), (2, .int (cI z)), (3, .int (nI (xCntN (pX X) (nI n) z i)))]) C dX3_count_78 (by decide) hl (k := 5) rfl (by decide) rfl (fun ls hl => ?_)
          refine lv_goto (tgt := 27) C.1 C.2.1 dX3_count_81 (by decide) ?_
          exact ih (i + 1) (by omega) _ (by unfold xCntN; rw [cnt, if_neg (by rw [p_47_2, decide_eq_false c_63, Bool.false_and]; decide), Nat.add_zero]) _ rfl (by omega) ls _ _ (lv_sub hl [2, 3, 4, 5, 0] rfl) hW
        refine lv_aload C.1 C.2.1 dX3_count_66 (lv_at hl 0 rfl) ?_
        refine q_getM (v := .int (cI (eCa p_47.2))) C hW (wX_mem p_47_3) rfl 5 (by decide) gu_X1 (C.2.2.2.2 _ fl_X3_159) rfl rfl dX3_count_68 ?_
        refine lv_iload_n C.1 C.2.1 dX3_count_71 rfl (lv_at hl 3 rfl) ?_
        refine q_ccne (tgt := 78) C dX3_count_72 (by decide) (fun c_72 => ?_) (fun c_72 => ?_)
        · refine q_iinc (d := 1) (lv' := [(4, .int (nI (i + 1))), (5, .ref p_47.1), (0, .ref (A 0 0)), (1, .int (nI n)), (2, .int (cI z)), (3, .int (nI (xCntN (pX X) (nI n) z i)))]) C dX3_count_78 (by decide) hl (k := 5) rfl (by decide) rfl (fun ls hl => ?_)
          refine lv_goto (tgt := 27) C.1 C.2.1 dX3_count_81 (by decide) ?_
          exact ih (i + 1) (by omega) _ (by unfold xCntN; rw [cnt, if_neg (by rw [p_47_2, decide_eq_false c_72, Bool.and_false]; decide), Nat.add_zero]) _ rfl (by omega) ls _ _ (lv_sub hl [2, 3, 4, 5, 0] rfl) hW
        refine q_iinc (d := 1) (lv' := [(3, .int (nI (xCntN (pX X) (nI n) z i + 1))), (5, .ref p_47.1), (0, .ref (A 0 0)), (1, .int (nI n)), (2, .int (cI z)), (4, .int (nI i))]) C dX3_count_75 (by decide) hl (k := 4) rfl (by decide) rfl (fun ls hl => ?_)
        refine q_iinc (d := 1) (lv' := [(4, .int (nI (i + 1))), (3, .int (nI (xCntN (pX X) (nI n) z i + 1))), (5, .ref p_47.1), (0, .ref (A 0 0)), (1, .int (nI n)), (2, .int (cI z))]) C dX3_count_78 (by decide) hl (k := 5) rfl (by decide) rfl (fun ls hl => ?_)
        refine lv_goto (tgt := 27) C.1 C.2.1 dX3_count_81 (by decide) ?_
        exact ih (i + 1) (by omega) _ (by unfold xCntN; rw [cnt, if_pos (by rw [p_47_2, decide_eq_true c_63, decide_eq_true c_72]; rfl)]) _ rfl (by omega) ls _ _ (lv_sub hl [3, 4, 5, 1, 0] rfl) hW
    exact L_27 (alC (xa X) - 0 + 1) 0 (by omega) _ rfl _ rfl (by omega) ls _ _ (lv_sub hl [2, 3, 4, 1, 0] rfl) hW
  exact q_thrIAE C hst hE hW hLk hnt hl.1 (text := "the causes are h, u, c, e, t and f") (List.mem_of_getElem? (i := 19) rfl) dX3_count_12 dX3_count_15 dX3_count_16 dX3_count_18 dX3_count_21 ⟨(Nat.le_of_ble_eq_true rfl), (Nat.le_of_ble_eq_true rfl), (Nat.le_of_ble_eq_true rfl), (Nat.le_of_ble_eq_true rfl)⟩ (Nat.le_of_ble_eq_true rfl) (Nat.le_of_ble_eq_true rfl) () ⟨1, rfl, by unfold xCount; rw [show inR (lNm (sL (pX X))) (nI n) = some n from inR_nI hn (by omega)]; dsimp only; exact if_neg (by rw [c_9]; decide)⟩ rfl

theorem hd_X3_sumOfName : yX3_sumOfName.cls = RX3 ∧ yX3_sumOfName.cls ≠ "java/lang/invoke/MethodHandle" ∧ yX3_sumOfName.cls ≠ "java/lang/invoke/VarHandle" ∧ (parseMethodDescriptor yX3_sumOfName.desc).map (fun d => d.parameters.length) = some 1 := by decide +kernel
set_option maxHeartbeats 4000000 in
set_option maxRecDepth 100000 in
theorem c_X3_sumOfName (l : Launch) (hst : l.stackTraces = false) (D : va_G) (g : Nat → ClassId) (ev : Nat × Nat × (Nat → Nat)) (A : Nat → Nat → Nat) (X : XS) (hX : XOK ev.1 X) (v : Int32) (sz : Nat) : qNl l yX3_sumOfName (.code yX3_sumOfName cX3_sumOfName 6 (some .long) :: GW) ({ frames := 3, cells := 0, slots := 0, locals := 90 } : Room) D g ev [.ref (A 0 0), .int v] (wX g A X) sz (fun (r : Int64) (_ : Unit) => xSum (pX X) v = r) (fun (_ : Unit) => (wX g A X)) 0 0 := by
  refine qe_entry (cc := cX3_sumOfName) (nL := 6) (ret := (some .long)) rfl (by decide) (Nat.le_of_ble_eq_true rfl) (fun pp ee ss mm bb mt kc ls C hRt hLk hin hsz hW hE hl => ?_)
  have hl : lv_has ls 6 [(0, .ref (A 0 0)), (1, .int v)] := hl
  have hW : qW D g (va_A (wX g A X) sz) ss.heap ss ([((A 0 0), .inr (6, [.ref (A 0 1), .ref (A 0 2), .ref (A 0 3), .ref (A 0 4), .ref (A 0 5)]))] ++ ((wL g (A 0 1) (A 1) (xL X)) ++ ((wC g (A 0 2) (A 2) (xC X)) ++ ((wC g (A 0 3) (A 3) (xR X)) ++ ((wAL g (A 0 4) (xl X)) ++ ((wAL g (A 0 5) (xa X)) ++ (wP  (xE X)))))))) ss.heap [] := hW
  have hN := hX.1.1
  have hN9 : lNm (sL (pX X)) ≤ 12 := hN
  have hlen := hX.len
  refine lv_lconst (v := 0) C.1 C.2.1 dX3_sumOfName_0 rfl ?_
  refine lv_lstore_n (lv' := [(2, .long 0), (0, .ref (A 0 0)), (1, .int v)]) C.1 C.2.1 dX3_sumOfName_1 rfl hl (by decide) rfl (fun ls hl => ?_)
  refine lv_iconst (v := nI 0) C.1 C.2.1 dX3_sumOfName_2 (by decide) ?_
  refine lv_istore (lv' := [(4, .int (nI 0)), (2, .long 0), (0, .ref (A 0 0)), (1, .int v)]) C.1 C.2.1 dX3_sumOfName_3 hl (by decide) rfl (fun ls hl => ?_)
  have L_5 : ∀ (nf : Nat) (i : Nat) (hi : i ≤ alC (xa X)) (x2 : Int64) (e2 : x2 = xSumN (pX X) v i) (x4 : Int32) (e4 : x4 = nI i) (hmu : alC (xa X) - i < nf) (ls : Array Slot) (H : Heap) (locs : List Loc), lv_has ls 6 [(0, .ref (A 0 0)), (1, .int v), (2, .long x2), (4, .int x4)] → qW D g (va_A (wX g A X) sz) ss.heap ss ([((A 0 0), .inr (6, [.ref (A 0 1), .ref (A 0 2), .ref (A 0 3), .ref (A 0 4), .ref (A 0 5)]))] ++ ((wL g (A 0 1) (A 1) (xL X)) ++ ((wC g (A 0 2) (A 2) (xC X)) ++ ((wC g (A 0 3) (A 3) (xR X)) ++ ((wAL g (A 0 4) (xl X)) ++ ((wAL g (A 0 5) (xa X)) ++ (wP  (xE X)))))))) H locs → W pp l ee ({ frames := 3, cells := 0, slots := 0, locals := 90 } : Room) ss mm [.ref (A 0 0), .int v].toArray bb mt kc H locs 0 0 (MQ bb (va_Ql (fun (r : Int64) (_ : Unit) => xSum (pX X) v = r) (qB D g (wX g A X) sz (fun (_ : Unit) => (wX g A X))) (va_A (wX g A X) sz)) [.ref (A 0 0), .int v].toArray ss 0 0 (va_A (wX g A X) sz)) (F0 mm 5 ls []) := by
    intro nf
    induction nf with
    | zero =>
      intro i hi x2 e2 x4 e4 hmu ls H locs hl hW
      exact absurd hmu (by omega)
    | succ nf ih =>
      intro i hi x2 e2 x4 e4 hmu ls H locs hl hW
      subst e2
      subst e4
      refine lv_iload C.1 C.2.1 dX3_sumOfName_5 (lv_at hl 3 rfl) ?_
      refine lv_aload_n C.1 C.2.1 dX3_sumOfName_7 rfl (lv_at hl 0 rfl) ?_
      refine q_get (v := .ref (A 0 5)) C hW 0 rfl rfl 4 (by decide) gu_X3 (C.2.2.2.2 _ fl_X3_33) rfl rfl dX3_sumOfName_8 ?_
      refine q_callFi (rest := [.int (nI i)]) C hE.2.2.2.2.2.2.2.1.1 (c_AL_size l D g (A 0 5) (xa X) _) (gw_F ml_X3_141 se_Jx4a65c_Jxbd725_size_0699_Jx4a65c_size_8abf5 im_Jx4a65c_size_8abf5 ini_Jx4a65c cd_Jx4a65c_size_8abf5 rfl) rfl rfl rfl hd_xLsize ⟨(Nat.le_of_ble_eq_true rfl), (Nat.le_of_ble_eq_true rfl)⟩ hW pm_5 (fun _ => ([((A 0 0), .inr (6, [.ref (A 0 1), .ref (A 0 2), .ref (A 0 3), .ref (A 0 4), .ref (A 0 5)]))] ++ ((wL g (A 0 1) (A 1) (xL X)) ++ ((wC g (A 0 2) (A 2) (xC X)) ++ ((wC g (A 0 3) (A 3) (xR X)) ++ ((wAL g (A 0 4) (xl X)) ++ ((wAL g (A 0 5) (xa X)) ++ (wP  (xE X))))))))) (fun _ => pm_5) rfl rfl hl.1 rfl (Nat.le_of_ble_eq_true rfl) ⟨(Nat.le_of_ble_eq_true rfl), (Nat.le_of_ble_eq_true rfl)⟩ dX3_sumOfName_11 (fun r_1 _ H locs e_1 hW => ?_)
      subst e_1
      refine q_ge (tgt := 59) C (by omega) (by omega) dX3_sumOfName_16 (by decide) (fun c_16 => ?_) (fun c_16 => ?_)
      · refine lv_lload_n C.1 C.2.1 dX3_sumOfName_59 rfl (lv_at hl 2 rfl) ?_
        exact q_lret C hRt hLk hW () (by obtain rfl : i = alC (xa X) := (by omega); unfold xSum; rw [← hX.alen]) rfl (Nat.le_of_ble_eq_true rfl) (Nat.le_of_ble_eq_true rfl) dX3_sumOfName_60
      refine lv_aload_n C.1 C.2.1 dX3_sumOfName_19 rfl (lv_at hl 0 rfl) ?_
      refine q_get (v := .ref (A 0 5)) C hW 0 rfl rfl 4 (by decide) gu_X3 (C.2.2.2.2 _ fl_X3_33) rfl rfl dX3_sumOfName_20 ?_
      refine lv_iload C.1 C.2.1 dX3_sumOfName_23 (lv_at hl 3 rfl) ?_
      obtain ⟨p_25, p_25_1, p_25_2, p_25_3, p_25_4, p_25_5⟩ := hX.ac (i := i) (by omega)
      refine q_callFq (rest := []) C hE.2.2.2.2.2.2.2.1.2.1 (c_AL_get l D g (A 0 5) (xa X) i (by omega) hX.2.2.1.2.1 (by have := hX.2.2.1.2.2.2; omega) _) (gw_F ml_X3_148 se_Jx4a65c_Jxbd725_get_3715_Jx4a65c_get_915e3 im_Jx4a65c_get_915e3 ini_Jx4a65c cd_Jx4a65c_get_915e3 rfl) rfl rfl rfl hd_xLget ⟨(Nat.le_of_ble_eq_true rfl), (Nat.le_of_ble_eq_true rfl)⟩ hW pm_5 (fun _ => ([((A 0 0), .inr (6, [.ref (A 0 1), .ref (A 0 2), .ref (A 0 3), .ref (A 0 4), .ref (A 0 5)]))] ++ ((wL g (A 0 1) (A 1) (xL X)) ++ ((wC g (A 0 2) (A 2) (xC X)) ++ ((wC g (A 0 3) (A 3) (xR X)) ++ ((wAL g (A 0 4) (xl X)) ++ ((wAL g (A 0 5) (xa X)) ++ (wP  (xE X))))))))) (fun _ => pm_5) rfl rfl hl.1 rfl (Nat.le_of_ble_eq_true rfl) ⟨(Nat.le_of_ble_eq_true rfl), (Nat.le_of_ble_eq_true rfl)⟩ dX3_sumOfName_25 (fun r_2 _ H locs e_2 hW => ?_)
      rw [p_25_1] at e_2
      subst e_2
      refine q_castM C hW (C.2.2.2.2 _ cl_X3_113) (z := p_25.2) (wX_mem p_25_3) dX3_sumOfName_30 ?_
      refine lv_astore (lv' := [(5, .ref p_25.1), (0, .ref (A 0 0)), (1, .int v), (2, .long (xSumN (pX X) v i)), (4, .int (nI i))]) C.1 C.2.1 dX3_sumOfName_33 hl (by decide) rfl (fun ls hl => ?_)
      refine lv_aload C.1 C.2.1 dX3_sumOfName_35 (lv_at hl 0 rfl) ?_
      refine q_getM (v := .int (oI (eNa p_25.2))) C hW (wX_mem p_25_3) rfl 2 (by decide) gu_X1 (C.2.2.2.2 _ fl_X3_195) rfl rfl dX3_sumOfName_37 ?_
      refine lv_iload_n C.1 C.2.1 dX3_sumOfName_40 rfl (lv_at hl 2 rfl) ?_
      refine lv_icmp_ne (tgt := 53) C.1 C.2.1 dX3_sumOfName_41 (by decide) (fun c_41 => ?_) (fun c_41 => ?_)
      · refine q_iinc (d := 1) (lv' := [(4, .int (nI (i + 1))), (5, .ref p_25.1), (0, .ref (A 0 0)), (1, .int v), (2, .long (xSumN (pX X) v i))]) C dX3_sumOfName_53 (by decide) hl (k := 4) rfl (by decide) rfl (fun ls hl => ?_)
        refine lv_goto (tgt := 5) C.1 C.2.1 dX3_sumOfName_56 (by decide) ?_
        exact ih (i + 1) (by omega) _ (by unfold xSumN; rw [sumL, if_neg (by rw [p_25_2, decide_eq_false c_41]; decide), Int64.add_zero]) _ rfl (by omega) ls _ _ (lv_sub hl [2, 3, 4, 0] rfl) hW
      refine lv_lload_n C.1 C.2.1 dX3_sumOfName_44 rfl (lv_at hl 3 rfl) ?_
      refine lv_aload C.1 C.2.1 dX3_sumOfName_45 (lv_at hl 0 rfl) ?_
      refine q_getM (v := .int (nI (eCs p_25.2))) C hW (wX_mem p_25_3) rfl 4 (by decide) gu_X1 (C.2.2.2.2 _ fl_X3_152) rfl rfl dX3_sumOfName_47 ?_
      refine lv_i2l (v := (nI (eCs p_25.2)).toInt64) C.1 C.2.1 dX3_sumOfName_50 rfl ?_
      refine lv_ladd C.1 C.2.1 dX3_sumOfName_51 ?_
      refine lv_lstore_n (lv' := [(2, .long ((xSumN (pX X) v i) + ((nI (eCs p_25.2)).toInt64))), (5, .ref p_25.1), (0, .ref (A 0 0)), (1, .int v), (4, .int (nI i))]) C.1 C.2.1 dX3_sumOfName_52 rfl hl (by decide) rfl (fun ls hl => ?_)
      refine q_iinc (d := 1) (lv' := [(4, .int (nI (i + 1))), (2, .long ((xSumN (pX X) v i) + ((nI (eCs p_25.2)).toInt64))), (5, .ref p_25.1), (0, .ref (A 0 0)), (1, .int v)]) C dX3_sumOfName_53 (by decide) hl (k := 4) rfl (by decide) rfl (fun ls hl => ?_)
      refine lv_goto (tgt := 5) C.1 C.2.1 dX3_sumOfName_56 (by decide) ?_
      exact ih (i + 1) (by omega) _ (by unfold xSumN; rw [sumL, if_pos (by rw [p_25_2]; exact decide_eq_true c_41), p_25_2]) _ rfl (by omega) ls _ _ (lv_sub hl [3, 4, 1, 0] rfl) hW
  exact L_5 (alC (xa X) - 0 + 1) 0 (by omega) _ rfl _ rfl (by omega) ls _ _ (lv_sub hl [2, 3, 1, 0] rfl) hW

theorem hd_X3_bill : yX3_bill.cls = RX3 ∧ yX3_bill.cls ≠ "java/lang/invoke/MethodHandle" ∧ yX3_bill.cls ≠ "java/lang/invoke/VarHandle" ∧ (parseMethodDescriptor yX3_bill.desc).map (fun d => d.parameters.length) = some 1 := by decide +kernel
set_option maxHeartbeats 4000000 in
set_option maxRecDepth 100000 in
theorem c_X3_bill (l : Launch) (hst : l.stackTraces = false) (D : va_G) (g : Nat → ClassId) (ev : Nat × Nat × (Nat → Nat)) (A : Nat → Nat → Nat) (X : XS) (hX : XOK ev.1 X) (v : Int32) (sz : Nat) : qXl l yX3_bill (.code yX3_bill cX3_bill 2 (some .long) :: GW) ({ frames := 7, cells := 1, slots := 6, locals := 115 } : Room) D g ev [.ref (A 0 0), .int v] (wX g A X) sz (fun (r : Int64) (_ : Unit) => ∃ rr : Int64, rr = r ∧ xBill (pX X) v = (0, rr)) (fun E (_ : Unit) => ∃ k, ([nsN] : List String)[k]? = some E ∧ xBill (pX X) v = (k + 1, 0)) (fun (_ : Unit) => (wX g A X)) 1 6 := by
  refine qx_entry (cc := cX3_bill) (nL := 2) (ret := (some .long)) rfl (by decide) (Nat.le_of_ble_eq_true rfl) (fun pp ee ss mm bb mt kc ls C hRt hLk hin hsz hW hE hnt hl => ?_)
  have hl : lv_has ls 2 [(0, .ref (A 0 0)), (1, .int v)] := hl
  have hW : qW D g (va_A (wX g A X) sz) ss.heap ss ([((A 0 0), .inr (6, [.ref (A 0 1), .ref (A 0 2), .ref (A 0 3), .ref (A 0 4), .ref (A 0 5)]))] ++ ((wL g (A 0 1) (A 1) (xL X)) ++ ((wC g (A 0 2) (A 2) (xC X)) ++ ((wC g (A 0 3) (A 3) (xR X)) ++ ((wAL g (A 0 4) (xl X)) ++ ((wAL g (A 0 5) (xa X)) ++ (wP  (xE X)))))))) ss.heap [] := hW
  have hN := hX.1.1
  have hN9 : lNm (sL (pX X)) ≤ 12 := hN
  refine lv_aload_n C.1 C.2.1 dX3_bill_0 rfl (lv_at hl 0 rfl) ?_
  refine lv_iload_n C.1 C.2.1 dX3_bill_1 rfl (lv_at hl 1 rfl) ?_
  refine qx_callVv (rest := []) C hE hLk hnt (c_X3_checkName l hst D g ev A X hX v _) (gw_V ml_X3_56 im_X3_checkName se_X3_X3_checkName ini_X3 cd_X3_checkName rfl) rfl rfl rfl hd_X3_checkName ⟨(Nat.le_of_ble_eq_true rfl), (Nat.le_of_ble_eq_true rfl)⟩ hW pm_all (fun _ => ([((A 0 0), .inr (6, [.ref (A 0 1), .ref (A 0 2), .ref (A 0 3), .ref (A 0 4), .ref (A 0 5)]))] ++ ((wL g (A 0 1) (A 1) (xL X)) ++ ((wC g (A 0 2) (A 2) (xC X)) ++ ((wC g (A 0 3) (A 3) (xR X)) ++ ((wAL g (A 0 4) (xl X)) ++ ((wAL g (A 0 5) (xa X)) ++ (wP  (xE X))))))))) (fun _ => pm_all) rfl rfl hl.1 rfl (Nat.le_of_ble_eq_true rfl) ⟨(Nat.le_of_ble_eq_true rfl), (Nat.le_of_ble_eq_true rfl)⟩ ⟨(Nat.le_of_ble_eq_true rfl), (Nat.le_of_ble_eq_true rfl)⟩ dX3_bill_2 (fun E _ h => ⟨(), by obtain ⟨rfl, h0⟩ := h; exact ⟨0, rfl, by unfold xBill; rw [show inR (lNm (sL (pX X))) v = none from h0]⟩, rfl⟩) (fun u_1 H locs e_1 hW => ?_)
  obtain ⟨n, hn, rfl⟩ := e_1
  refine lv_aload_n C.1 C.2.1 dX3_bill_5 rfl (lv_at hl 0 rfl) ?_
  refine lv_iload_n C.1 C.2.1 dX3_bill_6 rfl (lv_at hl 1 rfl) ?_
  refine qe_callVl (rest := []) C hE (c_X3_sumOfName l hst D g ev A X hX (nI n) _) (gw_V ml_X3_198 im_X3_sumOfName se_X3_X3_sumOfName ini_X3 cd_X3_sumOfName rfl) rfl rfl rfl hd_X3_sumOfName ⟨(Nat.le_of_ble_eq_true rfl), (Nat.le_of_ble_eq_true rfl)⟩ hW pm_all (fun _ => ([((A 0 0), .inr (6, [.ref (A 0 1), .ref (A 0 2), .ref (A 0 3), .ref (A 0 4), .ref (A 0 5)]))] ++ ((wL g (A 0 1) (A 1) (xL X)) ++ ((wC g (A 0 2) (A 2) (xC X)) ++ ((wC g (A 0 3) (A 3) (xR X)) ++ ((wAL g (A 0 4) (xl X)) ++ ((wAL g (A 0 5) (xa X)) ++ (wP  (xE X))))))))) (fun _ => pm_all) rfl rfl hl.1 rfl (Nat.le_of_ble_eq_true rfl) ⟨(Nat.le_of_ble_eq_true rfl), (Nat.le_of_ble_eq_true rfl)⟩ dX3_bill_7 (fun r_2 u_2 H locs e_2 hW => ?_)
  subst e_2
  exact vx_ret (q_lret C hRt hLk hW () ⟨_, rfl, by unfold xBill; rw [show inR (lNm (sL (pX X))) (nI n) = some n from inR_nI hn (by omega)]⟩ rfl (Nat.le_of_ble_eq_true rfl) (Nat.le_of_ble_eq_true rfl) dX3_bill_10)

theorem hd_X3_cycles : yX3_cycles.cls = RX3 ∧ yX3_cycles.cls ≠ "java/lang/invoke/MethodHandle" ∧ yX3_cycles.cls ≠ "java/lang/invoke/VarHandle" ∧ (parseMethodDescriptor yX3_cycles.desc).map (fun d => d.parameters.length) = some 1 := by decide +kernel
set_option maxHeartbeats 4000000 in
set_option maxRecDepth 100000 in
theorem c_X3_cycles (l : Launch) (hst : l.stackTraces = false) (D : va_G) (g : Nat → ClassId) (ev : Nat × Nat × (Nat → Nat)) (A : Nat → Nat → Nat) (X : XS) (hX : XOK ev.1 X) (v : Int32) (sz : Nat) : qXl l yX3_cycles (.code yX3_cycles cX3_cycles 6 (some .long) :: GW) ({ frames := 7, cells := 1, slots := 6, locals := 110 } : Room) D g ev [.ref (A 0 0), .int v] (wX g A X) sz (fun (r : Int64) (_ : Unit) => ∃ rr : Int64, rr = r ∧ xCyc (pX X) v = (0, rr)) (fun E (_ : Unit) => ∃ k, ([ioN] : List String)[k]? = some E ∧ xCyc (pX X) v = (k + 1, 0)) (fun (_ : Unit) => (wX g A X)) 1 6 := by
  refine qx_entry (cc := cX3_cycles) (nL := 6) (ret := (some .long)) rfl (by decide) (Nat.le_of_ble_eq_true rfl) (fun pp ee ss mm bb mt kc ls C hRt hLk hin hsz hW hE hnt hl => ?_)
  have hl : lv_has ls 6 [(0, .ref (A 0 0)), (1, .int v)] := hl
  have hW : qW D g (va_A (wX g A X) sz) ss.heap ss ([((A 0 0), .inr (6, [.ref (A 0 1), .ref (A 0 2), .ref (A 0 3), .ref (A 0 4), .ref (A 0 5)]))] ++ ((wL g (A 0 1) (A 1) (xL X)) ++ ((wC g (A 0 2) (A 2) (xC X)) ++ ((wC g (A 0 3) (A 3) (xR X)) ++ ((wAL g (A 0 4) (xl X)) ++ ((wAL g (A 0 5) (xa X)) ++ (wP  (xE X)))))))) ss.heap [] := hW
  have hN := hX.1.1
  have hN9 : lNm (sL (pX X)) ≤ 12 := hN
  have hlen := hX.len
  refine lv_iload_n C.1 C.2.1 dX3_cycles_0 rfl (lv_at hl 1 rfl) ?_
  refine qx_callSv (rest := []) C hE hLk hnt (c_X3_checkCore l hst D g ev v _) (gw_S ml_X3_119 sm_X3_checkCore ini_X3 cd_X3_checkCore rfl) rfl rfl rfl hd_X3_checkCore ⟨(Nat.le_of_ble_eq_true rfl), (Nat.le_of_ble_eq_true rfl)⟩ hW (wc := []) (List.Perm.refl _) (fun _ => ([((A 0 0), .inr (6, [.ref (A 0 1), .ref (A 0 2), .ref (A 0 3), .ref (A 0 4), .ref (A 0 5)]))] ++ ((wL g (A 0 1) (A 1) (xL X)) ++ ((wC g (A 0 2) (A 2) (xC X)) ++ ((wC g (A 0 3) (A 3) (xR X)) ++ ((wAL g (A 0 4) (xl X)) ++ ((wAL g (A 0 5) (xa X)) ++ (wP  (xE X))))))))) (fun _ => List.Perm.refl _) hl.1 rfl (Nat.le_of_ble_eq_true rfl) ⟨(Nat.le_of_ble_eq_true rfl), (Nat.le_of_ble_eq_true rfl)⟩ ⟨(Nat.le_of_ble_eq_true rfl), (Nat.le_of_ble_eq_true rfl)⟩ dX3_cycles_1 (fun E _ h => ⟨(), by obtain ⟨rfl, h0⟩ := h; exact ⟨0, rfl, by unfold xCyc; rw [h0]⟩, rfl⟩) (fun u_1 H locs e_1 hW => ?_)
  obtain ⟨c, hc, rfl⟩ := e_1
  refine lv_lconst (v := 0) C.1 C.2.1 dX3_cycles_4 rfl ?_
  refine lv_lstore_n (lv' := [(2, .long 0), (0, .ref (A 0 0)), (1, .int (nI c))]) C.1 C.2.1 dX3_cycles_5 rfl hl (by decide) rfl (fun ls hl => ?_)
  refine lv_iconst (v := nI 0) C.1 C.2.1 dX3_cycles_6 (by decide) ?_
  refine lv_istore (lv' := [(4, .int (nI 0)), (2, .long 0), (0, .ref (A 0 0)), (1, .int (nI c))]) C.1 C.2.1 dX3_cycles_7 hl (by decide) rfl (fun ls hl => ?_)
  have L_9 : ∀ (nf : Nat) (i : Nat) (hi : i ≤ alC (xa X)) (x2 : Int64) (e2 : x2 = xCycN (pX X) (nI c) i) (x4 : Int32) (e4 : x4 = nI i) (hmu : alC (xa X) - i < nf) (ls : Array Slot) (H : Heap) (locs : List Loc), lv_has ls 6 [(0, .ref (A 0 0)), (1, .int (nI c)), (2, .long x2), (4, .int x4)] → qW D g (va_A (wX g A X) sz) ss.heap ss ([((A 0 0), .inr (6, [.ref (A 0 1), .ref (A 0 2), .ref (A 0 3), .ref (A 0 4), .ref (A 0 5)]))] ++ ((wL g (A 0 1) (A 1) (xL X)) ++ ((wC g (A 0 2) (A 2) (xC X)) ++ ((wC g (A 0 3) (A 3) (xR X)) ++ ((wAL g (A 0 4) (xl X)) ++ ((wAL g (A 0 5) (xa X)) ++ (wP  (xE X)))))))) H locs → W pp l ee ({ frames := 7, cells := 1, slots := 6, locals := 110 } : Room) ss mm [.ref (A 0 0), .int (nI c)].toArray bb mt kc H locs 1 6 (vx_MQ bb (va_Ql (fun (r : Int64) (_ : Unit) => ∃ rr : Int64, rr = r ∧ xCyc (pX X) (nI c) = (0, rr)) (qB D g (wX g A X) sz (fun (_ : Unit) => (wX g A X))) (va_A (wX g A X) sz)) (qXX D g (wX g A X) sz (fun E (_ : Unit) => ∃ k, ([ioN] : List String)[k]? = some E ∧ xCyc (pX X) (nI c) = (k + 1, 0)) (fun (_ : Unit) => (wX g A X))) [.ref (A 0 0), .int (nI c)].toArray ss 1 6 (va_A (wX g A X) sz)) (F0 mm 9 ls []) := by
    intro nf
    induction nf with
    | zero =>
      intro i hi x2 e2 x4 e4 hmu ls H locs hl hW
      exact absurd hmu (by omega)
    | succ nf ih =>
      intro i hi x2 e2 x4 e4 hmu ls H locs hl hW
      subst e2
      subst e4
      refine lv_iload C.1 C.2.1 dX3_cycles_9 (lv_at hl 3 rfl) ?_
      refine lv_aload_n C.1 C.2.1 dX3_cycles_11 rfl (lv_at hl 0 rfl) ?_
      refine q_get (v := .ref (A 0 5)) C hW 0 rfl rfl 4 (by decide) gu_X3 (C.2.2.2.2 _ fl_X3_33) rfl rfl dX3_cycles_12 ?_
      refine q_callFi (rest := [.int (nI i)]) C hE.2.2.2.2.2.2.2.1.1 (c_AL_size l D g (A 0 5) (xa X) _) (gw_F ml_X3_141 se_Jx4a65c_Jxbd725_size_0699_Jx4a65c_size_8abf5 im_Jx4a65c_size_8abf5 ini_Jx4a65c cd_Jx4a65c_size_8abf5 rfl) rfl rfl rfl hd_xLsize ⟨(Nat.le_of_ble_eq_true rfl), (Nat.le_of_ble_eq_true rfl)⟩ hW pm_5 (fun _ => ([((A 0 0), .inr (6, [.ref (A 0 1), .ref (A 0 2), .ref (A 0 3), .ref (A 0 4), .ref (A 0 5)]))] ++ ((wL g (A 0 1) (A 1) (xL X)) ++ ((wC g (A 0 2) (A 2) (xC X)) ++ ((wC g (A 0 3) (A 3) (xR X)) ++ ((wAL g (A 0 4) (xl X)) ++ ((wAL g (A 0 5) (xa X)) ++ (wP  (xE X))))))))) (fun _ => pm_5) rfl rfl hl.1 rfl (Nat.le_of_ble_eq_true rfl) ⟨(Nat.le_of_ble_eq_true rfl), (Nat.le_of_ble_eq_true rfl)⟩ dX3_cycles_15 (fun r_2 _ H locs e_2 hW => ?_)
      subst e_2
      refine q_ge (tgt := 63) C (by omega) (by omega) dX3_cycles_20 (by decide) (fun c_20 => ?_) (fun c_20 => ?_)
      · refine lv_lload_n C.1 C.2.1 dX3_cycles_63 rfl (lv_at hl 2 rfl) ?_
        exact vx_ret (q_lret C hRt hLk hW () ⟨_, rfl, by obtain rfl : i = alC (xa X) := (by omega); unfold xCyc; rw [inR_nI hc (by decide)]; dsimp only; rw [← hX.alen]⟩ rfl (Nat.le_of_ble_eq_true rfl) (Nat.le_of_ble_eq_true rfl) dX3_cycles_64)
      refine lv_aload_n C.1 C.2.1 dX3_cycles_23 rfl (lv_at hl 0 rfl) ?_
      refine q_get (v := .ref (A 0 5)) C hW 0 rfl rfl 4 (by decide) gu_X3 (C.2.2.2.2 _ fl_X3_33) rfl rfl dX3_cycles_24 ?_
      refine lv_iload C.1 C.2.1 dX3_cycles_27 (lv_at hl 3 rfl) ?_
      obtain ⟨p_29, p_29_1, p_29_2, p_29_3, p_29_4, p_29_5⟩ := hX.ac (i := i) (by omega)
      refine q_callFq (rest := []) C hE.2.2.2.2.2.2.2.1.2.1 (c_AL_get l D g (A 0 5) (xa X) i (by omega) hX.2.2.1.2.1 (by have := hX.2.2.1.2.2.2; omega) _) (gw_F ml_X3_148 se_Jx4a65c_Jxbd725_get_3715_Jx4a65c_get_915e3 im_Jx4a65c_get_915e3 ini_Jx4a65c cd_Jx4a65c_get_915e3 rfl) rfl rfl rfl hd_xLget ⟨(Nat.le_of_ble_eq_true rfl), (Nat.le_of_ble_eq_true rfl)⟩ hW pm_5 (fun _ => ([((A 0 0), .inr (6, [.ref (A 0 1), .ref (A 0 2), .ref (A 0 3), .ref (A 0 4), .ref (A 0 5)]))] ++ ((wL g (A 0 1) (A 1) (xL X)) ++ ((wC g (A 0 2) (A 2) (xC X)) ++ ((wC g (A 0 3) (A 3) (xR X)) ++ ((wAL g (A 0 4) (xl X)) ++ ((wAL g (A 0 5) (xa X)) ++ (wP  (xE X))))))))) (fun _ => pm_5) rfl rfl hl.1 rfl (Nat.le_of_ble_eq_true rfl) ⟨(Nat.le_of_ble_eq_true rfl), (Nat.le_of_ble_eq_true rfl)⟩ dX3_cycles_29 (fun r_3 _ H locs e_3 hW => ?_)
      rw [p_29_1] at e_3
      subst e_3
      refine q_castM C hW (C.2.2.2.2 _ cl_X3_113) (z := p_29.2) (wX_mem p_29_3) dX3_cycles_34 ?_
      refine lv_astore (lv' := [(5, .ref p_29.1), (0, .ref (A 0 0)), (1, .int (nI c)), (2, .long (xCycN (pX X) (nI c) i)), (4, .int (nI i))]) C.1 C.2.1 dX3_cycles_37 hl (by decide) rfl (fun ls hl => ?_)
      refine lv_aload C.1 C.2.1 dX3_cycles_39 (lv_at hl 0 rfl) ?_
      refine q_getM (v := .int (nI (eCo p_29.2))) C hW (wX_mem p_29_3) rfl 1 (by decide) gu_X1 (C.2.2.2.2 _ fl_X3_207) rfl rfl dX3_cycles_41 ?_
      refine lv_iload_n C.1 C.2.1 dX3_cycles_44 rfl (lv_at hl 2 rfl) ?_
      refine lv_icmp_ne (tgt := 57) C.1 C.2.1 dX3_cycles_45 (by decide) (fun c_45 => ?_) (fun c_45 => ?_)
      · refine q_iinc (d := 1) (lv' := [(4, .int (nI (i + 1))), (5, .ref p_29.1), (0, .ref (A 0 0)), (1, .int (nI c)), (2, .long (xCycN (pX X) (nI c) i))]) C dX3_cycles_57 (by decide) hl (k := 4) rfl (by decide) rfl (fun ls hl => ?_)
        refine lv_goto (tgt := 9) C.1 C.2.1 dX3_cycles_60 (by decide) ?_
        exact ih (i + 1) (by omega) _ (by unfold xCycN; rw [sumL, if_neg (by rw [p_29_2, decide_eq_false c_45]; decide), Int64.add_zero]) _ rfl (by omega) ls _ _ (lv_sub hl [2, 3, 4, 0] rfl) hW
      refine lv_lload_n C.1 C.2.1 dX3_cycles_48 rfl (lv_at hl 3 rfl) ?_
      refine lv_aload C.1 C.2.1 dX3_cycles_49 (lv_at hl 0 rfl) ?_
      refine q_getM (v := .int (nI (eCs p_29.2))) C hW (wX_mem p_29_3) rfl 4 (by decide) gu_X1 (C.2.2.2.2 _ fl_X3_152) rfl rfl dX3_cycles_51 ?_
      refine lv_i2l (v := (nI (eCs p_29.2)).toInt64) C.1 C.2.1 dX3_cycles_54 rfl ?_
      refine lv_ladd C.1 C.2.1 dX3_cycles_55 ?_
      refine lv_lstore_n (lv' := [(2, .long ((xCycN (pX X) (nI c) i) + ((nI (eCs p_29.2)).toInt64))), (5, .ref p_29.1), (0, .ref (A 0 0)), (1, .int (nI c)), (4, .int (nI i))]) C.1 C.2.1 dX3_cycles_56 rfl hl (by decide) rfl (fun ls hl => ?_)
      refine q_iinc (d := 1) (lv' := [(4, .int (nI (i + 1))), (2, .long ((xCycN (pX X) (nI c) i) + ((nI (eCs p_29.2)).toInt64))), (5, .ref p_29.1), (0, .ref (A 0 0)), (1, .int (nI c))]) C dX3_cycles_57 (by decide) hl (k := 4) rfl (by decide) rfl (fun ls hl => ?_)
      refine lv_goto (tgt := 9) C.1 C.2.1 dX3_cycles_60 (by decide) ?_
      exact ih (i + 1) (by omega) _ (by unfold xCycN; rw [sumL, if_pos (by rw [p_29_2]; exact decide_eq_true c_45), p_29_2]) _ rfl (by omega) ls _ _ (lv_sub hl [3, 4, 1, 0] rfl) hW
  exact L_9 (alC (xa X) - 0 + 1) 0 (by omega) _ rfl _ rfl (by omega) ls _ _ (lv_sub hl [2, 3, 1, 0] rfl) hW

theorem hd_X3_worst : yX3_worst.cls = RX3 ∧ yX3_worst.cls ≠ "java/lang/invoke/MethodHandle" ∧ yX3_worst.cls ≠ "java/lang/invoke/VarHandle" ∧ (parseMethodDescriptor yX3_worst.desc).map (fun d => d.parameters.length) = some 0 := by decide +kernel
set_option maxHeartbeats 4000000 in
set_option maxRecDepth 100000 in
theorem c_X3_worst (l : Launch) (hst : l.stackTraces = false) (D : va_G) (g : Nat → ClassId) (ev : Nat × Nat × (Nat → Nat)) (A : Nat → Nat → Nat) (X : XS) (hX : XOK ev.1 X)  (sz : Nat) : qXi l yX3_worst (.code yX3_worst cX3_worst 7 (some .int) :: GW) ({ frames := 6, cells := 1, slots := 6, locals := 115 } : Room) D g ev [.ref (A 0 0)] (wX g A X) sz (fun (r : Int32) (_ : Unit) => ∃ rr : Nat, nI rr = r ∧ xWorst (pX X) = (0, rr)) (fun E (_ : Unit) => ∃ k, ([nsN] : List String)[k]? = some E ∧ xWorst (pX X) = (k + 1, 0)) (fun (_ : Unit) => (wX g A X)) 1 6 := by
  refine qx_entry (cc := cX3_worst) (nL := 7) (ret := (some .int)) rfl (by decide) (Nat.le_of_ble_eq_true rfl) (fun pp ee ss mm bb mt kc ls C hRt hLk hin hsz hW hE hnt hl => ?_)
  have hl : lv_has ls 7 [(0, .ref (A 0 0))] := hl
  have hW : qW D g (va_A (wX g A X) sz) ss.heap ss ([((A 0 0), .inr (6, [.ref (A 0 1), .ref (A 0 2), .ref (A 0 3), .ref (A 0 4), .ref (A 0 5)]))] ++ ((wL g (A 0 1) (A 1) (xL X)) ++ ((wC g (A 0 2) (A 2) (xC X)) ++ ((wC g (A 0 3) (A 3) (xR X)) ++ ((wAL g (A 0 4) (xl X)) ++ ((wAL g (A 0 5) (xa X)) ++ (wP  (xE X)))))))) ss.heap [] := hW
  have hN := hX.1.1
  have hN9 : lNm (sL (pX X)) ≤ 12 := hN
  refine lv_aload_n C.1 C.2.1 dX3_worst_0 rfl (lv_at hl 0 rfl) ?_
  refine q_get (v := .ref (A 0 1)) C hW 0 rfl rfl 0 (by decide) gu_X3 (C.2.2.2.2 _ fl_X3_10) rfl rfl dX3_worst_1 ?_
  refine q_callVi (rest := []) C (c_X2_countNames l D g (A 0 1) (A 1) (xL X) hX.1 _) (gw_V ml_X3_202 im_X2_countNames se_X2_X2_countNames ini_X2 cd_X2_countNames rfl) rfl rfl rfl hd_X2_countNames ⟨Nat.le_of_ble_eq_true rfl, Nat.le_of_ble_eq_true rfl⟩ hW pm_1 (fun u_1 => ([((A 0 0), .inr (6, [.ref (A 0 1), .ref (A 0 2), .ref (A 0 3), .ref (A 0 4), .ref (A 0 5)]))] ++ ((wL g (A 0 1) (A 1) u_1) ++ ((wC g (A 0 2) (A 2) (xC X)) ++ ((wC g (A 0 3) (A 3) (xR X)) ++ ((wAL g (A 0 4) (xl X)) ++ ((wAL g (A 0 5) (xa X)) ++ (wP  (xE X))))))))) (fun _ => pm_1) rfl rfl hl.1 rfl (Nat.le_of_ble_eq_true rfl) ⟨Nat.le_of_ble_eq_true rfl, Nat.le_of_ble_eq_true rfl⟩ dX3_worst_4 (fun r_1 u_1 H locs e_1 hW => ?_)
  obtain ⟨rfl, rfl⟩ := e_1
  refine q_zne (tgt := 20) C (by omega) dX3_worst_7 (by decide) (fun c_7 => ?_) (fun c_7 => ?_)
  · refine lv_iconst (v := nI 0) C.1 C.2.1 dX3_worst_20 (by decide) ?_
    refine lv_istore_n (lv' := [(1, .int (nI 0)), (0, .ref (A 0 0))]) C.1 C.2.1 dX3_worst_21 rfl hl (by decide) rfl (fun ls hl => ?_)
    refine lv_aload_n C.1 C.2.1 dX3_worst_22 rfl (lv_at hl 1 rfl) ?_
    refine lv_iconst (v := nI 0) C.1 C.2.1 dX3_worst_23 (by decide) ?_
    refine qe_callVl (rest := []) C hE (c_X3_sumOfName l hst D g ev A X hX (nI 0) _) (gw_V ml_X3_198 im_X3_sumOfName se_X3_X3_sumOfName ini_X3 cd_X3_sumOfName rfl) rfl rfl rfl hd_X3_sumOfName ⟨(Nat.le_of_ble_eq_true rfl), (Nat.le_of_ble_eq_true rfl)⟩ hW pm_all (fun _ => ([((A 0 0), .inr (6, [.ref (A 0 1), .ref (A 0 2), .ref (A 0 3), .ref (A 0 4), .ref (A 0 5)]))] ++ ((wL g (A 0 1) (A 1) (xL X)) ++ ((wC g (A 0 2) (A 2) (xC X)) ++ ((wC g (A 0 3) (A 3) (xR X)) ++ ((wAL g (A 0 4) (xl X)) ++ ((wAL g (A 0 5) (xa X)) ++ (wP  (xE X))))))))) (fun _ => pm_all) rfl rfl hl.1 rfl (Nat.le_of_ble_eq_true rfl) ⟨(Nat.le_of_ble_eq_true rfl), (Nat.le_of_ble_eq_true rfl)⟩ dX3_worst_24 (fun r_2 u_2 H locs e_2 hW => ?_)
    subst e_2
    refine lv_lstore_n (lv' := [(2, .long (xSum (pX X) (nI 0))), (1, .int (nI 0)), (0, .ref (A 0 0))]) C.1 C.2.1 dX3_worst_27 rfl hl (by decide) rfl (fun ls hl => ?_)
    refine lv_iconst (v := nI 1) C.1 C.2.1 dX3_worst_28 (by decide) ?_
    refine lv_istore (lv' := [(4, .int (nI 1)), (2, .long (xSum (pX X) (nI 0))), (1, .int (nI 0)), (0, .ref (A 0 0))]) C.1 C.2.1 dX3_worst_29 hl (by decide) rfl (fun ls hl => ?_)
    have L_31 : ∀ (nf : Nat) (i : Nat) (hi : i + 1 ≤ lNm (xL X)) (x1 : Int32) (e1 : x1 = nI (xWorN (pX X) i)) (x2 : Int64) (e2 : x2 = xSum (pX X) (nI (xWorN (pX X) i))) (x4 : Int32) (e4 : x4 = nI (i + 1)) (hmu : lNm (xL X) - i < nf) (ls : Array Slot) (H : Heap) (locs : List Loc), lv_has ls 7 [(0, .ref (A 0 0)), (1, .int x1), (2, .long x2), (4, .int x4)] → qW D g (va_A (wX g A X) sz) ss.heap ss ([((A 0 0), .inr (6, [.ref (A 0 1), .ref (A 0 2), .ref (A 0 3), .ref (A 0 4), .ref (A 0 5)]))] ++ ((wL g (A 0 1) (A 1) (xL X)) ++ ((wC g (A 0 2) (A 2) (xC X)) ++ ((wC g (A 0 3) (A 3) (xR X)) ++ ((wAL g (A 0 4) (xl X)) ++ ((wAL g (A 0 5) (xa X)) ++ (wP  (xE X)))))))) H locs → W pp l ee ({ frames := 6, cells := 1, slots := 6, locals := 115 } : Room) ss mm [.ref (A 0 0)].toArray bb mt kc H locs 0 0 (vx_MQ bb (va_Qi (fun (r : Int32) (_ : Unit) => ∃ rr : Nat, nI rr = r ∧ xWorst (pX X) = (0, rr)) (qB D g (wX g A X) sz (fun (_ : Unit) => (wX g A X))) (va_A (wX g A X) sz)) (qXX D g (wX g A X) sz (fun E (_ : Unit) => ∃ k, ([nsN] : List String)[k]? = some E ∧ xWorst (pX X) = (k + 1, 0)) (fun (_ : Unit) => (wX g A X))) [.ref (A 0 0)].toArray ss 1 6 (va_A (wX g A X) sz)) (F0 mm 31 ls []) := by
      intro nf
      induction nf with
      | zero =>
        intro i hi x1 e1 x2 e2 x4 e4 hmu ls H locs hl hW
        exact absurd hmu (by omega)
      | succ nf ih =>
        intro i hi x1 e1 x2 e2 x4 e4 hmu ls H locs hl hW
        subst e1
        subst e2
        subst e4
        refine lv_iload C.1 C.2.1 dX3_worst_31 (lv_at hl 3 rfl) ?_
        refine lv_aload_n C.1 C.2.1 dX3_worst_33 rfl (lv_at hl 0 rfl) ?_
        refine q_get (v := .ref (A 0 1)) C hW 0 rfl rfl 0 (by decide) gu_X3 (C.2.2.2.2 _ fl_X3_10) rfl rfl dX3_worst_34 ?_
        refine q_callVi (rest := [.int (nI (i + 1))]) C (c_X2_countNames l D g (A 0 1) (A 1) (xL X) hX.1 _) (gw_V ml_X3_202 im_X2_countNames se_X2_X2_countNames ini_X2 cd_X2_countNames rfl) rfl rfl rfl hd_X2_countNames ⟨Nat.le_of_ble_eq_true rfl, Nat.le_of_ble_eq_true rfl⟩ hW pm_1 (fun u_3 => ([((A 0 0), .inr (6, [.ref (A 0 1), .ref (A 0 2), .ref (A 0 3), .ref (A 0 4), .ref (A 0 5)]))] ++ ((wL g (A 0 1) (A 1) u_3) ++ ((wC g (A 0 2) (A 2) (xC X)) ++ ((wC g (A 0 3) (A 3) (xR X)) ++ ((wAL g (A 0 4) (xl X)) ++ ((wAL g (A 0 5) (xa X)) ++ (wP  (xE X))))))))) (fun _ => pm_1) rfl rfl hl.1 rfl (Nat.le_of_ble_eq_true rfl) ⟨Nat.le_of_ble_eq_true rfl, Nat.le_of_ble_eq_true rfl⟩ dX3_worst_37 (fun r_3 u_3 H locs e_3 hW => ?_)
        obtain ⟨rfl, rfl⟩ := e_3
        refine q_ge (tgt := 70) C (by omega) (by omega) dX3_worst_40 (by decide) (fun c_40 => ?_) (fun c_40 => ?_)
        · refine lv_iload_n C.1 C.2.1 dX3_worst_70 rfl (lv_at hl 1 rfl) ?_
          exact vx_ret (q_iret C hRt hLk hW rfl () ⟨_, rfl, by unfold xWorst; rw [if_neg (show ¬ lNm (sL (pX X)) = 0 by show ¬ lNm (xL X) = 0; omega), show lNm (sL (pX X)) - 1 = i by show lNm (xL X) - 1 = i; omega]⟩ rfl (Nat.le_of_ble_eq_true rfl) (Nat.le_of_ble_eq_true rfl) dX3_worst_71)
        refine lv_aload_n C.1 C.2.1 dX3_worst_43 rfl (lv_at hl 0 rfl) ?_
        refine lv_iload C.1 C.2.1 dX3_worst_44 (lv_at hl 3 rfl) ?_
        refine qe_callVl (rest := []) C hE (c_X3_sumOfName l hst D g ev A X hX (nI (i + 1)) _) (gw_V ml_X3_198 im_X3_sumOfName se_X3_X3_sumOfName ini_X3 cd_X3_sumOfName rfl) rfl rfl rfl hd_X3_sumOfName ⟨(Nat.le_of_ble_eq_true rfl), (Nat.le_of_ble_eq_true rfl)⟩ hW pm_all (fun _ => ([((A 0 0), .inr (6, [.ref (A 0 1), .ref (A 0 2), .ref (A 0 3), .ref (A 0 4), .ref (A 0 5)]))] ++ ((wL g (A 0 1) (A 1) (xL X)) ++ ((wC g (A 0 2) (A 2) (xC X)) ++ ((wC g (A 0 3) (A 3) (xR X)) ++ ((wAL g (A 0 4) (xl X)) ++ ((wAL g (A 0 5) (xa X)) ++ (wP  (xE X))))))))) (fun _ => pm_all) rfl rfl hl.1 rfl (Nat.le_of_ble_eq_true rfl) ⟨(Nat.le_of_ble_eq_true rfl), (Nat.le_of_ble_eq_true rfl)⟩ dX3_worst_46 (fun r_4 u_4 H locs e_4 hW => ?_)
        subst e_4
        refine lv_lstore (lv' := [(5, .long (xSum (pX X) (nI (i + 1)))), (0, .ref (A 0 0)), (1, .int (nI (xWorN (pX X) i))), (2, .long (xSum (pX X) (nI (xWorN (pX X) i)))), (4, .int (nI (i + 1)))]) C.1 C.2.1 dX3_worst_49 hl (by decide) rfl (fun ls hl => ?_)
        refine lv_lload C.1 C.2.1 dX3_worst_51 (lv_at hl 0 rfl) ?_
        refine lv_lload_n C.1 C.2.1 dX3_worst_53 rfl (lv_at hl 3 rfl) ?_
        refine W.lcmp C.1 C.2.1 dX3_worst_54 ?_
        refine lv_if_le (tgt := 64) C.1 C.2.1 dX3_worst_55 (by decide) (fun c_55 => ?_) (fun c_55 => ?_)
        · refine q_iinc (d := 1) (lv' := [(4, .int (nI (i + 1 + 1))), (5, .long (xSum (pX X) (nI (i + 1)))), (0, .ref (A 0 0)), (1, .int (nI (xWorN (pX X) i))), (2, .long (xSum (pX X) (nI (xWorN (pX X) i))))]) C dX3_worst_64 (by decide) hl (k := 4) rfl (by decide) rfl (fun ls hl => ?_)
          refine lv_goto (tgt := 31) C.1 C.2.1 dX3_worst_67 (by decide) ?_
          exact ih (i + 1) (by omega) _ (by rw [xWorN, if_neg (by have h9 := (lg_cmp_le _ _).mp c_55; exact Int64.not_lt.mpr h9)]) _ (by rw [xWorN, if_neg (by have h9 := (lg_cmp_le _ _).mp c_55; exact Int64.not_lt.mpr h9)]) _ rfl (by omega) ls _ _ (lv_sub hl [2, 3, 4, 0] rfl) hW
        refine lv_iload C.1 C.2.1 dX3_worst_58 (lv_at hl 4 rfl) ?_
        refine lv_istore_n (lv' := [(1, .int (nI (i + 1))), (5, .long (xSum (pX X) (nI (i + 1)))), (0, .ref (A 0 0)), (2, .long (xSum (pX X) (nI (xWorN (pX X) i)))), (4, .int (nI (i + 1)))]) C.1 C.2.1 dX3_worst_60 rfl hl (by decide) rfl (fun ls hl => ?_)
        refine lv_lload C.1 C.2.1 dX3_worst_61 (lv_at hl 1 rfl) ?_
        refine lv_lstore_n (lv' := [(2, .long (xSum (pX X) (nI (i + 1)))), (1, .int (nI (i + 1))), (5, .long (xSum (pX X) (nI (i + 1)))), (0, .ref (A 0 0)), (4, .int (nI (i + 1)))]) C.1 C.2.1 dX3_worst_63 rfl hl (by decide) rfl (fun ls hl => ?_)
        refine q_iinc (d := 1) (lv' := [(4, .int (nI (i + 1 + 1))), (2, .long (xSum (pX X) (nI (i + 1)))), (1, .int (nI (i + 1))), (5, .long (xSum (pX X) (nI (i + 1)))), (0, .ref (A 0 0))]) C dX3_worst_64 (by decide) hl (k := 4) rfl (by decide) rfl (fun ls hl => ?_)
        refine lv_goto (tgt := 31) C.1 C.2.1 dX3_worst_67 (by decide) ?_
        exact ih (i + 1) (by omega) _ (by rw [xWorN, if_pos (by have h9 := Int32.not_le.mp c_55; exact (lg_cmp_gt _ _).mp h9)]) _ (by rw [xWorN, if_pos (by have h9 := Int32.not_le.mp c_55; exact (lg_cmp_gt _ _).mp h9)]) _ rfl (by omega) ls _ _ (lv_sub hl [4, 2, 1, 0] rfl) hW
    exact L_31 (lNm (xL X) - 0 + 1) 0 (by omega) _ rfl _ rfl _ rfl (by omega) ls _ _ (lv_sub hl [3, 2, 1, 0] rfl) hW
  exact q_thrNSE C hst hE hW hLk hnt hl.1 (text := "there are no names") (List.mem_of_getElem? (i := 20) rfl) dX3_worst_10 dX3_worst_13 dX3_worst_14 dX3_worst_16 dX3_worst_19 ⟨(Nat.le_of_ble_eq_true rfl), (Nat.le_of_ble_eq_true rfl), (Nat.le_of_ble_eq_true rfl), (Nat.le_of_ble_eq_true rfl)⟩ (Nat.le_of_ble_eq_true rfl) (Nat.le_of_ble_eq_true rfl) () ⟨0, rfl, by unfold xWorst; exact if_pos (show lNm (xL X) = 0 by omega)⟩ rfl

theorem hd_X3_missShare : yX3_missShare.cls = RX3 ∧ yX3_missShare.cls ≠ "java/lang/invoke/MethodHandle" ∧ yX3_missShare.cls ≠ "java/lang/invoke/VarHandle" ∧ (parseMethodDescriptor yX3_missShare.desc).map (fun d => d.parameters.length) = some 0 := by decide +kernel
set_option maxHeartbeats 4000000 in
set_option maxRecDepth 100000 in
theorem c_X3_missShare (l : Launch) (hst : l.stackTraces = false) (D : va_G) (g : Nat → ClassId) (ev : Nat × Nat × (Nat → Nat)) (A : Nat → Nat → Nat) (X : XS) (hX : XOK ev.1 X)  (sz : Nat) : qXf l yX3_missShare (.code yX3_missShare cX3_missShare 4 (some .float) :: GW) ({ frames := 6, cells := 1, slots := 6, locals := 90 } : Room) D g ev [.ref (A 0 0)] (wX g A X) sz (fun (r : UInt32) (_ : Unit) => ∃ rr : UInt32, rr = r ∧ xShareF (pX X) = (0, rr)) (fun E (_ : Unit) => ∃ k, ([arN] : List String)[k]? = some E ∧ xShareF (pX X) = (k + 1, 0)) (fun (_ : Unit) => (wX g A X)) 1 6 := by
  refine qx_entry (cc := cX3_missShare) (nL := 4) (ret := (some .float)) rfl (by decide) (Nat.le_of_ble_eq_true rfl) (fun pp ee ss mm bb mt kc ls C hRt hLk hin hsz hW hE hnt hl => ?_)
  have hl : lv_has ls 4 [(0, .ref (A 0 0))] := hl
  have hW : qW D g (va_A (wX g A X) sz) ss.heap ss ([((A 0 0), .inr (6, [.ref (A 0 1), .ref (A 0 2), .ref (A 0 3), .ref (A 0 4), .ref (A 0 5)]))] ++ ((wL g (A 0 1) (A 1) (xL X)) ++ ((wC g (A 0 2) (A 2) (xC X)) ++ ((wC g (A 0 3) (A 3) (xR X)) ++ ((wAL g (A 0 4) (xl X)) ++ ((wAL g (A 0 5) (xa X)) ++ (wP  (xE X)))))))) ss.heap [] := hW
  have hN := hX.1.1
  have hN9 : lNm (sL (pX X)) ≤ 12 := hN
  have hlen := hX.len
  refine lv_aload_n C.1 C.2.1 dX3_missShare_0 rfl (lv_at hl 0 rfl) ?_
  refine q_get (v := .ref (A 0 5)) C hW 0 rfl rfl 4 (by decide) gu_X3 (C.2.2.2.2 _ fl_X3_33) rfl rfl dX3_missShare_1 ?_
  refine q_callFi (rest := []) C hE.2.2.2.2.2.2.2.1.2.2.2 (c_AL_isEmpty l D g (A 0 5) (xa X) (by have := hX.len; omega) _) (gw_F ml_X3_219 se_Jx4a65c_Jxbd725_isEmpty_0767_Jx4a65c_isEmpty_aae02 im_Jx4a65c_isEmpty_aae02 ini_Jx4a65c cd_Jx4a65c_isEmpty_aae02 rfl) rfl rfl rfl hd_xLemp ⟨(Nat.le_of_ble_eq_true rfl), (Nat.le_of_ble_eq_true rfl)⟩ hW pm_5 (fun _ => ([((A 0 0), .inr (6, [.ref (A 0 1), .ref (A 0 2), .ref (A 0 3), .ref (A 0 4), .ref (A 0 5)]))] ++ ((wL g (A 0 1) (A 1) (xL X)) ++ ((wC g (A 0 2) (A 2) (xC X)) ++ ((wC g (A 0 3) (A 3) (xR X)) ++ ((wAL g (A 0 4) (xl X)) ++ ((wAL g (A 0 5) (xa X)) ++ (wP  (xE X))))))))) (fun _ => pm_5) rfl rfl hl.1 rfl (Nat.le_of_ble_eq_true rfl) ⟨(Nat.le_of_ble_eq_true rfl), (Nat.le_of_ble_eq_true rfl)⟩ dX3_missShare_4 (fun r_1 _ H locs e_1 hW => ?_)
  subst e_1
  refine q_bt (b := decide (alC (xa X) = 0)) (tgt := 22) C dX3_missShare_9 (by decide) (fun c_9 => ?_) (fun c_9 => ?_)
  · have hpos : 0 < alC (xa X) := Nat.pos_of_ne_zero (of_decide_eq_false c_9)
    refine lv_iconst (v := nI 0) C.1 C.2.1 dX3_missShare_22 (by decide) ?_
    refine lv_istore_n (lv' := [(1, .int (nI 0)), (0, .ref (A 0 0))]) C.1 C.2.1 dX3_missShare_23 rfl hl (by decide) rfl (fun ls hl => ?_)
    refine lv_iconst (v := nI 0) C.1 C.2.1 dX3_missShare_24 (by decide) ?_
    refine lv_istore_n (lv' := [(2, .int (nI 0)), (1, .int (nI 0)), (0, .ref (A 0 0))]) C.1 C.2.1 dX3_missShare_25 rfl hl (by decide) rfl (fun ls hl => ?_)
    have L_26 : ∀ (nf : Nat) (i : Nat) (hi : i ≤ alC (xa X)) (x1 : Int32) (e1 : x1 = nI (xMissN (pX X) i)) (x2 : Int32) (e2 : x2 = nI i) (hmu : alC (xa X) - i < nf) (ls : Array Slot) (H : Heap) (locs : List Loc), lv_has ls 4 [(0, .ref (A 0 0)), (1, .int x1), (2, .int x2)] → qW D g (va_A (wX g A X) sz) ss.heap ss ([((A 0 0), .inr (6, [.ref (A 0 1), .ref (A 0 2), .ref (A 0 3), .ref (A 0 4), .ref (A 0 5)]))] ++ ((wL g (A 0 1) (A 1) (xL X)) ++ ((wC g (A 0 2) (A 2) (xC X)) ++ ((wC g (A 0 3) (A 3) (xR X)) ++ ((wAL g (A 0 4) (xl X)) ++ ((wAL g (A 0 5) (xa X)) ++ (wP  (xE X)))))))) H locs → W pp l ee ({ frames := 6, cells := 1, slots := 6, locals := 90 } : Room) ss mm [.ref (A 0 0)].toArray bb mt kc H locs 0 0 (vx_MQ bb (va_Qf (fun (r : UInt32) (_ : Unit) => ∃ rr : UInt32, rr = r ∧ xShareF (pX X) = (0, rr)) (qB D g (wX g A X) sz (fun (_ : Unit) => (wX g A X))) (va_A (wX g A X) sz)) (qXX D g (wX g A X) sz (fun E (_ : Unit) => ∃ k, ([arN] : List String)[k]? = some E ∧ xShareF (pX X) = (k + 1, 0)) (fun (_ : Unit) => (wX g A X))) [.ref (A 0 0)].toArray ss 1 6 (va_A (wX g A X) sz)) (F0 mm 26 ls []) := by
      intro nf
      induction nf with
      | zero =>
        intro i hi x1 e1 x2 e2 hmu ls H locs hl hW
        exact absurd hmu (by omega)
      | succ nf ih =>
        intro i hi x1 e1 x2 e2 hmu ls H locs hl hW
        subst e1
        subst e2
        refine lv_iload_n C.1 C.2.1 dX3_missShare_26 rfl (lv_at hl 2 rfl) ?_
        refine lv_aload_n C.1 C.2.1 dX3_missShare_27 rfl (lv_at hl 0 rfl) ?_
        refine q_get (v := .ref (A 0 5)) C hW 0 rfl rfl 4 (by decide) gu_X3 (C.2.2.2.2 _ fl_X3_33) rfl rfl dX3_missShare_28 ?_
        refine q_callFi (rest := [.int (nI i)]) C hE.2.2.2.2.2.2.2.1.1 (c_AL_size l D g (A 0 5) (xa X) _) (gw_F ml_X3_141 se_Jx4a65c_Jxbd725_size_0699_Jx4a65c_size_8abf5 im_Jx4a65c_size_8abf5 ini_Jx4a65c cd_Jx4a65c_size_8abf5 rfl) rfl rfl rfl hd_xLsize ⟨(Nat.le_of_ble_eq_true rfl), (Nat.le_of_ble_eq_true rfl)⟩ hW pm_5 (fun _ => ([((A 0 0), .inr (6, [.ref (A 0 1), .ref (A 0 2), .ref (A 0 3), .ref (A 0 4), .ref (A 0 5)]))] ++ ((wL g (A 0 1) (A 1) (xL X)) ++ ((wC g (A 0 2) (A 2) (xC X)) ++ ((wC g (A 0 3) (A 3) (xR X)) ++ ((wAL g (A 0 4) (xl X)) ++ ((wAL g (A 0 5) (xa X)) ++ (wP  (xE X))))))))) (fun _ => pm_5) rfl rfl hl.1 rfl (Nat.le_of_ble_eq_true rfl) ⟨(Nat.le_of_ble_eq_true rfl), (Nat.le_of_ble_eq_true rfl)⟩ dX3_missShare_31 (fun r_2 _ H locs e_2 hW => ?_)
        subst e_2
        refine q_ge (tgt := 77) C (by omega) (by omega) dX3_missShare_36 (by decide) (fun c_36 => ?_) (fun c_36 => ?_)
        · refine lv_iload_n C.1 C.2.1 dX3_missShare_77 rfl (lv_at hl 1 rfl) ?_
          refine lv_i2f (x := (nI (xMissN (pX X) i))) C.1 C.2.1 dX3_missShare_78 ?_
          refine lv_aload_n C.1 C.2.1 dX3_missShare_79 rfl (lv_at hl 0 rfl) ?_
          refine q_get (v := .ref (A 0 5)) C hW 0 rfl rfl 4 (by decide) gu_X3 (C.2.2.2.2 _ fl_X3_33) rfl rfl dX3_missShare_80 ?_
          refine q_callFi (rest := [.float (FP.i2f (nI (xMissN (pX X) i)))]) C hE.2.2.2.2.2.2.2.1.1 (c_AL_size l D g (A 0 5) (xa X) _) (gw_F ml_X3_141 se_Jx4a65c_Jxbd725_size_0699_Jx4a65c_size_8abf5 im_Jx4a65c_size_8abf5 ini_Jx4a65c cd_Jx4a65c_size_8abf5 rfl) rfl rfl rfl hd_xLsize ⟨(Nat.le_of_ble_eq_true rfl), (Nat.le_of_ble_eq_true rfl)⟩ hW pm_5 (fun _ => ([((A 0 0), .inr (6, [.ref (A 0 1), .ref (A 0 2), .ref (A 0 3), .ref (A 0 4), .ref (A 0 5)]))] ++ ((wL g (A 0 1) (A 1) (xL X)) ++ ((wC g (A 0 2) (A 2) (xC X)) ++ ((wC g (A 0 3) (A 3) (xR X)) ++ ((wAL g (A 0 4) (xl X)) ++ ((wAL g (A 0 5) (xa X)) ++ (wP  (xE X))))))))) (fun _ => pm_5) rfl rfl hl.1 rfl (Nat.le_of_ble_eq_true rfl) ⟨(Nat.le_of_ble_eq_true rfl), (Nat.le_of_ble_eq_true rfl)⟩ dX3_missShare_83 (fun r_3 _ H locs e_3 hW => ?_)
          subst e_3
          refine lv_i2f (x := (nI (alC (xa X)))) C.1 C.2.1 dX3_missShare_88 ?_
          refine lv_fdiv C.1 C.2.1 dX3_missShare_89 (n32_of (fdiv_ok _ hpos (by omega))) ?_
          exact vx_ret (q_fret C hRt hLk hW () ⟨_, rfl, by obtain rfl : i = alC (xa X) := (by omega); unfold xShareF; rw [if_neg (by rw [← hX.alen]; omega), ← hX.alen]⟩ rfl (Nat.le_of_ble_eq_true rfl) (Nat.le_of_ble_eq_true rfl) dX3_missShare_90)
        refine lv_aload_n C.1 C.2.1 dX3_missShare_39 rfl (lv_at hl 0 rfl) ?_
        refine q_get (v := .ref (A 0 5)) C hW 0 rfl rfl 4 (by decide) gu_X3 (C.2.2.2.2 _ fl_X3_33) rfl rfl dX3_missShare_40 ?_
        refine lv_iload_n C.1 C.2.1 dX3_missShare_43 rfl (lv_at hl 2 rfl) ?_
        obtain ⟨p_44, p_44_1, p_44_2, p_44_3, p_44_4, p_44_5⟩ := hX.ac (i := i) (by omega)
        refine q_callFq (rest := []) C hE.2.2.2.2.2.2.2.1.2.1 (c_AL_get l D g (A 0 5) (xa X) i (by omega) hX.2.2.1.2.1 (by have := hX.2.2.1.2.2.2; omega) _) (gw_F ml_X3_148 se_Jx4a65c_Jxbd725_get_3715_Jx4a65c_get_915e3 im_Jx4a65c_get_915e3 ini_Jx4a65c cd_Jx4a65c_get_915e3 rfl) rfl rfl rfl hd_xLget ⟨(Nat.le_of_ble_eq_true rfl), (Nat.le_of_ble_eq_true rfl)⟩ hW pm_5 (fun _ => ([((A 0 0), .inr (6, [.ref (A 0 1), .ref (A 0 2), .ref (A 0 3), .ref (A 0 4), .ref (A 0 5)]))] ++ ((wL g (A 0 1) (A 1) (xL X)) ++ ((wC g (A 0 2) (A 2) (xC X)) ++ ((wC g (A 0 3) (A 3) (xR X)) ++ ((wAL g (A 0 4) (xl X)) ++ ((wAL g (A 0 5) (xa X)) ++ (wP  (xE X))))))))) (fun _ => pm_5) rfl rfl hl.1 rfl (Nat.le_of_ble_eq_true rfl) ⟨(Nat.le_of_ble_eq_true rfl), (Nat.le_of_ble_eq_true rfl)⟩ dX3_missShare_44 (fun r_4 _ H locs e_4 hW => ?_)
        rw [p_44_1] at e_4
        subst e_4
        refine q_castM C hW (C.2.2.2.2 _ cl_X3_113) (z := p_44.2) (wX_mem p_44_3) dX3_missShare_49 ?_
        refine q_getM (v := .int (cI (eCa p_44.2))) C hW (wX_mem p_44_3) rfl 5 (by decide) gu_X1 (C.2.2.2.2 _ fl_X3_159) rfl rfl dX3_missShare_52 ?_
        refine lv_istore_n (lv' := [(3, .int (cI (eCa p_44.2))), (0, .ref (A 0 0)), (1, .int (nI (xMissN (pX X) i))), (2, .int (nI i))]) C.1 C.2.1 dX3_missShare_55 rfl hl (by decide) rfl (fun ls hl => ?_)
        refine lv_iload_n C.1 C.2.1 dX3_missShare_56 rfl (lv_at hl 0 rfl) ?_
        refine lv_bipush (v := nI 104) C.1 C.2.1 dX3_missShare_57 (by decide) ?_
        refine q_ceq (tgt := 71) (y := 104) C (by decide) dX3_missShare_59 (by decide) (fun c_59 => ?_) (fun c_59 => ?_)
        · refine q_iinc (d := 1) (lv' := [(2, .int (nI (i + 1))), (3, .int (cI (eCa p_44.2))), (0, .ref (A 0 0)), (1, .int (nI (xMissN (pX X) i)))]) C dX3_missShare_71 (by decide) hl (k := 3) rfl (by decide) rfl (fun ls hl => ?_)
          refine lv_goto (tgt := 26) C.1 C.2.1 dX3_missShare_74 (by decide) ?_
          exact ih (i + 1) (by omega) _ (by unfold xMissN; rw [cnt, if_neg (by rw [p_44_2]; unfold missB; rw [c_59]; decide), Nat.add_zero]) _ rfl (by omega) ls _ _ (lv_sub hl [2, 3, 0] rfl) hW
        refine lv_iload_n C.1 C.2.1 dX3_missShare_62 rfl (lv_at hl 0 rfl) ?_
        refine lv_bipush (v := nI 117) C.1 C.2.1 dX3_missShare_63 (by decide) ?_
        refine q_ceq (tgt := 71) (y := 117) C (by decide) dX3_missShare_65 (by decide) (fun c_65 => ?_) (fun c_65 => ?_)
        · refine q_iinc (d := 1) (lv' := [(2, .int (nI (i + 1))), (3, .int (cI (eCa p_44.2))), (0, .ref (A 0 0)), (1, .int (nI (xMissN (pX X) i)))]) C dX3_missShare_71 (by decide) hl (k := 3) rfl (by decide) rfl (fun ls hl => ?_)
          refine lv_goto (tgt := 26) C.1 C.2.1 dX3_missShare_74 (by decide) ?_
          exact ih (i + 1) (by omega) _ (by unfold xMissN; rw [cnt, if_neg (by rw [p_44_2]; unfold missB; rw [c_65]; decide), Nat.add_zero]) _ rfl (by omega) ls _ _ (lv_sub hl [2, 3, 0] rfl) hW
        refine q_iinc (d := 1) (lv' := [(1, .int (nI (xMissN (pX X) i + 1))), (3, .int (cI (eCa p_44.2))), (0, .ref (A 0 0)), (2, .int (nI i))]) C dX3_missShare_68 (by decide) hl (k := 2) rfl (by decide) rfl (fun ls hl => ?_)
        refine q_iinc (d := 1) (lv' := [(2, .int (nI (i + 1))), (1, .int (nI (xMissN (pX X) i + 1))), (3, .int (cI (eCa p_44.2))), (0, .ref (A 0 0))]) C dX3_missShare_71 (by decide) hl (k := 3) rfl (by decide) rfl (fun ls hl => ?_)
        refine lv_goto (tgt := 26) C.1 C.2.1 dX3_missShare_74 (by decide) ?_
        exact ih (i + 1) (by omega) _ (by unfold xMissN; rw [cnt, if_pos (by rw [p_44_2]; unfold missB; rw [decide_eq_true c_59, decide_eq_true c_65]; rfl)]) _ rfl (by omega) ls _ _ (lv_sub hl [3, 1, 0] rfl) hW
    exact L_26 (alC (xa X) - 0 + 1) 0 (by omega) _ rfl _ rfl (by omega) ls _ _ (lv_sub hl [2, 1, 0] rfl) hW
  exact q_thrARE C hst hE hW hLk hnt hl.1 (text := "there were no accesses") (List.mem_of_getElem? (i := 21) rfl) dX3_missShare_12 dX3_missShare_15 dX3_missShare_16 dX3_missShare_18 dX3_missShare_21 ⟨(Nat.le_of_ble_eq_true rfl), (Nat.le_of_ble_eq_true rfl), (Nat.le_of_ble_eq_true rfl), (Nat.le_of_ble_eq_true rfl)⟩ (Nat.le_of_ble_eq_true rfl) (Nat.le_of_ble_eq_true rfl) () ⟨0, rfl, by unfold xShareF; exact if_pos (by rw [← hX.alen]; exact of_decide_eq_true c_9)⟩ rfl

theorem hd_X3_meanCost : yX3_meanCost.cls = RX3 ∧ yX3_meanCost.cls ≠ "java/lang/invoke/MethodHandle" ∧ yX3_meanCost.cls ≠ "java/lang/invoke/VarHandle" ∧ (parseMethodDescriptor yX3_meanCost.desc).map (fun d => d.parameters.length) = some 0 := by decide +kernel
set_option maxHeartbeats 4000000 in
set_option maxRecDepth 100000 in
theorem c_X3_meanCost (l : Launch) (hst : l.stackTraces = false) (D : va_G) (g : Nat → ClassId) (ev : Nat × Nat × (Nat → Nat)) (A : Nat → Nat → Nat) (X : XS) (hX : XOK ev.1 X)  (sz : Nat) : qXd l yX3_meanCost (.code yX3_meanCost cX3_meanCost 4 (some .double) :: GW) ({ frames := 6, cells := 1, slots := 6, locals := 90 } : Room) D g ev [.ref (A 0 0)] (wX g A X) sz (fun (r : UInt64) (_ : Unit) => ∃ rr : UInt64, rr = r ∧ xMean (pX X) = (0, rr)) (fun E (_ : Unit) => ∃ k, ([arN] : List String)[k]? = some E ∧ xMean (pX X) = (k + 1, 0)) (fun (_ : Unit) => (wX g A X)) 1 6 := by
  refine qx_entry (cc := cX3_meanCost) (nL := 4) (ret := (some .double)) rfl (by decide) (Nat.le_of_ble_eq_true rfl) (fun pp ee ss mm bb mt kc ls C hRt hLk hin hsz hW hE hnt hl => ?_)
  have hl : lv_has ls 4 [(0, .ref (A 0 0))] := hl
  have hW : qW D g (va_A (wX g A X) sz) ss.heap ss ([((A 0 0), .inr (6, [.ref (A 0 1), .ref (A 0 2), .ref (A 0 3), .ref (A 0 4), .ref (A 0 5)]))] ++ ((wL g (A 0 1) (A 1) (xL X)) ++ ((wC g (A 0 2) (A 2) (xC X)) ++ ((wC g (A 0 3) (A 3) (xR X)) ++ ((wAL g (A 0 4) (xl X)) ++ ((wAL g (A 0 5) (xa X)) ++ (wP  (xE X)))))))) ss.heap [] := hW
  have hN := hX.1.1
  have hN9 : lNm (sL (pX X)) ≤ 12 := hN
  have hlen := hX.len
  refine lv_aload_n C.1 C.2.1 dX3_meanCost_0 rfl (lv_at hl 0 rfl) ?_
  refine q_get (v := .ref (A 0 5)) C hW 0 rfl rfl 4 (by decide) gu_X3 (C.2.2.2.2 _ fl_X3_33) rfl rfl dX3_meanCost_1 ?_
  refine q_callFi (rest := []) C hE.2.2.2.2.2.2.2.1.2.2.2 (c_AL_isEmpty l D g (A 0 5) (xa X) (by have := hX.len; omega) _) (gw_F ml_X3_219 se_Jx4a65c_Jxbd725_isEmpty_0767_Jx4a65c_isEmpty_aae02 im_Jx4a65c_isEmpty_aae02 ini_Jx4a65c cd_Jx4a65c_isEmpty_aae02 rfl) rfl rfl rfl hd_xLemp ⟨(Nat.le_of_ble_eq_true rfl), (Nat.le_of_ble_eq_true rfl)⟩ hW pm_5 (fun _ => ([((A 0 0), .inr (6, [.ref (A 0 1), .ref (A 0 2), .ref (A 0 3), .ref (A 0 4), .ref (A 0 5)]))] ++ ((wL g (A 0 1) (A 1) (xL X)) ++ ((wC g (A 0 2) (A 2) (xC X)) ++ ((wC g (A 0 3) (A 3) (xR X)) ++ ((wAL g (A 0 4) (xl X)) ++ ((wAL g (A 0 5) (xa X)) ++ (wP  (xE X))))))))) (fun _ => pm_5) rfl rfl hl.1 rfl (Nat.le_of_ble_eq_true rfl) ⟨(Nat.le_of_ble_eq_true rfl), (Nat.le_of_ble_eq_true rfl)⟩ dX3_meanCost_4 (fun r_1 _ H locs e_1 hW => ?_)
  subst e_1
  refine q_bt (b := decide (alC (xa X) = 0)) (tgt := 22) C dX3_meanCost_9 (by decide) (fun c_9 => ?_) (fun c_9 => ?_)
  · have hpos : 0 < alC (xa X) := Nat.pos_of_ne_zero (of_decide_eq_false c_9)
    refine lv_lconst (v := 0) C.1 C.2.1 dX3_meanCost_22 rfl ?_
    refine lv_lstore_n (lv' := [(1, .long 0), (0, .ref (A 0 0))]) C.1 C.2.1 dX3_meanCost_23 rfl hl (by decide) rfl (fun ls hl => ?_)
    refine lv_iconst (v := nI 0) C.1 C.2.1 dX3_meanCost_24 (by decide) ?_
    refine lv_istore_n (lv' := [(3, .int (nI 0)), (1, .long 0), (0, .ref (A 0 0))]) C.1 C.2.1 dX3_meanCost_25 rfl hl (by decide) rfl (fun ls hl => ?_)
    have L_26 : ∀ (nf : Nat) (i : Nat) (hi : i ≤ alC (xa X)) (x1 : Int64) (e1 : x1 = xTotN (pX X) i) (x3 : Int32) (e3 : x3 = nI i) (hmu : alC (xa X) - i < nf) (ls : Array Slot) (H : Heap) (locs : List Loc), lv_has ls 4 [(0, .ref (A 0 0)), (1, .long x1), (3, .int x3)] → qW D g (va_A (wX g A X) sz) ss.heap ss ([((A 0 0), .inr (6, [.ref (A 0 1), .ref (A 0 2), .ref (A 0 3), .ref (A 0 4), .ref (A 0 5)]))] ++ ((wL g (A 0 1) (A 1) (xL X)) ++ ((wC g (A 0 2) (A 2) (xC X)) ++ ((wC g (A 0 3) (A 3) (xR X)) ++ ((wAL g (A 0 4) (xl X)) ++ ((wAL g (A 0 5) (xa X)) ++ (wP  (xE X)))))))) H locs → W pp l ee ({ frames := 6, cells := 1, slots := 6, locals := 90 } : Room) ss mm [.ref (A 0 0)].toArray bb mt kc H locs 0 0 (vx_MQ bb (va_Qd (fun (r : UInt64) (_ : Unit) => ∃ rr : UInt64, rr = r ∧ xMean (pX X) = (0, rr)) (qB D g (wX g A X) sz (fun (_ : Unit) => (wX g A X))) (va_A (wX g A X) sz)) (qXX D g (wX g A X) sz (fun E (_ : Unit) => ∃ k, ([arN] : List String)[k]? = some E ∧ xMean (pX X) = (k + 1, 0)) (fun (_ : Unit) => (wX g A X))) [.ref (A 0 0)].toArray ss 1 6 (va_A (wX g A X) sz)) (F0 mm 26 ls []) := by
      intro nf
      induction nf with
      | zero =>
        intro i hi x1 e1 x3 e3 hmu ls H locs hl hW
        exact absurd hmu (by omega)
      | succ nf ih =>
        intro i hi x1 e1 x3 e3 hmu ls H locs hl hW
        subst e1
        subst e3
        refine lv_iload_n C.1 C.2.1 dX3_meanCost_26 rfl (lv_at hl 2 rfl) ?_
        refine lv_aload_n C.1 C.2.1 dX3_meanCost_27 rfl (lv_at hl 0 rfl) ?_
        refine q_get (v := .ref (A 0 5)) C hW 0 rfl rfl 4 (by decide) gu_X3 (C.2.2.2.2 _ fl_X3_33) rfl rfl dX3_meanCost_28 ?_
        refine q_callFi (rest := [.int (nI i)]) C hE.2.2.2.2.2.2.2.1.1 (c_AL_size l D g (A 0 5) (xa X) _) (gw_F ml_X3_141 se_Jx4a65c_Jxbd725_size_0699_Jx4a65c_size_8abf5 im_Jx4a65c_size_8abf5 ini_Jx4a65c cd_Jx4a65c_size_8abf5 rfl) rfl rfl rfl hd_xLsize ⟨(Nat.le_of_ble_eq_true rfl), (Nat.le_of_ble_eq_true rfl)⟩ hW pm_5 (fun _ => ([((A 0 0), .inr (6, [.ref (A 0 1), .ref (A 0 2), .ref (A 0 3), .ref (A 0 4), .ref (A 0 5)]))] ++ ((wL g (A 0 1) (A 1) (xL X)) ++ ((wC g (A 0 2) (A 2) (xC X)) ++ ((wC g (A 0 3) (A 3) (xR X)) ++ ((wAL g (A 0 4) (xl X)) ++ ((wAL g (A 0 5) (xa X)) ++ (wP  (xE X))))))))) (fun _ => pm_5) rfl rfl hl.1 rfl (Nat.le_of_ble_eq_true rfl) ⟨(Nat.le_of_ble_eq_true rfl), (Nat.le_of_ble_eq_true rfl)⟩ dX3_meanCost_31 (fun r_2 _ H locs e_2 hW => ?_)
        subst e_2
        refine q_ge (tgt := 65) C (by omega) (by omega) dX3_meanCost_36 (by decide) (fun c_36 => ?_) (fun c_36 => ?_)
        · refine lv_lload_n C.1 C.2.1 dX3_meanCost_65 rfl (lv_at hl 1 rfl) ?_
          refine lv_l2d (x := (xTotN (pX X) i)) C.1 C.2.1 dX3_meanCost_66 ?_
          refine lv_aload_n C.1 C.2.1 dX3_meanCost_67 rfl (lv_at hl 0 rfl) ?_
          refine q_get (v := .ref (A 0 5)) C hW 0 rfl rfl 4 (by decide) gu_X3 (C.2.2.2.2 _ fl_X3_33) rfl rfl dX3_meanCost_68 ?_
          refine q_callFi (rest := [.double (FP.l2d (xTotN (pX X) i))]) C hE.2.2.2.2.2.2.2.1.1 (c_AL_size l D g (A 0 5) (xa X) _) (gw_F ml_X3_141 se_Jx4a65c_Jxbd725_size_0699_Jx4a65c_size_8abf5 im_Jx4a65c_size_8abf5 ini_Jx4a65c cd_Jx4a65c_size_8abf5 rfl) rfl rfl rfl hd_xLsize ⟨(Nat.le_of_ble_eq_true rfl), (Nat.le_of_ble_eq_true rfl)⟩ hW pm_5 (fun _ => ([((A 0 0), .inr (6, [.ref (A 0 1), .ref (A 0 2), .ref (A 0 3), .ref (A 0 4), .ref (A 0 5)]))] ++ ((wL g (A 0 1) (A 1) (xL X)) ++ ((wC g (A 0 2) (A 2) (xC X)) ++ ((wC g (A 0 3) (A 3) (xR X)) ++ ((wAL g (A 0 4) (xl X)) ++ ((wAL g (A 0 5) (xa X)) ++ (wP  (xE X))))))))) (fun _ => pm_5) rfl rfl hl.1 rfl (Nat.le_of_ble_eq_true rfl) ⟨(Nat.le_of_ble_eq_true rfl), (Nat.le_of_ble_eq_true rfl)⟩ dX3_meanCost_71 (fun r_3 _ H locs e_3 hW => ?_)
          subst e_3
          refine lv_i2d (x := (nI (alC (xa X)))) C.1 C.2.1 dX3_meanCost_76 ?_
          refine lv_ddiv C.1 C.2.1 dX3_meanCost_77 (n64_of (ddiv_ok _ hpos (by omega))) ?_
          exact vx_ret (q_dret C hRt hLk hW () ⟨_, rfl, by obtain rfl : i = alC (xa X) := (by omega); unfold xMean; rw [if_neg (by rw [← hX.alen]; omega), ← hX.alen]⟩ rfl (Nat.le_of_ble_eq_true rfl) (Nat.le_of_ble_eq_true rfl) dX3_meanCost_78)
        refine lv_lload_n C.1 C.2.1 dX3_meanCost_39 rfl (lv_at hl 1 rfl) ?_
        refine lv_aload_n C.1 C.2.1 dX3_meanCost_40 rfl (lv_at hl 0 rfl) ?_
        refine q_get (v := .ref (A 0 5)) C hW 0 rfl rfl 4 (by decide) gu_X3 (C.2.2.2.2 _ fl_X3_33) rfl rfl dX3_meanCost_41 ?_
        refine lv_iload_n C.1 C.2.1 dX3_meanCost_44 rfl (lv_at hl 2 rfl) ?_
        obtain ⟨p_45, p_45_1, p_45_2, p_45_3, p_45_4, p_45_5⟩ := hX.ac (i := i) (by omega)
        refine q_callFq (rest := [.long (xTotN (pX X) i)]) C hE.2.2.2.2.2.2.2.1.2.1 (c_AL_get l D g (A 0 5) (xa X) i (by omega) hX.2.2.1.2.1 (by have := hX.2.2.1.2.2.2; omega) _) (gw_F ml_X3_148 se_Jx4a65c_Jxbd725_get_3715_Jx4a65c_get_915e3 im_Jx4a65c_get_915e3 ini_Jx4a65c cd_Jx4a65c_get_915e3 rfl) rfl rfl rfl hd_xLget ⟨(Nat.le_of_ble_eq_true rfl), (Nat.le_of_ble_eq_true rfl)⟩ hW pm_5 (fun _ => ([((A 0 0), .inr (6, [.ref (A 0 1), .ref (A 0 2), .ref (A 0 3), .ref (A 0 4), .ref (A 0 5)]))] ++ ((wL g (A 0 1) (A 1) (xL X)) ++ ((wC g (A 0 2) (A 2) (xC X)) ++ ((wC g (A 0 3) (A 3) (xR X)) ++ ((wAL g (A 0 4) (xl X)) ++ ((wAL g (A 0 5) (xa X)) ++ (wP  (xE X))))))))) (fun _ => pm_5) rfl rfl hl.1 rfl (Nat.le_of_ble_eq_true rfl) ⟨(Nat.le_of_ble_eq_true rfl), (Nat.le_of_ble_eq_true rfl)⟩ dX3_meanCost_45 (fun r_4 _ H locs e_4 hW => ?_)
        rw [p_45_1] at e_4
        subst e_4
        refine q_castM C hW (C.2.2.2.2 _ cl_X3_113) (z := p_45.2) (wX_mem p_45_3) dX3_meanCost_50 ?_
        refine q_getM (v := .int (nI (eCs p_45.2))) C hW (wX_mem p_45_3) rfl 4 (by decide) gu_X1 (C.2.2.2.2 _ fl_X3_152) rfl rfl dX3_meanCost_53 ?_
        refine lv_i2l (v := (nI (eCs p_45.2)).toInt64) C.1 C.2.1 dX3_meanCost_56 rfl ?_
        refine lv_ladd C.1 C.2.1 dX3_meanCost_57 ?_
        refine lv_lstore_n (lv' := [(1, .long ((xTotN (pX X) i) + ((nI (eCs p_45.2)).toInt64))), (0, .ref (A 0 0)), (3, .int (nI i))]) C.1 C.2.1 dX3_meanCost_58 rfl hl (by decide) rfl (fun ls hl => ?_)
        refine q_iinc (d := 1) (lv' := [(3, .int (nI (i + 1))), (1, .long ((xTotN (pX X) i) + ((nI (eCs p_45.2)).toInt64))), (0, .ref (A 0 0))]) C dX3_meanCost_59 (by decide) hl (k := 2) rfl (by decide) rfl (fun ls hl => ?_)
        refine lv_goto (tgt := 26) C.1 C.2.1 dX3_meanCost_62 (by decide) ?_
        exact ih (i + 1) (by omega) _ (by unfold xTotN; rw [sumL, if_pos rfl, p_45_2]) _ rfl (by omega) ls _ _ (lv_sub hl [2, 1, 0] rfl) hW
    exact L_26 (alC (xa X) - 0 + 1) 0 (by omega) _ rfl _ rfl (by omega) ls _ _ (lv_sub hl [2, 1, 0] rfl) hW
  exact q_thrARE C hst hE hW hLk hnt hl.1 (text := "there were no accesses") (List.mem_of_getElem? (i := 21) rfl) dX3_meanCost_12 dX3_meanCost_15 dX3_meanCost_16 dX3_meanCost_18 dX3_meanCost_21 ⟨(Nat.le_of_ble_eq_true rfl), (Nat.le_of_ble_eq_true rfl), (Nat.le_of_ble_eq_true rfl), (Nat.le_of_ble_eq_true rfl)⟩ (Nat.le_of_ble_eq_true rfl) (Nat.le_of_ble_eq_true rfl) () ⟨0, rfl, by unfold xMean; exact if_pos (by rw [← hX.alen]; exact of_decide_eq_true c_9)⟩ rfl
