/-! The class: states. -/
theorem hd_X3_state : yX3_state.cls = RX3 ∧ yX3_state.cls ≠ "java/lang/invoke/MethodHandle" ∧ yX3_state.cls ≠ "java/lang/invoke/VarHandle" ∧ (parseMethodDescriptor yX3_state.desc).map (fun d => d.parameters.length) = some 2 := by decide +kernel
set_option maxHeartbeats 4000000 in
set_option maxRecDepth 100000 in
theorem c_X3_state (l : Launch) (hst : l.stackTraces = false) (D : va_G) (g : Nat → ClassId) (ev : Nat × Nat × (Nat → Nat)) (A : Nat → Nat → Nat) (X : XS) (hX : XOK ev.1 X) (v1 : Int32) (v2 : Int32) (sz : Nat) : qXi l yX3_state (.code yX3_state cX3_state 3 (some .char) :: GW) ({ frames := 7, cells := 2, slots := 12, locals := 110 } : Room) D g ev [.ref (A 0 0), .int v1, .int v2] (wX g A X) sz (fun (r : Int32) (_ : Unit) => ∃ rr : UInt16, cI rr = r ∧ xState (pX X) v1 v2 = (0, rr)) (fun E (_ : Unit) => ∃ k, ([ioN, iaN] : List String)[k]? = some E ∧ xState (pX X) v1 v2 = (k + 1, 0)) (fun (_ : Unit) => (wX g A X)) 2 12 := by
  refine qx_entry (cc := cX3_state) (nL := 3) (ret := (some .char)) rfl (by decide) (Nat.le_of_ble_eq_true rfl) (fun pp ee ss mm bb mt kc ls C hRt hLk hin hsz hW hE hnt hl => ?_)
  have hl : lv_has ls 3 [(0, .ref (A 0 0)), (1, .int v1), (2, .int v2)] := hl
  have hW : qW D g (va_A (wX g A X) sz) ss.heap ss ([((A 0 0), .inr (6, [.ref (A 0 1), .ref (A 0 2), .ref (A 0 3), .ref (A 0 4), .ref (A 0 5)]))] ++ ((wL g (A 0 1) (A 1) (xL X)) ++ ((wC g (A 0 2) (A 2) (xC X)) ++ ((wC g (A 0 3) (A 3) (xR X)) ++ ((wAL g (A 0 4) (xl X)) ++ ((wAL g (A 0 5) (xa X)) ++ (wP  (xE X)))))))) ss.heap [] := hW
  have hN := hX.1.1
  have hN9 : lNm (sL (pX X)) ≤ 12 := hN
  refine lv_iload_n C.1 C.2.1 dX3_state_0 rfl (lv_at hl 1 rfl) ?_
  refine qx_callSv (rest := []) C hE hLk hnt (c_X3_checkCore l hst D g ev v1 _) (gw_S ml_X3_119 sm_X3_checkCore ini_X3 cd_X3_checkCore rfl) rfl rfl rfl hd_X3_checkCore ⟨(Nat.le_of_ble_eq_true rfl), (Nat.le_of_ble_eq_true rfl)⟩ hW (wc := []) (List.Perm.refl _) (fun _ => ([((A 0 0), .inr (6, [.ref (A 0 1), .ref (A 0 2), .ref (A 0 3), .ref (A 0 4), .ref (A 0 5)]))] ++ ((wL g (A 0 1) (A 1) (xL X)) ++ ((wC g (A 0 2) (A 2) (xC X)) ++ ((wC g (A 0 3) (A 3) (xR X)) ++ ((wAL g (A 0 4) (xl X)) ++ ((wAL g (A 0 5) (xa X)) ++ (wP  (xE X))))))))) (fun _ => List.Perm.refl _) hl.1 rfl (Nat.le_of_ble_eq_true rfl) ⟨(Nat.le_of_ble_eq_true rfl), (Nat.le_of_ble_eq_true rfl)⟩ ⟨(Nat.le_of_ble_eq_true rfl), (Nat.le_of_ble_eq_true rfl)⟩ dX3_state_1 (fun E _ h => ⟨(), by obtain ⟨rfl, h0⟩ := h; exact ⟨0, rfl, by unfold xState; rw [h0]⟩, rfl⟩) (fun u_1 H locs e_1 hW => ?_)
  obtain ⟨c, hc, rfl⟩ := e_1
  refine lv_iload_n C.1 C.2.1 dX3_state_4 rfl (lv_at hl 2 rfl) ?_
  refine qx_callSv (rest := []) C hE hLk hnt (c_X3_checkLine l hst D g ev v2 _) (gw_S ml_X3_163 sm_X3_checkLine ini_X3 cd_X3_checkLine rfl) rfl rfl rfl hd_X3_checkLine ⟨(Nat.le_of_ble_eq_true rfl), (Nat.le_of_ble_eq_true rfl)⟩ hW (wc := []) (List.Perm.refl _) (fun _ => ([((A 0 0), .inr (6, [.ref (A 0 1), .ref (A 0 2), .ref (A 0 3), .ref (A 0 4), .ref (A 0 5)]))] ++ ((wL g (A 0 1) (A 1) (xL X)) ++ ((wC g (A 0 2) (A 2) (xC X)) ++ ((wC g (A 0 3) (A 3) (xR X)) ++ ((wAL g (A 0 4) (xl X)) ++ ((wAL g (A 0 5) (xa X)) ++ (wP  (xE X))))))))) (fun _ => List.Perm.refl _) hl.1 rfl (Nat.le_of_ble_eq_true rfl) ⟨(Nat.le_of_ble_eq_true rfl), (Nat.le_of_ble_eq_true rfl)⟩ ⟨(Nat.le_of_ble_eq_true rfl), (Nat.le_of_ble_eq_true rfl)⟩ dX3_state_5 (fun E _ h => ⟨(), by obtain ⟨rfl, h0⟩ := h; exact ⟨1, rfl, by unfold xState; rw [inR_nI hc (by decide)]; dsimp only; rw [h0]⟩, rfl⟩) (fun u_2 H locs e_2 hW => ?_)
  obtain ⟨k, hk, rfl⟩ := e_2
  refine lv_aload_n C.1 C.2.1 dX3_state_8 rfl (lv_at hl 0 rfl) ?_
  refine q_get (v := .ref (A 0 2)) C hW 0 rfl rfl 1 (by decide) gu_X3 (C.2.2.2.2 _ fl_X3_19) rfl rfl dX3_state_9 ?_
  refine lv_iload_n C.1 C.2.1 dX3_state_12 rfl (lv_at hl 1 rfl) ?_
  refine lv_iload_n C.1 C.2.1 dX3_state_13 rfl (lv_at hl 2 rfl) ?_
  refine q_callVi (rest := []) C (c_X0_stateOf l D g (A 0 2) (A 2) (xC X) c k (by omega) (by omega) _) (gw_V ml_X3_166 im_X0_stateOf se_X0_X0_stateOf ini_X0 cd_X0_stateOf rfl) rfl rfl rfl hd_X0_stateOf ⟨Nat.le_of_ble_eq_true rfl, Nat.le_of_ble_eq_true rfl⟩ hW pm_2 (fun u_3 => ([((A 0 0), .inr (6, [.ref (A 0 1), .ref (A 0 2), .ref (A 0 3), .ref (A 0 4), .ref (A 0 5)]))] ++ ((wL g (A 0 1) (A 1) (xL X)) ++ ((wC g (A 0 2) (A 2) u_3) ++ ((wC g (A 0 3) (A 3) (xR X)) ++ ((wAL g (A 0 4) (xl X)) ++ ((wAL g (A 0 5) (xa X)) ++ (wP  (xE X))))))))) (fun _ => pm_2) rfl rfl hl.1 rfl (Nat.le_of_ble_eq_true rfl) ⟨Nat.le_of_ble_eq_true rfl, Nat.le_of_ble_eq_true rfl⟩ dX3_state_14 (fun r_3 u_3 H locs e_3 hW => ?_)
  obtain ⟨rfl, rfl⟩ := e_3
  exact vx_ret (q_iret C hRt hLk hW (narC _) () ⟨_, rfl, by unfold xState; rw [inR_nI hc (by decide)]; dsimp only; rw [inR_nI hk (by decide)]; dsimp only; rfl⟩ rfl (Nat.le_of_ble_eq_true rfl) (Nat.le_of_ble_eq_true rfl) dX3_state_17)

theorem hd_X3_owner : yX3_owner.cls = RX3 ∧ yX3_owner.cls ≠ "java/lang/invoke/MethodHandle" ∧ yX3_owner.cls ≠ "java/lang/invoke/VarHandle" ∧ (parseMethodDescriptor yX3_owner.desc).map (fun d => d.parameters.length) = some 1 := by decide +kernel
set_option maxHeartbeats 4000000 in
set_option maxRecDepth 100000 in
theorem c_X3_owner (l : Launch) (hst : l.stackTraces = false) (D : va_G) (g : Nat → ClassId) (ev : Nat × Nat × (Nat → Nat)) (A : Nat → Nat → Nat) (X : XS) (hX : XOK ev.1 X) (v : Int32) (sz : Nat) : qXi l yX3_owner (.code yX3_owner cX3_owner 3 (some .int) :: GW) ({ frames := 7, cells := 2, slots := 12, locals := 110 } : Room) D g ev [.ref (A 0 0), .int v] (wX g A X) sz (fun (r : Int32) (_ : Unit) => ∃ rr : Nat, nI rr = r ∧ xOwner (pX X) v = (0, rr)) (fun E (_ : Unit) => ∃ k, ([iaN, nsN] : List String)[k]? = some E ∧ xOwner (pX X) v = (k + 1, 0)) (fun (_ : Unit) => (wX g A X)) 2 12 := by
  refine qx_entry (cc := cX3_owner) (nL := 3) (ret := (some .int)) rfl (by decide) (Nat.le_of_ble_eq_true rfl) (fun pp ee ss mm bb mt kc ls C hRt hLk hin hsz hW hE hnt hl => ?_)
  have hl : lv_has ls 3 [(0, .ref (A 0 0)), (1, .int v)] := hl
  have hW : qW D g (va_A (wX g A X) sz) ss.heap ss ([((A 0 0), .inr (6, [.ref (A 0 1), .ref (A 0 2), .ref (A 0 3), .ref (A 0 4), .ref (A 0 5)]))] ++ ((wL g (A 0 1) (A 1) (xL X)) ++ ((wC g (A 0 2) (A 2) (xC X)) ++ ((wC g (A 0 3) (A 3) (xR X)) ++ ((wAL g (A 0 4) (xl X)) ++ ((wAL g (A 0 5) (xa X)) ++ (wP  (xE X)))))))) ss.heap [] := hW
  have hN := hX.1.1
  have hN9 : lNm (sL (pX X)) ≤ 12 := hN
  refine lv_iload_n C.1 C.2.1 dX3_owner_0 rfl (lv_at hl 1 rfl) ?_
  refine qx_callSv (rest := []) C hE hLk hnt (c_X3_checkLine l hst D g ev v _) (gw_S ml_X3_163 sm_X3_checkLine ini_X3 cd_X3_checkLine rfl) rfl rfl rfl hd_X3_checkLine ⟨(Nat.le_of_ble_eq_true rfl), (Nat.le_of_ble_eq_true rfl)⟩ hW (wc := []) (List.Perm.refl _) (fun _ => ([((A 0 0), .inr (6, [.ref (A 0 1), .ref (A 0 2), .ref (A 0 3), .ref (A 0 4), .ref (A 0 5)]))] ++ ((wL g (A 0 1) (A 1) (xL X)) ++ ((wC g (A 0 2) (A 2) (xC X)) ++ ((wC g (A 0 3) (A 3) (xR X)) ++ ((wAL g (A 0 4) (xl X)) ++ ((wAL g (A 0 5) (xa X)) ++ (wP  (xE X))))))))) (fun _ => List.Perm.refl _) hl.1 rfl (Nat.le_of_ble_eq_true rfl) ⟨(Nat.le_of_ble_eq_true rfl), (Nat.le_of_ble_eq_true rfl)⟩ ⟨(Nat.le_of_ble_eq_true rfl), (Nat.le_of_ble_eq_true rfl)⟩ dX3_owner_1 (fun E _ h => ⟨(), by obtain ⟨rfl, h0⟩ := h; exact ⟨0, rfl, by unfold xOwner; rw [h0]⟩, rfl⟩) (fun u_1 H locs e_1 hW => ?_)
  obtain ⟨k, hk, rfl⟩ := e_1
  refine lv_aload_n C.1 C.2.1 dX3_owner_4 rfl (lv_at hl 0 rfl) ?_
  refine q_get (v := .ref (A 0 2)) C hW 0 rfl rfl 1 (by decide) gu_X3 (C.2.2.2.2 _ fl_X3_19) rfl rfl dX3_owner_5 ?_
  refine lv_iload_n C.1 C.2.1 dX3_owner_8 rfl (lv_at hl 1 rfl) ?_
  refine q_callVi (rest := []) C (c_X0_ownerOf l D g (A 0 2) (A 2) (xC X) k (by omega) _) (gw_V ml_X3_170 im_X0_ownerOf se_X0_X0_ownerOf ini_X0 cd_X0_ownerOf rfl) rfl rfl rfl hd_X0_ownerOf ⟨Nat.le_of_ble_eq_true rfl, Nat.le_of_ble_eq_true rfl⟩ hW pm_2 (fun u_2 => ([((A 0 0), .inr (6, [.ref (A 0 1), .ref (A 0 2), .ref (A 0 3), .ref (A 0 4), .ref (A 0 5)]))] ++ ((wL g (A 0 1) (A 1) (xL X)) ++ ((wC g (A 0 2) (A 2) u_2) ++ ((wC g (A 0 3) (A 3) (xR X)) ++ ((wAL g (A 0 4) (xl X)) ++ ((wAL g (A 0 5) (xa X)) ++ (wP  (xE X))))))))) (fun _ => pm_2) rfl rfl hl.1 rfl (Nat.le_of_ble_eq_true rfl) ⟨Nat.le_of_ble_eq_true rfl, Nat.le_of_ble_eq_true rfl⟩ dX3_owner_9 (fun r_2 u_2 H locs e_2 hW => ?_)
  obtain ⟨rfl, rfl⟩ := e_2
  refine lv_istore_n (lv' := [(2, .int (oI (pOwner (xC X) k))), (0, .ref (A 0 0)), (1, .int (nI k))]) C.1 C.2.1 dX3_owner_12 rfl hl (by decide) rfl (fun ls hl => ?_)
  refine lv_iload_n C.1 C.2.1 dX3_owner_13 rfl (lv_at hl 0 rfl) ?_
  refine lv_iconst (v := (-1)) C.1 C.2.1 dX3_owner_14 (by decide) ?_
  refine q_one (o := pOwner (xC X) k) (tgt := 28) C (fun i9 e9 => by have := (srch_spec e9).1; omega) dX3_owner_15 (by decide) (fun j_15 o_15 => ?_) (fun o_15 => ?_)
  · rw [o_15] at hl
    have hl : lv_has ls 3 [(2, .int (nI j_15)), (0, .ref (A 0 0)), (1, .int (nI k))] := hl
    refine lv_iload_n C.1 C.2.1 dX3_owner_28 rfl (lv_at hl 0 rfl) ?_
    exact vx_ret (q_iret C hRt hLk hW rfl () ⟨_, rfl, by unfold xOwner; rw [inR_nI hk (by decide)]; dsimp only; rw [show pOwner (sC (pX X)) k = some _ from o_15]⟩ rfl (Nat.le_of_ble_eq_true rfl) (Nat.le_of_ble_eq_true rfl) dX3_owner_29)
  rw [o_15] at hl
  have hl : lv_has ls 3 [(2, .int (-1)), (0, .ref (A 0 0)), (1, .int (nI k))] := hl
  exact q_thrNSE C hst hE hW hLk hnt hl.1 (text := "the line has no owner") (List.mem_of_getElem? (i := 16) rfl) dX3_owner_18 dX3_owner_21 dX3_owner_22 dX3_owner_24 dX3_owner_27 ⟨(Nat.le_of_ble_eq_true rfl), (Nat.le_of_ble_eq_true rfl), (Nat.le_of_ble_eq_true rfl), (Nat.le_of_ble_eq_true rfl)⟩ (Nat.le_of_ble_eq_true rfl) (Nat.le_of_ble_eq_true rfl) () ⟨1, rfl, by unfold xOwner; rw [inR_nI hk (by decide)]; dsimp only; rw [show pOwner (sC (pX X)) k = none from o_15]⟩ rfl

theorem hd_X3_holders : yX3_holders.cls = RX3 ∧ yX3_holders.cls ≠ "java/lang/invoke/MethodHandle" ∧ yX3_holders.cls ≠ "java/lang/invoke/VarHandle" ∧ (parseMethodDescriptor yX3_holders.desc).map (fun d => d.parameters.length) = some 1 := by decide +kernel
set_option maxHeartbeats 4000000 in
set_option maxRecDepth 100000 in
theorem c_X3_holders (l : Launch) (hst : l.stackTraces = false) (D : va_G) (g : Nat → ClassId) (ev : Nat × Nat × (Nat → Nat)) (A : Nat → Nat → Nat) (X : XS) (hX : XOK ev.1 X) (v : Int32) (sz : Nat) : qXi l yX3_holders (.code yX3_holders cX3_holders 2 (some .int) :: GW) ({ frames := 7, cells := 1, slots := 6, locals := 110 } : Room) D g ev [.ref (A 0 0), .int v] (wX g A X) sz (fun (r : Int32) (_ : Unit) => ∃ rr : Nat, nI rr = r ∧ xHold (pX X) v = (0, rr)) (fun E (_ : Unit) => ∃ k, ([iaN] : List String)[k]? = some E ∧ xHold (pX X) v = (k + 1, 0)) (fun (_ : Unit) => (wX g A X)) 1 6 := by
  refine qx_entry (cc := cX3_holders) (nL := 2) (ret := (some .int)) rfl (by decide) (Nat.le_of_ble_eq_true rfl) (fun pp ee ss mm bb mt kc ls C hRt hLk hin hsz hW hE hnt hl => ?_)
  have hl : lv_has ls 2 [(0, .ref (A 0 0)), (1, .int v)] := hl
  have hW : qW D g (va_A (wX g A X) sz) ss.heap ss ([((A 0 0), .inr (6, [.ref (A 0 1), .ref (A 0 2), .ref (A 0 3), .ref (A 0 4), .ref (A 0 5)]))] ++ ((wL g (A 0 1) (A 1) (xL X)) ++ ((wC g (A 0 2) (A 2) (xC X)) ++ ((wC g (A 0 3) (A 3) (xR X)) ++ ((wAL g (A 0 4) (xl X)) ++ ((wAL g (A 0 5) (xa X)) ++ (wP  (xE X)))))))) ss.heap [] := hW
  have hN := hX.1.1
  have hN9 : lNm (sL (pX X)) ≤ 12 := hN
  refine lv_iload_n C.1 C.2.1 dX3_holders_0 rfl (lv_at hl 1 rfl) ?_
  refine qx_callSv (rest := []) C hE hLk hnt (c_X3_checkLine l hst D g ev v _) (gw_S ml_X3_163 sm_X3_checkLine ini_X3 cd_X3_checkLine rfl) rfl rfl rfl hd_X3_checkLine ⟨(Nat.le_of_ble_eq_true rfl), (Nat.le_of_ble_eq_true rfl)⟩ hW (wc := []) (List.Perm.refl _) (fun _ => ([((A 0 0), .inr (6, [.ref (A 0 1), .ref (A 0 2), .ref (A 0 3), .ref (A 0 4), .ref (A 0 5)]))] ++ ((wL g (A 0 1) (A 1) (xL X)) ++ ((wC g (A 0 2) (A 2) (xC X)) ++ ((wC g (A 0 3) (A 3) (xR X)) ++ ((wAL g (A 0 4) (xl X)) ++ ((wAL g (A 0 5) (xa X)) ++ (wP  (xE X))))))))) (fun _ => List.Perm.refl _) hl.1 rfl (Nat.le_of_ble_eq_true rfl) ⟨(Nat.le_of_ble_eq_true rfl), (Nat.le_of_ble_eq_true rfl)⟩ ⟨(Nat.le_of_ble_eq_true rfl), (Nat.le_of_ble_eq_true rfl)⟩ dX3_holders_1 (fun E _ h => ⟨(), by obtain ⟨rfl, h0⟩ := h; exact ⟨0, rfl, by unfold xHold; rw [h0]⟩, rfl⟩) (fun u_1 H locs e_1 hW => ?_)
  obtain ⟨k, hk, rfl⟩ := e_1
  refine lv_aload_n C.1 C.2.1 dX3_holders_4 rfl (lv_at hl 0 rfl) ?_
  refine q_get (v := .ref (A 0 2)) C hW 0 rfl rfl 1 (by decide) gu_X3 (C.2.2.2.2 _ fl_X3_19) rfl rfl dX3_holders_5 ?_
  refine lv_iload_n C.1 C.2.1 dX3_holders_8 rfl (lv_at hl 1 rfl) ?_
  refine q_callVi (rest := []) C (c_X0_countHolders l D g (A 0 2) (A 2) (xC X) k (by omega) _) (gw_V ml_X3_175 im_X0_countHolders se_X0_X0_countHolders ini_X0 cd_X0_countHolders rfl) rfl rfl rfl hd_X0_countHolders ⟨Nat.le_of_ble_eq_true rfl, Nat.le_of_ble_eq_true rfl⟩ hW pm_2 (fun u_2 => ([((A 0 0), .inr (6, [.ref (A 0 1), .ref (A 0 2), .ref (A 0 3), .ref (A 0 4), .ref (A 0 5)]))] ++ ((wL g (A 0 1) (A 1) (xL X)) ++ ((wC g (A 0 2) (A 2) u_2) ++ ((wC g (A 0 3) (A 3) (xR X)) ++ ((wAL g (A 0 4) (xl X)) ++ ((wAL g (A 0 5) (xa X)) ++ (wP  (xE X))))))))) (fun _ => pm_2) rfl rfl hl.1 rfl (Nat.le_of_ble_eq_true rfl) ⟨Nat.le_of_ble_eq_true rfl, Nat.le_of_ble_eq_true rfl⟩ dX3_holders_9 (fun r_2 u_2 H locs e_2 hW => ?_)
  obtain ⟨rfl, rfl⟩ := e_2
  exact vx_ret (q_iret C hRt hLk hW rfl () ⟨_, rfl, by unfold xHold; rw [inR_nI hk (by decide)]; dsimp only; rfl⟩ rfl (Nat.le_of_ble_eq_true rfl) (Nat.le_of_ble_eq_true rfl) dX3_holders_12)

theorem hd_X3_lines : yX3_lines.cls = RX3 ∧ yX3_lines.cls ≠ "java/lang/invoke/MethodHandle" ∧ yX3_lines.cls ≠ "java/lang/invoke/VarHandle" ∧ (parseMethodDescriptor yX3_lines.desc).map (fun d => d.parameters.length) = some 1 := by decide +kernel
set_option maxHeartbeats 4000000 in
set_option maxRecDepth 100000 in
theorem c_X3_lines (l : Launch) (hst : l.stackTraces = false) (D : va_G) (g : Nat → ClassId) (ev : Nat × Nat × (Nat → Nat)) (A : Nat → Nat → Nat) (X : XS) (hX : XOK ev.1 X) (v : Int32) (sz : Nat) : qXi l yX3_lines (.code yX3_lines cX3_lines 4 (some .int) :: GW) ({ frames := 7, cells := 1, slots := 6, locals := 110 } : Room) D g ev [.ref (A 0 0), .int v] (wX g A X) sz (fun (r : Int32) (_ : Unit) => ∃ rr : Nat, nI rr = r ∧ xLines (pX X) v = (0, rr)) (fun E (_ : Unit) => ∃ k, ([ioN] : List String)[k]? = some E ∧ xLines (pX X) v = (k + 1, 0)) (fun (_ : Unit) => (wX g A X)) 1 6 := by
  refine qx_entry (cc := cX3_lines) (nL := 4) (ret := (some .int)) rfl (by decide) (Nat.le_of_ble_eq_true rfl) (fun pp ee ss mm bb mt kc ls C hRt hLk hin hsz hW hE hnt hl => ?_)
  have hl : lv_has ls 4 [(0, .ref (A 0 0)), (1, .int v)] := hl
  have hW : qW D g (va_A (wX g A X) sz) ss.heap ss ([((A 0 0), .inr (6, [.ref (A 0 1), .ref (A 0 2), .ref (A 0 3), .ref (A 0 4), .ref (A 0 5)]))] ++ ((wL g (A 0 1) (A 1) (xL X)) ++ ((wC g (A 0 2) (A 2) (xC X)) ++ ((wC g (A 0 3) (A 3) (xR X)) ++ ((wAL g (A 0 4) (xl X)) ++ ((wAL g (A 0 5) (xa X)) ++ (wP  (xE X)))))))) ss.heap [] := hW
  have hN := hX.1.1
  have hN9 : lNm (sL (pX X)) ≤ 12 := hN
  refine lv_iload_n C.1 C.2.1 dX3_lines_0 rfl (lv_at hl 1 rfl) ?_
  refine qx_callSv (rest := []) C hE hLk hnt (c_X3_checkCore l hst D g ev v _) (gw_S ml_X3_119 sm_X3_checkCore ini_X3 cd_X3_checkCore rfl) rfl rfl rfl hd_X3_checkCore ⟨(Nat.le_of_ble_eq_true rfl), (Nat.le_of_ble_eq_true rfl)⟩ hW (wc := []) (List.Perm.refl _) (fun _ => ([((A 0 0), .inr (6, [.ref (A 0 1), .ref (A 0 2), .ref (A 0 3), .ref (A 0 4), .ref (A 0 5)]))] ++ ((wL g (A 0 1) (A 1) (xL X)) ++ ((wC g (A 0 2) (A 2) (xC X)) ++ ((wC g (A 0 3) (A 3) (xR X)) ++ ((wAL g (A 0 4) (xl X)) ++ ((wAL g (A 0 5) (xa X)) ++ (wP  (xE X))))))))) (fun _ => List.Perm.refl _) hl.1 rfl (Nat.le_of_ble_eq_true rfl) ⟨(Nat.le_of_ble_eq_true rfl), (Nat.le_of_ble_eq_true rfl)⟩ ⟨(Nat.le_of_ble_eq_true rfl), (Nat.le_of_ble_eq_true rfl)⟩ dX3_lines_1 (fun E _ h => ⟨(), by obtain ⟨rfl, h0⟩ := h; exact ⟨0, rfl, by unfold xLines; rw [h0]⟩, rfl⟩) (fun u_1 H locs e_1 hW => ?_)
  obtain ⟨c, hc, rfl⟩ := e_1
  refine lv_iconst (v := nI 0) C.1 C.2.1 dX3_lines_4 (by decide) ?_
  refine lv_istore_n (lv' := [(2, .int (nI 0)), (0, .ref (A 0 0)), (1, .int (nI c))]) C.1 C.2.1 dX3_lines_5 rfl hl (by decide) rfl (fun ls hl => ?_)
  refine lv_iconst (v := nI 0) C.1 C.2.1 dX3_lines_6 (by decide) ?_
  refine lv_istore_n (lv' := [(3, .int (nI 0)), (2, .int (nI 0)), (0, .ref (A 0 0)), (1, .int (nI c))]) C.1 C.2.1 dX3_lines_7 rfl hl (by decide) rfl (fun ls hl => ?_)
  have L_8 : ∀ (nf : Nat) (i : Nat) (hi : i ≤ 4) (x2 : Int32) (e2 : x2 = nI (sumN (fun s => pMany (xC X) c s) i)) (x3 : Int32) (e3 : x3 = nI i) (hmu : 4 - i < nf) (ls : Array Slot) (H : Heap) (locs : List Loc), lv_has ls 4 [(0, .ref (A 0 0)), (1, .int (nI c)), (2, .int x2), (3, .int x3)] → qW D g (va_A (wX g A X) sz) ss.heap ss ([((A 0 0), .inr (6, [.ref (A 0 1), .ref (A 0 2), .ref (A 0 3), .ref (A 0 4), .ref (A 0 5)]))] ++ ((wL g (A 0 1) (A 1) (xL X)) ++ ((wC g (A 0 2) (A 2) (xC X)) ++ ((wC g (A 0 3) (A 3) (xR X)) ++ ((wAL g (A 0 4) (xl X)) ++ ((wAL g (A 0 5) (xa X)) ++ (wP  (xE X)))))))) H locs → W pp l ee ({ frames := 7, cells := 1, slots := 6, locals := 110 } : Room) ss mm [.ref (A 0 0), .int (nI c)].toArray bb mt kc H locs 1 6 (vx_MQ bb (va_Qi (fun (r : Int32) (_ : Unit) => ∃ rr : Nat, nI rr = r ∧ xLines (pX X) (nI c) = (0, rr)) (qB D g (wX g A X) sz (fun (_ : Unit) => (wX g A X))) (va_A (wX g A X) sz)) (qXX D g (wX g A X) sz (fun E (_ : Unit) => ∃ k, ([ioN] : List String)[k]? = some E ∧ xLines (pX X) (nI c) = (k + 1, 0)) (fun (_ : Unit) => (wX g A X))) [.ref (A 0 0), .int (nI c)].toArray ss 1 6 (va_A (wX g A X) sz)) (F0 mm 8 ls []) := by
    intro nf
    induction nf with
    | zero =>
      intro i hi x2 e2 x3 e3 hmu ls H locs hl hW
      exact absurd hmu (by omega)
    | succ nf ih =>
      intro i hi x2 e2 x3 e3 hmu ls H locs hl hW
      subst e2
      subst e3
      refine lv_iload_n C.1 C.2.1 dX3_lines_8 rfl (lv_at hl 3 rfl) ?_
      refine lv_iconst (v := nI 4) C.1 C.2.1 dX3_lines_9 (by decide) ?_
      refine q_ge (tgt := 31) C (by omega) (by omega) dX3_lines_10 (by decide) (fun c_10 => ?_) (fun c_10 => ?_)
      · refine lv_iload_n C.1 C.2.1 dX3_lines_31 rfl (lv_at hl 2 rfl) ?_
        exact vx_ret (q_iret C hRt hLk hW rfl () ⟨_, rfl, by obtain rfl : i = 4 := (by omega); unfold xLines; rw [inR_nI hc (by decide)]; dsimp only; rfl⟩ rfl (Nat.le_of_ble_eq_true rfl) (Nat.le_of_ble_eq_true rfl) dX3_lines_32)
      refine lv_iload_n C.1 C.2.1 dX3_lines_13 rfl (lv_at hl 2 rfl) ?_
      refine lv_aload_n C.1 C.2.1 dX3_lines_14 rfl (lv_at hl 0 rfl) ?_
      refine q_get (v := .ref (A 0 2)) C hW 0 rfl rfl 1 (by decide) gu_X3 (C.2.2.2.2 _ fl_X3_19) rfl rfl dX3_lines_15 ?_
      refine lv_iload_n C.1 C.2.1 dX3_lines_18 rfl (lv_at hl 1 rfl) ?_
      refine lv_iload_n C.1 C.2.1 dX3_lines_19 rfl (lv_at hl 3 rfl) ?_
      refine q_callVi (rest := [.int (nI (sumN (fun s => pMany (xC X) c s) i))]) C (c_X0_countLines l D g (A 0 2) (A 2) (xC X) c i (by omega) (by omega) _) (gw_V ml_X3_178 im_X0_countLines se_X0_X0_countLines ini_X0 cd_X0_countLines rfl) rfl rfl rfl hd_X0_countLines ⟨Nat.le_of_ble_eq_true rfl, Nat.le_of_ble_eq_true rfl⟩ hW pm_2 (fun u_2 => ([((A 0 0), .inr (6, [.ref (A 0 1), .ref (A 0 2), .ref (A 0 3), .ref (A 0 4), .ref (A 0 5)]))] ++ ((wL g (A 0 1) (A 1) (xL X)) ++ ((wC g (A 0 2) (A 2) u_2) ++ ((wC g (A 0 3) (A 3) (xR X)) ++ ((wAL g (A 0 4) (xl X)) ++ ((wAL g (A 0 5) (xa X)) ++ (wP  (xE X))))))))) (fun _ => pm_2) rfl rfl hl.1 rfl (Nat.le_of_ble_eq_true rfl) ⟨Nat.le_of_ble_eq_true rfl, Nat.le_of_ble_eq_true rfl⟩ dX3_lines_20 (fun r_2 u_2 H locs e_2 hW => ?_)
      obtain ⟨rfl, rfl⟩ := e_2
      refine q_iadd C dX3_lines_23 ?_
      refine lv_istore_n (lv' := [(2, .int (nI (sumN (fun s => pMany (xC X) c s) i + pMany (xC X) c i))), (0, .ref (A 0 0)), (1, .int (nI c)), (3, .int (nI i))]) C.1 C.2.1 dX3_lines_24 rfl hl (by decide) rfl (fun ls hl => ?_)
      refine q_iinc (d := 1) (lv' := [(3, .int (nI (i + 1))), (2, .int (nI (sumN (fun s => pMany (xC X) c s) i + pMany (xC X) c i))), (0, .ref (A 0 0)), (1, .int (nI c))]) C dX3_lines_25 (by decide) hl (k := 3) rfl (by decide) rfl (fun ls hl => ?_)
      refine lv_goto (tgt := 8) C.1 C.2.1 dX3_lines_28 (by decide) ?_
      exact ih (i + 1) (by omega) _ rfl _ rfl (by omega) ls _ _ (lv_sub hl [2, 3, 1, 0] rfl) hW
  exact L_8 (4 - 0 + 1) 0 (by omega) _ rfl _ rfl (by omega) ls _ _ (lv_sub hl [2, 3, 1, 0] rfl) hW

theorem hd_X3_oldest : yX3_oldest.cls = RX3 ∧ yX3_oldest.cls ≠ "java/lang/invoke/MethodHandle" ∧ yX3_oldest.cls ≠ "java/lang/invoke/VarHandle" ∧ (parseMethodDescriptor yX3_oldest.desc).map (fun d => d.parameters.length) = some 2 := by decide +kernel
set_option maxHeartbeats 4000000 in
set_option maxRecDepth 100000 in
theorem c_X3_oldest (l : Launch) (hst : l.stackTraces = false) (D : va_G) (g : Nat → ClassId) (ev : Nat × Nat × (Nat → Nat)) (A : Nat → Nat → Nat) (X : XS) (hX : XOK ev.1 X) (v1 : Int32) (v2 : Int32) (sz : Nat) : qXi l yX3_oldest (.code yX3_oldest cX3_oldest 4 (some .int) :: GW) ({ frames := 7, cells := 2, slots := 12, locals := 110 } : Room) D g ev [.ref (A 0 0), .int v1, .int v2] (wX g A X) sz (fun (r : Int32) (_ : Unit) => ∃ rr : Nat, nI rr = r ∧ xOldst (pX X) v1 v2 = (0, rr)) (fun E (_ : Unit) => ∃ k, ([ioN, iaN, nsN] : List String)[k]? = some E ∧ xOldst (pX X) v1 v2 = (k + 1, 0)) (fun (_ : Unit) => (wX g A X)) 2 12 := by
  refine qx_entry (cc := cX3_oldest) (nL := 4) (ret := (some .int)) rfl (by decide) (Nat.le_of_ble_eq_true rfl) (fun pp ee ss mm bb mt kc ls C hRt hLk hin hsz hW hE hnt hl => ?_)
  have hl : lv_has ls 4 [(0, .ref (A 0 0)), (1, .int v1), (2, .int v2)] := hl
  have hW : qW D g (va_A (wX g A X) sz) ss.heap ss ([((A 0 0), .inr (6, [.ref (A 0 1), .ref (A 0 2), .ref (A 0 3), .ref (A 0 4), .ref (A 0 5)]))] ++ ((wL g (A 0 1) (A 1) (xL X)) ++ ((wC g (A 0 2) (A 2) (xC X)) ++ ((wC g (A 0 3) (A 3) (xR X)) ++ ((wAL g (A 0 4) (xl X)) ++ ((wAL g (A 0 5) (xa X)) ++ (wP  (xE X)))))))) ss.heap [] := hW
  have hN := hX.1.1
  have hN9 : lNm (sL (pX X)) ≤ 12 := hN
  refine lv_iload_n C.1 C.2.1 dX3_oldest_0 rfl (lv_at hl 1 rfl) ?_
  refine qx_callSv (rest := []) C hE hLk hnt (c_X3_checkCore l hst D g ev v1 _) (gw_S ml_X3_119 sm_X3_checkCore ini_X3 cd_X3_checkCore rfl) rfl rfl rfl hd_X3_checkCore ⟨(Nat.le_of_ble_eq_true rfl), (Nat.le_of_ble_eq_true rfl)⟩ hW (wc := []) (List.Perm.refl _) (fun _ => ([((A 0 0), .inr (6, [.ref (A 0 1), .ref (A 0 2), .ref (A 0 3), .ref (A 0 4), .ref (A 0 5)]))] ++ ((wL g (A 0 1) (A 1) (xL X)) ++ ((wC g (A 0 2) (A 2) (xC X)) ++ ((wC g (A 0 3) (A 3) (xR X)) ++ ((wAL g (A 0 4) (xl X)) ++ ((wAL g (A 0 5) (xa X)) ++ (wP  (xE X))))))))) (fun _ => List.Perm.refl _) hl.1 rfl (Nat.le_of_ble_eq_true rfl) ⟨(Nat.le_of_ble_eq_true rfl), (Nat.le_of_ble_eq_true rfl)⟩ ⟨(Nat.le_of_ble_eq_true rfl), (Nat.le_of_ble_eq_true rfl)⟩ dX3_oldest_1 (fun E _ h => ⟨(), by obtain ⟨rfl, h0⟩ := h; exact ⟨0, rfl, by unfold xOldst; rw [h0]⟩, rfl⟩) (fun u_1 H locs e_1 hW => ?_)
  obtain ⟨c, hc, rfl⟩ := e_1
  refine lv_iload_n C.1 C.2.1 dX3_oldest_4 rfl (lv_at hl 2 rfl) ?_
  refine lv_if_lt (tgt := 13) C.1 C.2.1 dX3_oldest_5 (by decide) (fun c_5 => ?_) (fun c_5 => ?_)
  · exact q_thrIAE C hst hE hW hLk hnt hl.1 (text := "the sets are 0 to 3") (List.mem_of_getElem? (i := 17) rfl) dX3_oldest_13 dX3_oldest_16 dX3_oldest_17 dX3_oldest_19 dX3_oldest_22 ⟨(Nat.le_of_ble_eq_true rfl), (Nat.le_of_ble_eq_true rfl), (Nat.le_of_ble_eq_true rfl), (Nat.le_of_ble_eq_true rfl)⟩ (Nat.le_of_ble_eq_true rfl) (Nat.le_of_ble_eq_true rfl) () ⟨1, rfl, by unfold xOldst; rw [inR_nI hc (by decide)]; dsimp only; rw [inR_lo c_5]⟩ rfl
  refine lv_iload_n C.1 C.2.1 dX3_oldest_8 rfl (lv_at hl 2 rfl) ?_
  refine lv_iconst (v := nI 4) C.1 C.2.1 dX3_oldest_9 (by decide) ?_
  refine lv_icmp_lt (tgt := 23) C.1 C.2.1 dX3_oldest_10 (by decide) (fun c_10 => ?_) (fun c_10 => ?_)
  · obtain ⟨s9, hs9, rfl⟩ := inR_ok (by decide) c_5 c_10
    refine lv_aload_n C.1 C.2.1 dX3_oldest_23 rfl (lv_at hl 0 rfl) ?_
    refine q_get (v := .ref (A 0 2)) C hW 0 rfl rfl 1 (by decide) gu_X3 (C.2.2.2.2 _ fl_X3_19) rfl rfl dX3_oldest_24 ?_
    refine lv_iload_n C.1 C.2.1 dX3_oldest_27 rfl (lv_at hl 1 rfl) ?_
    refine lv_iload_n C.1 C.2.1 dX3_oldest_28 rfl (lv_at hl 2 rfl) ?_
    refine q_callVi (rest := []) C (c_X0_oldestOf l D g (A 0 2) (A 2) (xC X) c s9 (by omega) (by omega) _) (gw_V ml_X3_184 im_X0_oldestOf se_X0_X0_oldestOf ini_X0 cd_X0_oldestOf rfl) rfl rfl rfl hd_X0_oldestOf ⟨Nat.le_of_ble_eq_true rfl, Nat.le_of_ble_eq_true rfl⟩ hW pm_2 (fun u_2 => ([((A 0 0), .inr (6, [.ref (A 0 1), .ref (A 0 2), .ref (A 0 3), .ref (A 0 4), .ref (A 0 5)]))] ++ ((wL g (A 0 1) (A 1) (xL X)) ++ ((wC g (A 0 2) (A 2) u_2) ++ ((wC g (A 0 3) (A 3) (xR X)) ++ ((wAL g (A 0 4) (xl X)) ++ ((wAL g (A 0 5) (xa X)) ++ (wP  (xE X))))))))) (fun _ => pm_2) rfl rfl hl.1 rfl (Nat.le_of_ble_eq_true rfl) ⟨Nat.le_of_ble_eq_true rfl, Nat.le_of_ble_eq_true rfl⟩ dX3_oldest_29 (fun r_2 u_2 H locs e_2 hW => ?_)
    obtain ⟨rfl, rfl⟩ := e_2
    refine lv_istore_n (lv' := [(3, .int (oI (pOldest (xC X) c s9))), (0, .ref (A 0 0)), (1, .int (nI c)), (2, .int (nI s9))]) C.1 C.2.1 dX3_oldest_32 rfl hl (by decide) rfl (fun ls hl => ?_)
    refine lv_iload_n C.1 C.2.1 dX3_oldest_33 rfl (lv_at hl 0 rfl) ?_
    refine lv_iconst (v := (-1)) C.1 C.2.1 dX3_oldest_34 (by decide) ?_
    refine q_one (o := pOldest (xC X) c s9) (tgt := 48) C (fun i9 e9 => by have := (pOldest_spec e9 (by omega)).1; omega) dX3_oldest_35 (by decide) (fun j_35 o_35 => ?_) (fun o_35 => ?_)
    · rw [o_35] at hl
      have hl : lv_has ls 4 [(3, .int (nI j_35)), (0, .ref (A 0 0)), (1, .int (nI c)), (2, .int (nI s9))] := hl
      refine lv_iload_n C.1 C.2.1 dX3_oldest_48 rfl (lv_at hl 0 rfl) ?_
      exact vx_ret (q_iret C hRt hLk hW rfl () ⟨_, rfl, by unfold xOldst; rw [inR_nI hc (by decide)]; dsimp only; rw [inR_nI hs9 (by decide)]; dsimp only; rw [show pOldest (sC (pX X)) c s9 = some _ from o_35]⟩ rfl (Nat.le_of_ble_eq_true rfl) (Nat.le_of_ble_eq_true rfl) dX3_oldest_49)
    rw [o_35] at hl
    have hl : lv_has ls 4 [(3, .int (-1)), (0, .ref (A 0 0)), (1, .int (nI c)), (2, .int (nI s9))] := hl
    exact q_thrNSE C hst hE hW hLk hnt hl.1 (text := "the set is empty") (List.mem_of_getElem? (i := 18) rfl) dX3_oldest_38 dX3_oldest_41 dX3_oldest_42 dX3_oldest_44 dX3_oldest_47 ⟨(Nat.le_of_ble_eq_true rfl), (Nat.le_of_ble_eq_true rfl), (Nat.le_of_ble_eq_true rfl), (Nat.le_of_ble_eq_true rfl)⟩ (Nat.le_of_ble_eq_true rfl) (Nat.le_of_ble_eq_true rfl) () ⟨2, rfl, by unfold xOldst; rw [inR_nI hc (by decide)]; dsimp only; rw [inR_nI hs9 (by decide)]; dsimp only; rw [show pOldest (sC (pX X)) c s9 = none from o_35]⟩ rfl
  exact q_thrIAE C hst hE hW hLk hnt hl.1 (text := "the sets are 0 to 3") (List.mem_of_getElem? (i := 17) rfl) dX3_oldest_13 dX3_oldest_16 dX3_oldest_17 dX3_oldest_19 dX3_oldest_22 ⟨(Nat.le_of_ble_eq_true rfl), (Nat.le_of_ble_eq_true rfl), (Nat.le_of_ble_eq_true rfl), (Nat.le_of_ble_eq_true rfl)⟩ (Nat.le_of_ble_eq_true rfl) (Nat.le_of_ble_eq_true rfl) () ⟨1, rfl, by unfold xOldst; rw [inR_nI hc (by decide)]; dsimp only; rw [inR_hi c_5 c_10]⟩ rfl

theorem hd_X3_fetched : yX3_fetched.cls = RX3 ∧ yX3_fetched.cls ≠ "java/lang/invoke/MethodHandle" ∧ yX3_fetched.cls ≠ "java/lang/invoke/VarHandle" ∧ (parseMethodDescriptor yX3_fetched.desc).map (fun d => d.parameters.length) = some 1 := by decide +kernel
set_option maxHeartbeats 4000000 in
set_option maxRecDepth 100000 in
theorem c_X3_fetched (l : Launch) (hst : l.stackTraces = false) (D : va_G) (g : Nat → ClassId) (ev : Nat × Nat × (Nat → Nat)) (A : Nat → Nat → Nat) (X : XS) (hX : XOK ev.1 X) (v : Int32) (sz : Nat) : qXi l yX3_fetched (.code yX3_fetched cX3_fetched 2 (some .int) :: GW) ({ frames := 7, cells := 1, slots := 6, locals := 110 } : Room) D g ev [.ref (A 0 0), .int v] (wX g A X) sz (fun (r : Int32) (_ : Unit) => ∃ rr : Int32, rr = r ∧ xFet (pX X) v = (0, rr)) (fun E (_ : Unit) => ∃ k, ([ioN] : List String)[k]? = some E ∧ xFet (pX X) v = (k + 1, 0)) (fun (_ : Unit) => (wX g A X)) 1 6 := by
  refine qx_entry (cc := cX3_fetched) (nL := 2) (ret := (some .int)) rfl (by decide) (Nat.le_of_ble_eq_true rfl) (fun pp ee ss mm bb mt kc ls C hRt hLk hin hsz hW hE hnt hl => ?_)
  have hl : lv_has ls 2 [(0, .ref (A 0 0)), (1, .int v)] := hl
  have hW : qW D g (va_A (wX g A X) sz) ss.heap ss ([((A 0 0), .inr (6, [.ref (A 0 1), .ref (A 0 2), .ref (A 0 3), .ref (A 0 4), .ref (A 0 5)]))] ++ ((wL g (A 0 1) (A 1) (xL X)) ++ ((wC g (A 0 2) (A 2) (xC X)) ++ ((wC g (A 0 3) (A 3) (xR X)) ++ ((wAL g (A 0 4) (xl X)) ++ ((wAL g (A 0 5) (xa X)) ++ (wP  (xE X)))))))) ss.heap [] := hW
  have hN := hX.1.1
  have hN9 : lNm (sL (pX X)) ≤ 12 := hN
  refine lv_iload_n C.1 C.2.1 dX3_fetched_0 rfl (lv_at hl 1 rfl) ?_
  refine qx_callSv (rest := []) C hE hLk hnt (c_X3_checkCore l hst D g ev v _) (gw_S ml_X3_119 sm_X3_checkCore ini_X3 cd_X3_checkCore rfl) rfl rfl rfl hd_X3_checkCore ⟨(Nat.le_of_ble_eq_true rfl), (Nat.le_of_ble_eq_true rfl)⟩ hW (wc := []) (List.Perm.refl _) (fun _ => ([((A 0 0), .inr (6, [.ref (A 0 1), .ref (A 0 2), .ref (A 0 3), .ref (A 0 4), .ref (A 0 5)]))] ++ ((wL g (A 0 1) (A 1) (xL X)) ++ ((wC g (A 0 2) (A 2) (xC X)) ++ ((wC g (A 0 3) (A 3) (xR X)) ++ ((wAL g (A 0 4) (xl X)) ++ ((wAL g (A 0 5) (xa X)) ++ (wP  (xE X))))))))) (fun _ => List.Perm.refl _) hl.1 rfl (Nat.le_of_ble_eq_true rfl) ⟨(Nat.le_of_ble_eq_true rfl), (Nat.le_of_ble_eq_true rfl)⟩ ⟨(Nat.le_of_ble_eq_true rfl), (Nat.le_of_ble_eq_true rfl)⟩ dX3_fetched_1 (fun E _ h => ⟨(), by obtain ⟨rfl, h0⟩ := h; exact ⟨0, rfl, by unfold xFet; rw [h0]⟩, rfl⟩) (fun u_1 H locs e_1 hW => ?_)
  obtain ⟨c, hc, rfl⟩ := e_1
  refine lv_aload_n C.1 C.2.1 dX3_fetched_4 rfl (lv_at hl 0 rfl) ?_
  refine q_get (v := .ref (A 0 2)) C hW 0 rfl rfl 1 (by decide) gu_X3 (C.2.2.2.2 _ fl_X3_19) rfl rfl dX3_fetched_5 ?_
  refine lv_iload_n C.1 C.2.1 dX3_fetched_8 rfl (lv_at hl 1 rfl) ?_
  refine q_callVi (rest := []) C (c_X0_countFetched l D g (A 0 2) (A 2) (xC X) c (by omega) _) (gw_V ml_X3_210 im_X0_countFetched se_X0_X0_countFetched ini_X0 cd_X0_countFetched rfl) rfl rfl rfl hd_X0_countFetched ⟨Nat.le_of_ble_eq_true rfl, Nat.le_of_ble_eq_true rfl⟩ hW pm_2 (fun u_2 => ([((A 0 0), .inr (6, [.ref (A 0 1), .ref (A 0 2), .ref (A 0 3), .ref (A 0 4), .ref (A 0 5)]))] ++ ((wL g (A 0 1) (A 1) (xL X)) ++ ((wC g (A 0 2) (A 2) u_2) ++ ((wC g (A 0 3) (A 3) (xR X)) ++ ((wAL g (A 0 4) (xl X)) ++ ((wAL g (A 0 5) (xa X)) ++ (wP  (xE X))))))))) (fun _ => pm_2) rfl rfl hl.1 rfl (Nat.le_of_ble_eq_true rfl) ⟨Nat.le_of_ble_eq_true rfl, Nat.le_of_ble_eq_true rfl⟩ dX3_fetched_9 (fun r_2 u_2 H locs e_2 hW => ?_)
  obtain ⟨rfl, rfl⟩ := e_2
  exact vx_ret (q_iret C hRt hLk hW rfl () ⟨_, rfl, by unfold xFet; rw [inR_nI hc (by decide)]; dsimp only; rfl⟩ rfl (Nat.le_of_ble_eq_true rfl) (Nat.le_of_ble_eq_true rfl) dX3_fetched_12)

theorem hd_X3_useful : yX3_useful.cls = RX3 ∧ yX3_useful.cls ≠ "java/lang/invoke/MethodHandle" ∧ yX3_useful.cls ≠ "java/lang/invoke/VarHandle" ∧ (parseMethodDescriptor yX3_useful.desc).map (fun d => d.parameters.length) = some 1 := by decide +kernel
set_option maxHeartbeats 4000000 in
set_option maxRecDepth 100000 in
theorem c_X3_useful (l : Launch) (hst : l.stackTraces = false) (D : va_G) (g : Nat → ClassId) (ev : Nat × Nat × (Nat → Nat)) (A : Nat → Nat → Nat) (X : XS) (hX : XOK ev.1 X) (v : Int32) (sz : Nat) : qXi l yX3_useful (.code yX3_useful cX3_useful 2 (some .int) :: GW) ({ frames := 7, cells := 1, slots := 6, locals := 110 } : Room) D g ev [.ref (A 0 0), .int v] (wX g A X) sz (fun (r : Int32) (_ : Unit) => ∃ rr : Int32, rr = r ∧ xUsef (pX X) v = (0, rr)) (fun E (_ : Unit) => ∃ k, ([ioN] : List String)[k]? = some E ∧ xUsef (pX X) v = (k + 1, 0)) (fun (_ : Unit) => (wX g A X)) 1 6 := by
  refine qx_entry (cc := cX3_useful) (nL := 2) (ret := (some .int)) rfl (by decide) (Nat.le_of_ble_eq_true rfl) (fun pp ee ss mm bb mt kc ls C hRt hLk hin hsz hW hE hnt hl => ?_)
  have hl : lv_has ls 2 [(0, .ref (A 0 0)), (1, .int v)] := hl
  have hW : qW D g (va_A (wX g A X) sz) ss.heap ss ([((A 0 0), .inr (6, [.ref (A 0 1), .ref (A 0 2), .ref (A 0 3), .ref (A 0 4), .ref (A 0 5)]))] ++ ((wL g (A 0 1) (A 1) (xL X)) ++ ((wC g (A 0 2) (A 2) (xC X)) ++ ((wC g (A 0 3) (A 3) (xR X)) ++ ((wAL g (A 0 4) (xl X)) ++ ((wAL g (A 0 5) (xa X)) ++ (wP  (xE X)))))))) ss.heap [] := hW
  have hN := hX.1.1
  have hN9 : lNm (sL (pX X)) ≤ 12 := hN
  refine lv_iload_n C.1 C.2.1 dX3_useful_0 rfl (lv_at hl 1 rfl) ?_
  refine qx_callSv (rest := []) C hE hLk hnt (c_X3_checkCore l hst D g ev v _) (gw_S ml_X3_119 sm_X3_checkCore ini_X3 cd_X3_checkCore rfl) rfl rfl rfl hd_X3_checkCore ⟨(Nat.le_of_ble_eq_true rfl), (Nat.le_of_ble_eq_true rfl)⟩ hW (wc := []) (List.Perm.refl _) (fun _ => ([((A 0 0), .inr (6, [.ref (A 0 1), .ref (A 0 2), .ref (A 0 3), .ref (A 0 4), .ref (A 0 5)]))] ++ ((wL g (A 0 1) (A 1) (xL X)) ++ ((wC g (A 0 2) (A 2) (xC X)) ++ ((wC g (A 0 3) (A 3) (xR X)) ++ ((wAL g (A 0 4) (xl X)) ++ ((wAL g (A 0 5) (xa X)) ++ (wP  (xE X))))))))) (fun _ => List.Perm.refl _) hl.1 rfl (Nat.le_of_ble_eq_true rfl) ⟨(Nat.le_of_ble_eq_true rfl), (Nat.le_of_ble_eq_true rfl)⟩ ⟨(Nat.le_of_ble_eq_true rfl), (Nat.le_of_ble_eq_true rfl)⟩ dX3_useful_1 (fun E _ h => ⟨(), by obtain ⟨rfl, h0⟩ := h; exact ⟨0, rfl, by unfold xUsef; rw [h0]⟩, rfl⟩) (fun u_1 H locs e_1 hW => ?_)
  obtain ⟨c, hc, rfl⟩ := e_1
  refine lv_aload_n C.1 C.2.1 dX3_useful_4 rfl (lv_at hl 0 rfl) ?_
  refine q_get (v := .ref (A 0 2)) C hW 0 rfl rfl 1 (by decide) gu_X3 (C.2.2.2.2 _ fl_X3_19) rfl rfl dX3_useful_5 ?_
  refine lv_iload_n C.1 C.2.1 dX3_useful_8 rfl (lv_at hl 1 rfl) ?_
  refine q_callVi (rest := []) C (c_X0_countUseful l D g (A 0 2) (A 2) (xC X) c (by omega) _) (gw_V ml_X3_213 im_X0_countUseful se_X0_X0_countUseful ini_X0 cd_X0_countUseful rfl) rfl rfl rfl hd_X0_countUseful ⟨Nat.le_of_ble_eq_true rfl, Nat.le_of_ble_eq_true rfl⟩ hW pm_2 (fun u_2 => ([((A 0 0), .inr (6, [.ref (A 0 1), .ref (A 0 2), .ref (A 0 3), .ref (A 0 4), .ref (A 0 5)]))] ++ ((wL g (A 0 1) (A 1) (xL X)) ++ ((wC g (A 0 2) (A 2) u_2) ++ ((wC g (A 0 3) (A 3) (xR X)) ++ ((wAL g (A 0 4) (xl X)) ++ ((wAL g (A 0 5) (xa X)) ++ (wP  (xE X))))))))) (fun _ => pm_2) rfl rfl hl.1 rfl (Nat.le_of_ble_eq_true rfl) ⟨Nat.le_of_ble_eq_true rfl, Nat.le_of_ble_eq_true rfl⟩ dX3_useful_9 (fun r_2 u_2 H locs e_2 hW => ?_)
  obtain ⟨rfl, rfl⟩ := e_2
  exact vx_ret (q_iret C hRt hLk hW rfl () ⟨_, rfl, by unfold xUsef; rw [inR_nI hc (by decide)]; dsimp only; rfl⟩ rfl (Nat.le_of_ble_eq_true rfl) (Nat.le_of_ble_eq_true rfl) dX3_useful_12)

theorem hd_X3_wrong : yX3_wrong.cls = RX3 ∧ yX3_wrong.cls ≠ "java/lang/invoke/MethodHandle" ∧ yX3_wrong.cls ≠ "java/lang/invoke/VarHandle" ∧ (parseMethodDescriptor yX3_wrong.desc).map (fun d => d.parameters.length) = some 1 := by decide +kernel
set_option maxHeartbeats 4000000 in
set_option maxRecDepth 100000 in
theorem c_X3_wrong (l : Launch) (hst : l.stackTraces = false) (D : va_G) (g : Nat → ClassId) (ev : Nat × Nat × (Nat → Nat)) (A : Nat → Nat → Nat) (X : XS) (hX : XOK ev.1 X) (v : Int32) (sz : Nat) : qXi l yX3_wrong (.code yX3_wrong cX3_wrong 2 (some .int) :: GW) ({ frames := 7, cells := 1, slots := 6, locals := 110 } : Room) D g ev [.ref (A 0 0), .int v] (wX g A X) sz (fun (r : Int32) (_ : Unit) => ∃ rr : Int32, rr = r ∧ xWrg (pX X) v = (0, rr)) (fun E (_ : Unit) => ∃ k, ([ioN] : List String)[k]? = some E ∧ xWrg (pX X) v = (k + 1, 0)) (fun (_ : Unit) => (wX g A X)) 1 6 := by
  refine qx_entry (cc := cX3_wrong) (nL := 2) (ret := (some .int)) rfl (by decide) (Nat.le_of_ble_eq_true rfl) (fun pp ee ss mm bb mt kc ls C hRt hLk hin hsz hW hE hnt hl => ?_)
  have hl : lv_has ls 2 [(0, .ref (A 0 0)), (1, .int v)] := hl
  have hW : qW D g (va_A (wX g A X) sz) ss.heap ss ([((A 0 0), .inr (6, [.ref (A 0 1), .ref (A 0 2), .ref (A 0 3), .ref (A 0 4), .ref (A 0 5)]))] ++ ((wL g (A 0 1) (A 1) (xL X)) ++ ((wC g (A 0 2) (A 2) (xC X)) ++ ((wC g (A 0 3) (A 3) (xR X)) ++ ((wAL g (A 0 4) (xl X)) ++ ((wAL g (A 0 5) (xa X)) ++ (wP  (xE X)))))))) ss.heap [] := hW
  have hN := hX.1.1
  have hN9 : lNm (sL (pX X)) ≤ 12 := hN
  refine lv_iload_n C.1 C.2.1 dX3_wrong_0 rfl (lv_at hl 1 rfl) ?_
  refine qx_callSv (rest := []) C hE hLk hnt (c_X3_checkCore l hst D g ev v _) (gw_S ml_X3_119 sm_X3_checkCore ini_X3 cd_X3_checkCore rfl) rfl rfl rfl hd_X3_checkCore ⟨(Nat.le_of_ble_eq_true rfl), (Nat.le_of_ble_eq_true rfl)⟩ hW (wc := []) (List.Perm.refl _) (fun _ => ([((A 0 0), .inr (6, [.ref (A 0 1), .ref (A 0 2), .ref (A 0 3), .ref (A 0 4), .ref (A 0 5)]))] ++ ((wL g (A 0 1) (A 1) (xL X)) ++ ((wC g (A 0 2) (A 2) (xC X)) ++ ((wC g (A 0 3) (A 3) (xR X)) ++ ((wAL g (A 0 4) (xl X)) ++ ((wAL g (A 0 5) (xa X)) ++ (wP  (xE X))))))))) (fun _ => List.Perm.refl _) hl.1 rfl (Nat.le_of_ble_eq_true rfl) ⟨(Nat.le_of_ble_eq_true rfl), (Nat.le_of_ble_eq_true rfl)⟩ ⟨(Nat.le_of_ble_eq_true rfl), (Nat.le_of_ble_eq_true rfl)⟩ dX3_wrong_1 (fun E _ h => ⟨(), by obtain ⟨rfl, h0⟩ := h; exact ⟨0, rfl, by unfold xWrg; rw [h0]⟩, rfl⟩) (fun u_1 H locs e_1 hW => ?_)
  obtain ⟨c, hc, rfl⟩ := e_1
  refine lv_aload_n C.1 C.2.1 dX3_wrong_4 rfl (lv_at hl 0 rfl) ?_
  refine q_get (v := .ref (A 0 2)) C hW 0 rfl rfl 1 (by decide) gu_X3 (C.2.2.2.2 _ fl_X3_19) rfl rfl dX3_wrong_5 ?_
  refine lv_iload_n C.1 C.2.1 dX3_wrong_8 rfl (lv_at hl 1 rfl) ?_
  refine q_callVi (rest := []) C (c_X0_countWrong l D g (A 0 2) (A 2) (xC X) c (by omega) _) (gw_V ml_X3_216 im_X0_countWrong se_X0_X0_countWrong ini_X0 cd_X0_countWrong rfl) rfl rfl rfl hd_X0_countWrong ⟨Nat.le_of_ble_eq_true rfl, Nat.le_of_ble_eq_true rfl⟩ hW pm_2 (fun u_2 => ([((A 0 0), .inr (6, [.ref (A 0 1), .ref (A 0 2), .ref (A 0 3), .ref (A 0 4), .ref (A 0 5)]))] ++ ((wL g (A 0 1) (A 1) (xL X)) ++ ((wC g (A 0 2) (A 2) u_2) ++ ((wC g (A 0 3) (A 3) (xR X)) ++ ((wAL g (A 0 4) (xl X)) ++ ((wAL g (A 0 5) (xa X)) ++ (wP  (xE X))))))))) (fun _ => pm_2) rfl rfl hl.1 rfl (Nat.le_of_ble_eq_true rfl) ⟨Nat.le_of_ble_eq_true rfl, Nat.le_of_ble_eq_true rfl⟩ dX3_wrong_9 (fun r_2 u_2 H locs e_2 hW => ?_)
  obtain ⟨rfl, rfl⟩ := e_2
  exact vx_ret (q_iret C hRt hLk hW rfl () ⟨_, rfl, by unfold xWrg; rw [inR_nI hc (by decide)]; dsimp only; rfl⟩ rfl (Nat.le_of_ble_eq_true rfl) (Nat.le_of_ble_eq_true rfl) dX3_wrong_12)

theorem hd_X3_accesses : yX3_accesses.cls = RX3 ∧ yX3_accesses.cls ≠ "java/lang/invoke/MethodHandle" ∧ yX3_accesses.cls ≠ "java/lang/invoke/VarHandle" ∧ (parseMethodDescriptor yX3_accesses.desc).map (fun d => d.parameters.length) = some 0 := by decide +kernel
set_option maxHeartbeats 4000000 in
set_option maxRecDepth 100000 in
theorem c_X3_accesses (l : Launch) (hst : l.stackTraces = false) (D : va_G) (g : Nat → ClassId) (ev : Nat × Nat × (Nat → Nat)) (A : Nat → Nat → Nat) (X : XS) (hX : XOK ev.1 X)  (sz : Nat) : qNi l yX3_accesses (.code yX3_accesses cX3_accesses 1 (some .int) :: GW) ({ frames := 1, cells := 0, slots := 0, locals := 20 } : Room) D g ev [.ref (A 0 0)] (wX g A X) sz (fun (r : Int32) (_ : Unit) => nI (sA (pX X)).length = r) (fun (_ : Unit) => (wX g A X)) 0 0 := by
  refine qe_entry (cc := cX3_accesses) (nL := 1) (ret := (some .int)) rfl (by decide) (Nat.le_of_ble_eq_true rfl) (fun pp ee ss mm bb mt kc ls C hRt hLk hin hsz hW hE hl => ?_)
  have hl : lv_has ls 1 [(0, .ref (A 0 0))] := hl
  have hW : qW D g (va_A (wX g A X) sz) ss.heap ss ([((A 0 0), .inr (6, [.ref (A 0 1), .ref (A 0 2), .ref (A 0 3), .ref (A 0 4), .ref (A 0 5)]))] ++ ((wL g (A 0 1) (A 1) (xL X)) ++ ((wC g (A 0 2) (A 2) (xC X)) ++ ((wC g (A 0 3) (A 3) (xR X)) ++ ((wAL g (A 0 4) (xl X)) ++ ((wAL g (A 0 5) (xa X)) ++ (wP  (xE X)))))))) ss.heap [] := hW
  have hN := hX.1.1
  have hN9 : lNm (sL (pX X)) ≤ 12 := hN
  have hlen := hX.len
  refine lv_aload_n C.1 C.2.1 dX3_accesses_0 rfl (lv_at hl 0 rfl) ?_
  refine q_get (v := .ref (A 0 5)) C hW 0 rfl rfl 4 (by decide) gu_X3 (C.2.2.2.2 _ fl_X3_33) rfl rfl dX3_accesses_1 ?_
  refine q_callFi (rest := []) C hE.2.2.2.2.2.2.2.1.1 (c_AL_size l D g (A 0 5) (xa X) _) (gw_F ml_X3_141 se_Jx4a65c_Jxbd725_size_0699_Jx4a65c_size_8abf5 im_Jx4a65c_size_8abf5 ini_Jx4a65c cd_Jx4a65c_size_8abf5 rfl) rfl rfl rfl hd_xLsize ⟨(Nat.le_of_ble_eq_true rfl), (Nat.le_of_ble_eq_true rfl)⟩ hW pm_5 (fun _ => ([((A 0 0), .inr (6, [.ref (A 0 1), .ref (A 0 2), .ref (A 0 3), .ref (A 0 4), .ref (A 0 5)]))] ++ ((wL g (A 0 1) (A 1) (xL X)) ++ ((wC g (A 0 2) (A 2) (xC X)) ++ ((wC g (A 0 3) (A 3) (xR X)) ++ ((wAL g (A 0 4) (xl X)) ++ ((wAL g (A 0 5) (xa X)) ++ (wP  (xE X))))))))) (fun _ => pm_5) rfl rfl hl.1 rfl (Nat.le_of_ble_eq_true rfl) ⟨(Nat.le_of_ble_eq_true rfl), (Nat.le_of_ble_eq_true rfl)⟩ dX3_accesses_4 (fun r_1 _ H locs e_1 hW => ?_)
  subst e_1
  exact q_iret C hRt hLk hW rfl () (by rw [← hX.alen]) rfl (Nat.le_of_ble_eq_true rfl) (Nat.le_of_ble_eq_true rfl) dX3_accesses_9

theorem hd_X3_costOf : yX3_costOf.cls = RX3 ∧ yX3_costOf.cls ≠ "java/lang/invoke/MethodHandle" ∧ yX3_costOf.cls ≠ "java/lang/invoke/VarHandle" ∧ (parseMethodDescriptor yX3_costOf.desc).map (fun d => d.parameters.length) = some 1 := by decide +kernel
set_option maxHeartbeats 4000000 in
set_option maxRecDepth 100000 in
theorem c_X3_costOf (l : Launch) (hst : l.stackTraces = false) (D : va_G) (g : Nat → ClassId) (ev : Nat × Nat × (Nat → Nat)) (A : Nat → Nat → Nat) (X : XS) (hX : XOK ev.1 X) (v : Int32) (sz : Nat) : qXi l yX3_costOf (.code yX3_costOf cX3_costOf 2 (some .int) :: GW) ({ frames := 7, cells := 1, slots := 6, locals := 111 } : Room) D g ev [.ref (A 0 0), .int v] (wX g A X) sz (fun (r : Int32) (_ : Unit) => ∃ rr : Nat, nI rr = r ∧ xCost (pX X) v = (0, rr)) (fun E (_ : Unit) => ∃ k, ([nsN] : List String)[k]? = some E ∧ xCost (pX X) v = (k + 1, 0)) (fun (_ : Unit) => (wX g A X)) 1 6 := by
  refine qx_entry (cc := cX3_costOf) (nL := 2) (ret := (some .int)) rfl (by decide) (Nat.le_of_ble_eq_true rfl) (fun pp ee ss mm bb mt kc ls C hRt hLk hin hsz hW hE hnt hl => ?_)
  have hl : lv_has ls 2 [(0, .ref (A 0 0)), (1, .int v)] := hl
  have hW : qW D g (va_A (wX g A X) sz) ss.heap ss ([((A 0 0), .inr (6, [.ref (A 0 1), .ref (A 0 2), .ref (A 0 3), .ref (A 0 4), .ref (A 0 5)]))] ++ ((wL g (A 0 1) (A 1) (xL X)) ++ ((wC g (A 0 2) (A 2) (xC X)) ++ ((wC g (A 0 3) (A 3) (xR X)) ++ ((wAL g (A 0 4) (xl X)) ++ ((wAL g (A 0 5) (xa X)) ++ (wP  (xE X)))))))) ss.heap [] := hW
  have hN := hX.1.1
  have hN9 : lNm (sL (pX X)) ≤ 12 := hN
  have hlen := hX.len
  refine lv_aload_n C.1 C.2.1 dX3_costOf_0 rfl (lv_at hl 0 rfl) ?_
  refine lv_iload_n C.1 C.2.1 dX3_costOf_1 rfl (lv_at hl 1 rfl) ?_
  refine qx_callVv (rest := []) C hE hLk hnt (c_X3_checkIndex l hst D g ev A X hX v _) (gw_V ml_X3_145 im_X3_checkIndex se_X3_X3_checkIndex ini_X3 cd_X3_checkIndex rfl) rfl rfl rfl hd_X3_checkIndex ⟨(Nat.le_of_ble_eq_true rfl), (Nat.le_of_ble_eq_true rfl)⟩ hW pm_all (fun _ => ([((A 0 0), .inr (6, [.ref (A 0 1), .ref (A 0 2), .ref (A 0 3), .ref (A 0 4), .ref (A 0 5)]))] ++ ((wL g (A 0 1) (A 1) (xL X)) ++ ((wC g (A 0 2) (A 2) (xC X)) ++ ((wC g (A 0 3) (A 3) (xR X)) ++ ((wAL g (A 0 4) (xl X)) ++ ((wAL g (A 0 5) (xa X)) ++ (wP  (xE X))))))))) (fun _ => pm_all) rfl rfl hl.1 rfl (Nat.le_of_ble_eq_true rfl) ⟨(Nat.le_of_ble_eq_true rfl), (Nat.le_of_ble_eq_true rfl)⟩ ⟨(Nat.le_of_ble_eq_true rfl), (Nat.le_of_ble_eq_true rfl)⟩ dX3_costOf_2 (fun E _ h => ⟨(), by obtain ⟨rfl, h0⟩ := h; exact ⟨0, rfl, by unfold xCost; rw [show inR (sA (pX X)).length v = none from by rw [← hX.alen]; exact h0]⟩, rfl⟩) (fun u_1 H locs e_1 hW => ?_)
  obtain ⟨i, hi, rfl⟩ := e_1
  refine lv_aload_n C.1 C.2.1 dX3_costOf_5 rfl (lv_at hl 0 rfl) ?_
  refine q_get (v := .ref (A 0 5)) C hW 0 rfl rfl 4 (by decide) gu_X3 (C.2.2.2.2 _ fl_X3_33) rfl rfl dX3_costOf_6 ?_
  refine lv_iload_n C.1 C.2.1 dX3_costOf_9 rfl (lv_at hl 1 rfl) ?_
  obtain ⟨p_10, p_10_1, p_10_2, p_10_3, p_10_4, p_10_5⟩ := hX.ac (i := i) (by omega)
  refine q_callFq (rest := []) C hE.2.2.2.2.2.2.2.1.2.1 (c_AL_get l D g (A 0 5) (xa X) i (by omega) hX.2.2.1.2.1 (by have := hX.2.2.1.2.2.2; omega) _) (gw_F ml_X3_148 se_Jx4a65c_Jxbd725_get_3715_Jx4a65c_get_915e3 im_Jx4a65c_get_915e3 ini_Jx4a65c cd_Jx4a65c_get_915e3 rfl) rfl rfl rfl hd_xLget ⟨(Nat.le_of_ble_eq_true rfl), (Nat.le_of_ble_eq_true rfl)⟩ hW pm_5 (fun _ => ([((A 0 0), .inr (6, [.ref (A 0 1), .ref (A 0 2), .ref (A 0 3), .ref (A 0 4), .ref (A 0 5)]))] ++ ((wL g (A 0 1) (A 1) (xL X)) ++ ((wC g (A 0 2) (A 2) (xC X)) ++ ((wC g (A 0 3) (A 3) (xR X)) ++ ((wAL g (A 0 4) (xl X)) ++ ((wAL g (A 0 5) (xa X)) ++ (wP  (xE X))))))))) (fun _ => pm_5) rfl rfl hl.1 rfl (Nat.le_of_ble_eq_true rfl) ⟨(Nat.le_of_ble_eq_true rfl), (Nat.le_of_ble_eq_true rfl)⟩ dX3_costOf_10 (fun r_2 _ H locs e_2 hW => ?_)
  rw [p_10_1] at e_2
  subst e_2
  refine q_castM C hW (C.2.2.2.2 _ cl_X3_113) (z := p_10.2) (wX_mem p_10_3) dX3_costOf_15 ?_
  refine q_getM (v := .int (nI (eCs p_10.2))) C hW (wX_mem p_10_3) rfl 4 (by decide) gu_X1 (C.2.2.2.2 _ fl_X3_152) rfl rfl dX3_costOf_18 ?_
  exact vx_ret (q_iret C hRt hLk hW rfl () ⟨_, rfl, by unfold xCost; rw [show inR (sA (pX X)).length (nI i) = some i from by rw [← hX.alen]; exact inR_nI hi (by omega)]; dsimp only; rw [p_10_2]⟩ rfl (Nat.le_of_ble_eq_true rfl) (Nat.le_of_ble_eq_true rfl) dX3_costOf_21)

theorem hd_X3_causeOf : yX3_causeOf.cls = RX3 ∧ yX3_causeOf.cls ≠ "java/lang/invoke/MethodHandle" ∧ yX3_causeOf.cls ≠ "java/lang/invoke/VarHandle" ∧ (parseMethodDescriptor yX3_causeOf.desc).map (fun d => d.parameters.length) = some 1 := by decide +kernel
set_option maxHeartbeats 4000000 in
set_option maxRecDepth 100000 in
theorem c_X3_causeOf (l : Launch) (hst : l.stackTraces = false) (D : va_G) (g : Nat → ClassId) (ev : Nat × Nat × (Nat → Nat)) (A : Nat → Nat → Nat) (X : XS) (hX : XOK ev.1 X) (v : Int32) (sz : Nat) : qXi l yX3_causeOf (.code yX3_causeOf cX3_causeOf 2 (some .char) :: GW) ({ frames := 7, cells := 1, slots := 6, locals := 111 } : Room) D g ev [.ref (A 0 0), .int v] (wX g A X) sz (fun (r : Int32) (_ : Unit) => ∃ rr : UInt16, cI rr = r ∧ xCaus (pX X) v = (0, rr)) (fun E (_ : Unit) => ∃ k, ([nsN] : List String)[k]? = some E ∧ xCaus (pX X) v = (k + 1, 0)) (fun (_ : Unit) => (wX g A X)) 1 6 := by
  refine qx_entry (cc := cX3_causeOf) (nL := 2) (ret := (some .char)) rfl (by decide) (Nat.le_of_ble_eq_true rfl) (fun pp ee ss mm bb mt kc ls C hRt hLk hin hsz hW hE hnt hl => ?_)
  have hl : lv_has ls 2 [(0, .ref (A 0 0)), (1, .int v)] := hl
  have hW : qW D g (va_A (wX g A X) sz) ss.heap ss ([((A 0 0), .inr (6, [.ref (A 0 1), .ref (A 0 2), .ref (A 0 3), .ref (A 0 4), .ref (A 0 5)]))] ++ ((wL g (A 0 1) (A 1) (xL X)) ++ ((wC g (A 0 2) (A 2) (xC X)) ++ ((wC g (A 0 3) (A 3) (xR X)) ++ ((wAL g (A 0 4) (xl X)) ++ ((wAL g (A 0 5) (xa X)) ++ (wP  (xE X)))))))) ss.heap [] := hW
  have hN := hX.1.1
  have hN9 : lNm (sL (pX X)) ≤ 12 := hN
  have hlen := hX.len
  refine lv_aload_n C.1 C.2.1 dX3_causeOf_0 rfl (lv_at hl 0 rfl) ?_
  refine lv_iload_n C.1 C.2.1 dX3_causeOf_1 rfl (lv_at hl 1 rfl) ?_
  refine qx_callVv (rest := []) C hE hLk hnt (c_X3_checkIndex l hst D g ev A X hX v _) (gw_V ml_X3_145 im_X3_checkIndex se_X3_X3_checkIndex ini_X3 cd_X3_checkIndex rfl) rfl rfl rfl hd_X3_checkIndex ⟨(Nat.le_of_ble_eq_true rfl), (Nat.le_of_ble_eq_true rfl)⟩ hW pm_all (fun _ => ([((A 0 0), .inr (6, [.ref (A 0 1), .ref (A 0 2), .ref (A 0 3), .ref (A 0 4), .ref (A 0 5)]))] ++ ((wL g (A 0 1) (A 1) (xL X)) ++ ((wC g (A 0 2) (A 2) (xC X)) ++ ((wC g (A 0 3) (A 3) (xR X)) ++ ((wAL g (A 0 4) (xl X)) ++ ((wAL g (A 0 5) (xa X)) ++ (wP  (xE X))))))))) (fun _ => pm_all) rfl rfl hl.1 rfl (Nat.le_of_ble_eq_true rfl) ⟨(Nat.le_of_ble_eq_true rfl), (Nat.le_of_ble_eq_true rfl)⟩ ⟨(Nat.le_of_ble_eq_true rfl), (Nat.le_of_ble_eq_true rfl)⟩ dX3_causeOf_2 (fun E _ h => ⟨(), by obtain ⟨rfl, h0⟩ := h; exact ⟨0, rfl, by unfold xCaus; rw [show inR (sA (pX X)).length v = none from by rw [← hX.alen]; exact h0]⟩, rfl⟩) (fun u_1 H locs e_1 hW => ?_)
  obtain ⟨i, hi, rfl⟩ := e_1
  refine lv_aload_n C.1 C.2.1 dX3_causeOf_5 rfl (lv_at hl 0 rfl) ?_
  refine q_get (v := .ref (A 0 5)) C hW 0 rfl rfl 4 (by decide) gu_X3 (C.2.2.2.2 _ fl_X3_33) rfl rfl dX3_causeOf_6 ?_
  refine lv_iload_n C.1 C.2.1 dX3_causeOf_9 rfl (lv_at hl 1 rfl) ?_
  obtain ⟨p_10, p_10_1, p_10_2, p_10_3, p_10_4, p_10_5⟩ := hX.ac (i := i) (by omega)
  refine q_callFq (rest := []) C hE.2.2.2.2.2.2.2.1.2.1 (c_AL_get l D g (A 0 5) (xa X) i (by omega) hX.2.2.1.2.1 (by have := hX.2.2.1.2.2.2; omega) _) (gw_F ml_X3_148 se_Jx4a65c_Jxbd725_get_3715_Jx4a65c_get_915e3 im_Jx4a65c_get_915e3 ini_Jx4a65c cd_Jx4a65c_get_915e3 rfl) rfl rfl rfl hd_xLget ⟨(Nat.le_of_ble_eq_true rfl), (Nat.le_of_ble_eq_true rfl)⟩ hW pm_5 (fun _ => ([((A 0 0), .inr (6, [.ref (A 0 1), .ref (A 0 2), .ref (A 0 3), .ref (A 0 4), .ref (A 0 5)]))] ++ ((wL g (A 0 1) (A 1) (xL X)) ++ ((wC g (A 0 2) (A 2) (xC X)) ++ ((wC g (A 0 3) (A 3) (xR X)) ++ ((wAL g (A 0 4) (xl X)) ++ ((wAL g (A 0 5) (xa X)) ++ (wP  (xE X))))))))) (fun _ => pm_5) rfl rfl hl.1 rfl (Nat.le_of_ble_eq_true rfl) ⟨(Nat.le_of_ble_eq_true rfl), (Nat.le_of_ble_eq_true rfl)⟩ dX3_causeOf_10 (fun r_2 _ H locs e_2 hW => ?_)
  rw [p_10_1] at e_2
  subst e_2
  refine q_castM C hW (C.2.2.2.2 _ cl_X3_113) (z := p_10.2) (wX_mem p_10_3) dX3_causeOf_15 ?_
  refine q_getM (v := .int (cI (eCa p_10.2))) C hW (wX_mem p_10_3) rfl 5 (by decide) gu_X1 (C.2.2.2.2 _ fl_X3_159) rfl rfl dX3_causeOf_18 ?_
  exact vx_ret (q_iret C hRt hLk hW (narC _) () ⟨_, rfl, by unfold xCaus; rw [show inR (sA (pX X)).length (nI i) = some i from by rw [← hX.alen]; exact inR_nI hi (by omega)]; dsimp only; rw [p_10_2]⟩ rfl (Nat.le_of_ble_eq_true rfl) (Nat.le_of_ble_eq_true rfl) dX3_causeOf_21)
