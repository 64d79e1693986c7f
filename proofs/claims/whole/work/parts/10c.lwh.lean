/-! The law's helpers, one by one. -/
theorem hd_L_state : yL_state.cls ≠ "java/lang/invoke/MethodHandle" ∧ yL_state.cls ≠ "java/lang/invoke/VarHandle" ∧ (parseMethodDescriptor yL_state.desc).map (fun d => d.parameters.length) = some 4 := by decide +kernel
set_option maxHeartbeats 4000000 in
set_option maxRecDepth 100000 in
theorem c_L_state (l : Launch) (hst : l.stackTraces = false) (D : va_G) (g : Nat → ClassId) (ev : Nat × Nat × (Nat → Nat)) (A : Nat → Nat → Nat) (X : XS) (hX : XOK ev.1 X) (v1 : Int32) (v2 : Int32) (o : Nat) (f : Nat → Int64) (sz : Nat) : qHi l yL_state (.codeWith yL_state method_17_code 5 (some .int) [(0, 10, 13, 45), (0, 10, 17, 13)] :: GW) ({ frames := 8, cells := 2, slots := 12, locals := 132 } : Room) D g ev [.ref (A 0 0), .int v1, .int v2, .ref o] (oL g o f ++ wX g A X) sz (hpost ev.1 ((xState (pX X) v1 v2).1, (xState (pX X) v1 v2).2, pX X) (fun rr => (cI rr).toInt64)) (hw_L g A o) 2 12 := by
  refine qh_entry (cc := cL_state) (nL := 5) (ret := some .int) rfl (by decide) (Nat.le_of_ble_eq_true rfl) (fun pp ee ss mm bb mt kc ls C hRt hLk hsz hW hE hN ht hl => ?_)
  have hl : lv_has ls 5 [(0, .ref (A 0 0)), (1, .int v1), (2, .int v2), (3, .ref o)] := hl
  have hW : qW D g (va_A (oL g o f ++ wX g A X) sz) ss.heap ss (oL g o f ++ wX g A X) ss.heap [] := hW
  refine lv_aload_n C.1 C.2.1 dL_state_0 rfl (lv_at hl 3 rfl) ?_
  refine lv_iconst (v := nI 0) C.1 C.2.1 dL_state_1 (by decide) ?_
  refine lv_aload_n C.1 C.2.1 dL_state_2 rfl (lv_at hl 0 rfl) ?_
  refine lv_iload_n C.1 C.2.1 dL_state_3 rfl (lv_at hl 1 rfl) ?_
  refine lv_iload_n C.1 C.2.1 dL_state_4 rfl (lv_at hl 2 rfl) ?_
  refine qh_callVi (rest := [.int (nI 0), .ref o]) C hE (c_X3_state l hst D g ev A X hX v1 v2 _) (gw_V ml_L_67 im_X3_state se_X3_X3_state ini_X3 cd_X3_state rfl) rfl rfl rfl hd_X3_state ⟨(Nat.le_of_ble_eq_true rfl), (Nat.le_of_ble_eq_true rfl)⟩ hW List.perm_append_comm (fun (_ : Unit) => oL g o f ++ wX g A X) (fun _ => List.perm_append_comm) rfl rfl hl.1 rfl (Nat.le_of_ble_eq_true rfl) ⟨(Nat.le_of_ble_eq_true rfl), (Nat.le_of_ble_eq_true rfl)⟩ dL_state_5 (fun E u ce q9 H locs hx hW hc9 hv9 hcl9 => ?_) (fun r u H locs hp hW => ?_)
  · obtain ⟨k, hk, hF⟩ := hx
    rcases k with _ | k
    · obtain rfl : ioN = E := Option.some.inj hk
      refine qh_catch C ht hN 0 rfl (List.mem_of_getElem? (i := 4) rfl) np_n (by decide) (by decide) (C.2.2.2.2 _ cl_L_45) (qTW.use hE.2.2.2.2.2.2.1 n_578 rfl) hc9 hv9 hcl9 ?_
      refine lv_astore (lv' := [(4, .ref q9), (0, .ref (A 0 0)), (1, .int v1), (2, .int v2), (3, .ref o)]) C.1 C.2.1 dL_state_13 hl (by decide) rfl (fun ls hl => ?_)
      refine lv_iconst (v := nI 1) C.1 C.2.1 dL_state_15 (by decide) ?_
      exact q_iret C hRt hLk hW rfl (X, f) ⟨hX, 1, _, by decide, rfl, ex_of _ hF, fun h => absurd h (by decide)⟩ rfl (Nat.le_of_ble_eq_true rfl) (Nat.le_of_ble_eq_true rfl) dL_state_16
    rcases k with _ | k
    · obtain rfl : iaN = E := Option.some.inj hk
      refine qh_catch C ht hN 1 rfl (List.mem_of_getElem? (i := 0) rfl) (np_c ⟨by decide, ioN, List.mem_of_getElem? (i := 4) rfl, by decide, C.2.2.2.2 _ cl_L_45⟩ np_n) (by decide) (by decide) (C.2.2.2.2 _ cl_L_13) (qTW.use hE.2.2.2.2.2.2.1 n_289 rfl) hc9 hv9 hcl9 ?_
      refine lv_astore (lv' := [(4, .ref q9), (0, .ref (A 0 0)), (1, .int v1), (2, .int v2), (3, .ref o)]) C.1 C.2.1 dL_state_17 hl (by decide) rfl (fun ls hl => ?_)
      refine lv_iconst (v := nI 2) C.1 C.2.1 dL_state_19 (by decide) ?_
      exact q_iret C hRt hLk hW rfl (X, f) ⟨hX, 2, _, by decide, rfl, ex_of _ hF, fun h => absurd h (by decide)⟩ rfl (Nat.le_of_ble_eq_true rfl) (Nat.le_of_ble_eq_true rfl) dL_state_20
    exact absurd hk (by simp)
  · obtain ⟨rr, rfl, hF⟩ := hp
    refine lv_i2l (v := (cI rr).toInt64) C.1 C.2.1 dL_state_8 rfl ?_
    refine q_last C hW 0 rfl (k := 0) (by decide) (by decide) (oL g o (vp_updL f 0 ((cI rr).toInt64)) ++ wX g A X) rfl dL_state_9 (fun H locs hW => ?_)
    refine lv_goto (tgt := 21) C.1 C.2.1 dL_state_10 (by decide) ?_
    refine lv_iconst (v := nI 0) C.1 C.2.1 dL_state_21 (by decide) ?_
    exact q_iret C hRt hLk hW rfl (X, vp_updL f 0 ((cI rr).toInt64)) ⟨hX, 0, _, by decide, rfl, ex_of _ hF, fun _ => updL_0 f ((cI rr).toInt64)⟩ rfl (Nat.le_of_ble_eq_true rfl) (Nat.le_of_ble_eq_true rfl) dL_state_22

theorem hd_L_owner : yL_owner.cls ≠ "java/lang/invoke/MethodHandle" ∧ yL_owner.cls ≠ "java/lang/invoke/VarHandle" ∧ (parseMethodDescriptor yL_owner.desc).map (fun d => d.parameters.length) = some 3 := by decide +kernel
set_option maxHeartbeats 4000000 in
set_option maxRecDepth 100000 in
theorem c_L_owner (l : Launch) (hst : l.stackTraces = false) (D : va_G) (g : Nat → ClassId) (ev : Nat × Nat × (Nat → Nat)) (A : Nat → Nat → Nat) (X : XS) (hX : XOK ev.1 X) (v : Int32) (o : Nat) (f : Nat → Int64) (sz : Nat) : qHi l yL_owner (.codeWith yL_owner method_18_code 4 (some .int) [(0, 9, 12, 13), (0, 9, 15, 21)] :: GW) ({ frames := 8, cells := 2, slots := 12, locals := 132 } : Room) D g ev [.ref (A 0 0), .int v, .ref o] (oL g o f ++ wX g A X) sz (hpost ev.1 ((xOwner (pX X) v).1, (xOwner (pX X) v).2, pX X) (fun rr => (nI rr).toInt64)) (hw_L g A o) 2 12 := by
  refine qh_entry (cc := cL_owner) (nL := 4) (ret := some .int) rfl (by decide) (Nat.le_of_ble_eq_true rfl) (fun pp ee ss mm bb mt kc ls C hRt hLk hsz hW hE hN ht hl => ?_)
  have hl : lv_has ls 4 [(0, .ref (A 0 0)), (1, .int v), (2, .ref o)] := hl
  have hW : qW D g (va_A (oL g o f ++ wX g A X) sz) ss.heap ss (oL g o f ++ wX g A X) ss.heap [] := hW
  refine lv_aload_n C.1 C.2.1 dL_owner_0 rfl (lv_at hl 2 rfl) ?_
  refine lv_iconst (v := nI 0) C.1 C.2.1 dL_owner_1 (by decide) ?_
  refine lv_aload_n C.1 C.2.1 dL_owner_2 rfl (lv_at hl 0 rfl) ?_
  refine lv_iload_n C.1 C.2.1 dL_owner_3 rfl (lv_at hl 1 rfl) ?_
  refine qh_callVi (rest := [.int (nI 0), .ref o]) C hE (c_X3_owner l hst D g ev A X hX v _) (gw_V ml_L_71 im_X3_owner se_X3_X3_owner ini_X3 cd_X3_owner rfl) rfl rfl rfl hd_X3_owner ⟨(Nat.le_of_ble_eq_true rfl), (Nat.le_of_ble_eq_true rfl)⟩ hW List.perm_append_comm (fun (_ : Unit) => oL g o f ++ wX g A X) (fun _ => List.perm_append_comm) rfl rfl hl.1 rfl (Nat.le_of_ble_eq_true rfl) ⟨(Nat.le_of_ble_eq_true rfl), (Nat.le_of_ble_eq_true rfl)⟩ dL_owner_4 (fun E u ce q9 H locs hx hW hc9 hv9 hcl9 => ?_) (fun r u H locs hp hW => ?_)
  · obtain ⟨k, hk, hF⟩ := hx
    rcases k with _ | k
    · obtain rfl : iaN = E := Option.some.inj hk
      refine qh_catch C ht hN 0 rfl (List.mem_of_getElem? (i := 0) rfl) np_n (by decide) (by decide) (C.2.2.2.2 _ cl_L_13) (qTW.use hE.2.2.2.2.2.2.1 n_289 rfl) hc9 hv9 hcl9 ?_
      refine lv_astore_n (lv' := [(3, .ref q9), (0, .ref (A 0 0)), (1, .int v), (2, .ref o)]) C.1 C.2.1 dL_owner_12 rfl hl (by decide) rfl (fun ls hl => ?_)
      refine lv_iconst (v := nI 1) C.1 C.2.1 dL_owner_13 (by decide) ?_
      exact q_iret C hRt hLk hW rfl (X, f) ⟨hX, 1, _, by decide, rfl, ex_of _ hF, fun h => absurd h (by decide)⟩ rfl (Nat.le_of_ble_eq_true rfl) (Nat.le_of_ble_eq_true rfl) dL_owner_14
    rcases k with _ | k
    · obtain rfl : nsN = E := Option.some.inj hk
      refine qh_catch C ht hN 1 rfl (List.mem_of_getElem? (i := 2) rfl) (np_c ⟨by decide, iaN, List.mem_of_getElem? (i := 0) rfl, by decide, C.2.2.2.2 _ cl_L_13⟩ np_n) (by decide) (by decide) (C.2.2.2.2 _ cl_L_21) (qTW.use hE.2.2.2.2.2.2.1 n_402 rfl) hc9 hv9 hcl9 ?_
      refine lv_astore_n (lv' := [(3, .ref q9), (0, .ref (A 0 0)), (1, .int v), (2, .ref o)]) C.1 C.2.1 dL_owner_15 rfl hl (by decide) rfl (fun ls hl => ?_)
      refine lv_iconst (v := nI 2) C.1 C.2.1 dL_owner_16 (by decide) ?_
      exact q_iret C hRt hLk hW rfl (X, f) ⟨hX, 2, _, by decide, rfl, ex_of _ hF, fun h => absurd h (by decide)⟩ rfl (Nat.le_of_ble_eq_true rfl) (Nat.le_of_ble_eq_true rfl) dL_owner_17
    exact absurd hk (by simp)
  · obtain ⟨rr, rfl, hF⟩ := hp
    refine lv_i2l (v := (nI rr).toInt64) C.1 C.2.1 dL_owner_7 rfl ?_
    refine q_last C hW 0 rfl (k := 0) (by decide) (by decide) (oL g o (vp_updL f 0 ((nI rr).toInt64)) ++ wX g A X) rfl dL_owner_8 (fun H locs hW => ?_)
    refine lv_goto (tgt := 18) C.1 C.2.1 dL_owner_9 (by decide) ?_
    refine lv_iconst (v := nI 0) C.1 C.2.1 dL_owner_18 (by decide) ?_
    exact q_iret C hRt hLk hW rfl (X, vp_updL f 0 ((nI rr).toInt64)) ⟨hX, 0, _, by decide, rfl, ex_of _ hF, fun _ => updL_0 f ((nI rr).toInt64)⟩ rfl (Nat.le_of_ble_eq_true rfl) (Nat.le_of_ble_eq_true rfl) dL_owner_19

theorem hd_L_holders : yL_holders.cls ≠ "java/lang/invoke/MethodHandle" ∧ yL_holders.cls ≠ "java/lang/invoke/VarHandle" ∧ (parseMethodDescriptor yL_holders.desc).map (fun d => d.parameters.length) = some 3 := by decide +kernel
set_option maxHeartbeats 4000000 in
set_option maxRecDepth 100000 in
theorem c_L_holders (l : Launch) (hst : l.stackTraces = false) (D : va_G) (g : Nat → ClassId) (ev : Nat × Nat × (Nat → Nat)) (A : Nat → Nat → Nat) (X : XS) (hX : XOK ev.1 X) (v : Int32) (o : Nat) (f : Nat → Int64) (sz : Nat) : qHi l yL_holders (.codeWith yL_holders method_19_code 4 (some .int) [(0, 9, 12, 13)] :: GW) ({ frames := 8, cells := 1, slots := 6, locals := 131 } : Room) D g ev [.ref (A 0 0), .int v, .ref o] (oL g o f ++ wX g A X) sz (hpost ev.1 ((xHold (pX X) v).1, (xHold (pX X) v).2, pX X) (fun rr => (nI rr).toInt64)) (hw_L g A o) 1 6 := by
  refine qh_entry (cc := cL_holders) (nL := 4) (ret := some .int) rfl (by decide) (Nat.le_of_ble_eq_true rfl) (fun pp ee ss mm bb mt kc ls C hRt hLk hsz hW hE hN ht hl => ?_)
  have hl : lv_has ls 4 [(0, .ref (A 0 0)), (1, .int v), (2, .ref o)] := hl
  have hW : qW D g (va_A (oL g o f ++ wX g A X) sz) ss.heap ss (oL g o f ++ wX g A X) ss.heap [] := hW
  refine lv_aload_n C.1 C.2.1 dL_holders_0 rfl (lv_at hl 2 rfl) ?_
  refine lv_iconst (v := nI 0) C.1 C.2.1 dL_holders_1 (by decide) ?_
  refine lv_aload_n C.1 C.2.1 dL_holders_2 rfl (lv_at hl 0 rfl) ?_
  refine lv_iload_n C.1 C.2.1 dL_holders_3 rfl (lv_at hl 1 rfl) ?_
  refine qh_callVi (rest := [.int (nI 0), .ref o]) C hE (c_X3_holders l hst D g ev A X hX v _) (gw_V ml_L_74 im_X3_holders se_X3_X3_holders ini_X3 cd_X3_holders rfl) rfl rfl rfl hd_X3_holders ⟨(Nat.le_of_ble_eq_true rfl), (Nat.le_of_ble_eq_true rfl)⟩ hW List.perm_append_comm (fun (_ : Unit) => oL g o f ++ wX g A X) (fun _ => List.perm_append_comm) rfl rfl hl.1 rfl (Nat.le_of_ble_eq_true rfl) ⟨(Nat.le_of_ble_eq_true rfl), (Nat.le_of_ble_eq_true rfl)⟩ dL_holders_4 (fun E u ce q9 H locs hx hW hc9 hv9 hcl9 => ?_) (fun r u H locs hp hW => ?_)
  · obtain ⟨k, hk, hF⟩ := hx
    rcases k with _ | k
    · obtain rfl : iaN = E := Option.some.inj hk
      refine qh_catch C ht hN 0 rfl (List.mem_of_getElem? (i := 0) rfl) np_n (by decide) (by decide) (C.2.2.2.2 _ cl_L_13) (qTW.use hE.2.2.2.2.2.2.1 n_289 rfl) hc9 hv9 hcl9 ?_
      refine lv_astore_n (lv' := [(3, .ref q9), (0, .ref (A 0 0)), (1, .int v), (2, .ref o)]) C.1 C.2.1 dL_holders_12 rfl hl (by decide) rfl (fun ls hl => ?_)
      refine lv_iconst (v := nI 1) C.1 C.2.1 dL_holders_13 (by decide) ?_
      exact q_iret C hRt hLk hW rfl (X, f) ⟨hX, 1, _, by decide, rfl, ex_of _ hF, fun h => absurd h (by decide)⟩ rfl (Nat.le_of_ble_eq_true rfl) (Nat.le_of_ble_eq_true rfl) dL_holders_14
    exact absurd hk (by simp)
  · obtain ⟨rr, rfl, hF⟩ := hp
    refine lv_i2l (v := (nI rr).toInt64) C.1 C.2.1 dL_holders_7 rfl ?_
    refine q_last C hW 0 rfl (k := 0) (by decide) (by decide) (oL g o (vp_updL f 0 ((nI rr).toInt64)) ++ wX g A X) rfl dL_holders_8 (fun H locs hW => ?_)
    refine lv_goto (tgt := 15) C.1 C.2.1 dL_holders_9 (by decide) ?_
    refine lv_iconst (v := nI 0) C.1 C.2.1 dL_holders_15 (by decide) ?_
    exact q_iret C hRt hLk hW rfl (X, vp_updL f 0 ((nI rr).toInt64)) ⟨hX, 0, _, by decide, rfl, ex_of _ hF, fun _ => updL_0 f ((nI rr).toInt64)⟩ rfl (Nat.le_of_ble_eq_true rfl) (Nat.le_of_ble_eq_true rfl) dL_holders_16

theorem hd_L_lines : yL_lines.cls ≠ "java/lang/invoke/MethodHandle" ∧ yL_lines.cls ≠ "java/lang/invoke/VarHandle" ∧ (parseMethodDescriptor yL_lines.desc).map (fun d => d.parameters.length) = some 3 := by decide +kernel
set_option maxHeartbeats 4000000 in
set_option maxRecDepth 100000 in
theorem c_L_lines (l : Launch) (hst : l.stackTraces = false) (D : va_G) (g : Nat → ClassId) (ev : Nat × Nat × (Nat → Nat)) (A : Nat → Nat → Nat) (X : XS) (hX : XOK ev.1 X) (v : Int32) (o : Nat) (f : Nat → Int64) (sz : Nat) : qHi l yL_lines (.codeWith yL_lines method_20_code 4 (some .int) [(0, 9, 12, 45)] :: GW) ({ frames := 8, cells := 1, slots := 6, locals := 133 } : Room) D g ev [.ref (A 0 0), .int v, .ref o] (oL g o f ++ wX g A X) sz (hpost ev.1 ((xLines (pX X) v).1, (xLines (pX X) v).2, pX X) (fun rr => (nI rr).toInt64)) (hw_L g A o) 1 6 := by
  refine qh_entry (cc := cL_lines) (nL := 4) (ret := some .int) rfl (by decide) (Nat.le_of_ble_eq_true rfl) (fun pp ee ss mm bb mt kc ls C hRt hLk hsz hW hE hN ht hl => ?_)
  have hl : lv_has ls 4 [(0, .ref (A 0 0)), (1, .int v), (2, .ref o)] := hl
  have hW : qW D g (va_A (oL g o f ++ wX g A X) sz) ss.heap ss (oL g o f ++ wX g A X) ss.heap [] := hW
  refine lv_aload_n C.1 C.2.1 dL_lines_0 rfl (lv_at hl 2 rfl) ?_
  refine lv_iconst (v := nI 0) C.1 C.2.1 dL_lines_1 (by decide) ?_
  refine lv_aload_n C.1 C.2.1 dL_lines_2 rfl (lv_at hl 0 rfl) ?_
  refine lv_iload_n C.1 C.2.1 dL_lines_3 rfl (lv_at hl 1 rfl) ?_
  refine qh_callVi (rest := [.int (nI 0), .ref o]) C hE (c_X3_lines l hst D g ev A X hX v _) (gw_V ml_L_77 im_X3_lines se_X3_X3_lines ini_X3 cd_X3_lines rfl) rfl rfl rfl hd_X3_lines ⟨(Nat.le_of_ble_eq_true rfl), (Nat.le_of_ble_eq_true rfl)⟩ hW List.perm_append_comm (fun (_ : Unit) => oL g o f ++ wX g A X) (fun _ => List.perm_append_comm) rfl rfl hl.1 rfl (Nat.le_of_ble_eq_true rfl) ⟨(Nat.le_of_ble_eq_true rfl), (Nat.le_of_ble_eq_true rfl)⟩ dL_lines_4 (fun E u ce q9 H locs hx hW hc9 hv9 hcl9 => ?_) (fun r u H locs hp hW => ?_)
  · obtain ⟨k, hk, hF⟩ := hx
    rcases k with _ | k
    · obtain rfl : ioN = E := Option.some.inj hk
      refine qh_catch C ht hN 0 rfl (List.mem_of_getElem? (i := 4) rfl) np_n (by decide) (by decide) (C.2.2.2.2 _ cl_L_45) (qTW.use hE.2.2.2.2.2.2.1 n_578 rfl) hc9 hv9 hcl9 ?_
      refine lv_astore_n (lv' := [(3, .ref q9), (0, .ref (A 0 0)), (1, .int v), (2, .ref o)]) C.1 C.2.1 dL_lines_12 rfl hl (by decide) rfl (fun ls hl => ?_)
      refine lv_iconst (v := nI 1) C.1 C.2.1 dL_lines_13 (by decide) ?_
      exact q_iret C hRt hLk hW rfl (X, f) ⟨hX, 1, _, by decide, rfl, ex_of _ hF, fun h => absurd h (by decide)⟩ rfl (Nat.le_of_ble_eq_true rfl) (Nat.le_of_ble_eq_true rfl) dL_lines_14
    exact absurd hk (by simp)
  · obtain ⟨rr, rfl, hF⟩ := hp
    refine lv_i2l (v := (nI rr).toInt64) C.1 C.2.1 dL_lines_7 rfl ?_
    refine q_last C hW 0 rfl (k := 0) (by decide) (by decide) (oL g o (vp_updL f 0 ((nI rr).toInt64)) ++ wX g A X) rfl dL_lines_8 (fun H locs hW => ?_)
    refine lv_goto (tgt := 15) C.1 C.2.1 dL_lines_9 (by decide) ?_
    refine lv_iconst (v := nI 0) C.1 C.2.1 dL_lines_15 (by decide) ?_
    exact q_iret C hRt hLk hW rfl (X, vp_updL f 0 ((nI rr).toInt64)) ⟨hX, 0, _, by decide, rfl, ex_of _ hF, fun _ => updL_0 f ((nI rr).toInt64)⟩ rfl (Nat.le_of_ble_eq_true rfl) (Nat.le_of_ble_eq_true rfl) dL_lines_16

theorem hd_L_oldest : yL_oldest.cls ≠ "java/lang/invoke/MethodHandle" ∧ yL_oldest.cls ≠ "java/lang/invoke/VarHandle" ∧ (parseMethodDescriptor yL_oldest.desc).map (fun d => d.parameters.length) = some 4 := by decide +kernel
set_option maxHeartbeats 4000000 in
set_option maxRecDepth 100000 in
theorem c_L_oldest (l : Launch) (hst : l.stackTraces = false) (D : va_G) (g : Nat → ClassId) (ev : Nat × Nat × (Nat → Nat)) (A : Nat → Nat → Nat) (X : XS) (hX : XOK ev.1 X) (v1 : Int32) (v2 : Int32) (o : Nat) (f : Nat → Int64) (sz : Nat) : qHi l yL_oldest (.codeWith yL_oldest method_21_code 5 (some .int) [(0, 10, 13, 45), (0, 10, 17, 13), (0, 10, 21, 21)] :: GW) ({ frames := 8, cells := 2, slots := 12, locals := 133 } : Room) D g ev [.ref (A 0 0), .int v1, .int v2, .ref o] (oL g o f ++ wX g A X) sz (hpost ev.1 ((xOldst (pX X) v1 v2).1, (xOldst (pX X) v1 v2).2, pX X) (fun rr => (nI rr).toInt64)) (hw_L g A o) 2 12 := by
  refine qh_entry (cc := cL_oldest) (nL := 5) (ret := some .int) rfl (by decide) (Nat.le_of_ble_eq_true rfl) (fun pp ee ss mm bb mt kc ls C hRt hLk hsz hW hE hN ht hl => ?_)
  have hl : lv_has ls 5 [(0, .ref (A 0 0)), (1, .int v1), (2, .int v2), (3, .ref o)] := hl
  have hW : qW D g (va_A (oL g o f ++ wX g A X) sz) ss.heap ss (oL g o f ++ wX g A X) ss.heap [] := hW
  refine lv_aload_n C.1 C.2.1 dL_oldest_0 rfl (lv_at hl 3 rfl) ?_
  refine lv_iconst (v := nI 0) C.1 C.2.1 dL_oldest_1 (by decide) ?_
  refine lv_aload_n C.1 C.2.1 dL_oldest_2 rfl (lv_at hl 0 rfl) ?_
  refine lv_iload_n C.1 C.2.1 dL_oldest_3 rfl (lv_at hl 1 rfl) ?_
  refine lv_iload_n C.1 C.2.1 dL_oldest_4 rfl (lv_at hl 2 rfl) ?_
  refine qh_callVi (rest := [.int (nI 0), .ref o]) C hE (c_X3_oldest l hst D g ev A X hX v1 v2 _) (gw_V ml_L_80 im_X3_oldest se_X3_X3_oldest ini_X3 cd_X3_oldest rfl) rfl rfl rfl hd_X3_oldest ⟨(Nat.le_of_ble_eq_true rfl), (Nat.le_of_ble_eq_true rfl)⟩ hW List.perm_append_comm (fun (_ : Unit) => oL g o f ++ wX g A X) (fun _ => List.perm_append_comm) rfl rfl hl.1 rfl (Nat.le_of_ble_eq_true rfl) ⟨(Nat.le_of_ble_eq_true rfl), (Nat.le_of_ble_eq_true rfl)⟩ dL_oldest_5 (fun E u ce q9 H locs hx hW hc9 hv9 hcl9 => ?_) (fun r u H locs hp hW => ?_)
  · obtain ⟨k, hk, hF⟩ := hx
    rcases k with _ | k
    · obtain rfl : ioN = E := Option.some.inj hk
      refine qh_catch C ht hN 0 rfl (List.mem_of_getElem? (i := 4) rfl) np_n (by decide) (by decide) (C.2.2.2.2 _ cl_L_45) (qTW.use hE.2.2.2.2.2.2.1 n_578 rfl) hc9 hv9 hcl9 ?_
      refine lv_astore (lv' := [(4, .ref q9), (0, .ref (A 0 0)), (1, .int v1), (2, .int v2), (3, .ref o)]) C.1 C.2.1 dL_oldest_13 hl (by decide) rfl (fun ls hl => ?_)
      refine lv_iconst (v := nI 1) C.1 C.2.1 dL_oldest_15 (by decide) ?_
      exact q_iret C hRt hLk hW rfl (X, f) ⟨hX, 1, _, by decide, rfl, ex_of _ hF, fun h => absurd h (by decide)⟩ rfl (Nat.le_of_ble_eq_true rfl) (Nat.le_of_ble_eq_true rfl) dL_oldest_16
    rcases k with _ | k
    · obtain rfl : iaN = E := Option.some.inj hk
      refine qh_catch C ht hN 1 rfl (List.mem_of_getElem? (i := 0) rfl) (np_c ⟨by decide, ioN, List.mem_of_getElem? (i := 4) rfl, by decide, C.2.2.2.2 _ cl_L_45⟩ np_n) (by decide) (by decide) (C.2.2.2.2 _ cl_L_13) (qTW.use hE.2.2.2.2.2.2.1 n_289 rfl) hc9 hv9 hcl9 ?_
      refine lv_astore (lv' := [(4, .ref q9), (0, .ref (A 0 0)), (1, .int v1), (2, .int v2), (3, .ref o)]) C.1 C.2.1 dL_oldest_17 hl (by decide) rfl (fun ls hl => ?_)
      refine lv_iconst (v := nI 2) C.1 C.2.1 dL_oldest_19 (by decide) ?_
      exact q_iret C hRt hLk hW rfl (X, f) ⟨hX, 2, _, by decide, rfl, ex_of _ hF, fun h => absurd h (by decide)⟩ rfl (Nat.le_of_ble_eq_true rfl) (Nat.le_of_ble_eq_true rfl) dL_oldest_20
    rcases k with _ | k
    · obtain rfl : nsN = E := Option.some.inj hk
      refine qh_catch C ht hN 2 rfl (List.mem_of_getElem? (i := 2) rfl) (np_c ⟨by decide, ioN, List.mem_of_getElem? (i := 4) rfl, by decide, C.2.2.2.2 _ cl_L_45⟩ (np_c ⟨by decide, iaN, List.mem_of_getElem? (i := 0) rfl, by decide, C.2.2.2.2 _ cl_L_13⟩ np_n)) (by decide) (by decide) (C.2.2.2.2 _ cl_L_21) (qTW.use hE.2.2.2.2.2.2.1 n_402 rfl) hc9 hv9 hcl9 ?_
      refine lv_astore (lv' := [(4, .ref q9), (0, .ref (A 0 0)), (1, .int v1), (2, .int v2), (3, .ref o)]) C.1 C.2.1 dL_oldest_21 hl (by decide) rfl (fun ls hl => ?_)
      refine lv_iconst (v := nI 3) C.1 C.2.1 dL_oldest_23 (by decide) ?_
      exact q_iret C hRt hLk hW rfl (X, f) ⟨hX, 3, _, by decide, rfl, ex_of _ hF, fun h => absurd h (by decide)⟩ rfl (Nat.le_of_ble_eq_true rfl) (Nat.le_of_ble_eq_true rfl) dL_oldest_24
    exact absurd hk (by simp)
  · obtain ⟨rr, rfl, hF⟩ := hp
    refine lv_i2l (v := (nI rr).toInt64) C.1 C.2.1 dL_oldest_8 rfl ?_
    refine q_last C hW 0 rfl (k := 0) (by decide) (by decide) (oL g o (vp_updL f 0 ((nI rr).toInt64)) ++ wX g A X) rfl dL_oldest_9 (fun H locs hW => ?_)
    refine lv_goto (tgt := 25) C.1 C.2.1 dL_oldest_10 (by decide) ?_
    refine lv_iconst (v := nI 0) C.1 C.2.1 dL_oldest_25 (by decide) ?_
    exact q_iret C hRt hLk hW rfl (X, vp_updL f 0 ((nI rr).toInt64)) ⟨hX, 0, _, by decide, rfl, ex_of _ hF, fun _ => updL_0 f ((nI rr).toInt64)⟩ rfl (Nat.le_of_ble_eq_true rfl) (Nat.le_of_ble_eq_true rfl) dL_oldest_26

theorem hd_L_count : yL_count.cls ≠ "java/lang/invoke/MethodHandle" ∧ yL_count.cls ≠ "java/lang/invoke/VarHandle" ∧ (parseMethodDescriptor yL_count.desc).map (fun d => d.parameters.length) = some 4 := by decide +kernel
set_option maxHeartbeats 4000000 in
set_option maxRecDepth 100000 in
theorem c_L_count (l : Launch) (hst : l.stackTraces = false) (D : va_G) (g : Nat → ClassId) (ev : Nat × Nat × (Nat → Nat)) (A : Nat → Nat → Nat) (X : XS) (hX : XOK ev.1 X) (v : Int32) (z : UInt16) (o : Nat) (f : Nat → Int64) (sz : Nat) : qHi l yL_count (.codeWith yL_count method_22_code 5 (some .int) [(0, 10, 13, 21), (0, 10, 17, 13)] :: GW) ({ frames := 8, cells := 2, slots := 12, locals := 136 } : Room) D g ev [.ref (A 0 0), .int v, .int (cI z), .ref o] (oL g o f ++ wX g A X) sz (hpost ev.1 ((xCount (pX X) v z).1, (xCount (pX X) v z).2, pX X) (fun rr => (nI rr).toInt64)) (hw_L g A o) 2 12 := by
  refine qh_entry (cc := cL_count) (nL := 5) (ret := some .int) rfl (by decide) (Nat.le_of_ble_eq_true rfl) (fun pp ee ss mm bb mt kc ls C hRt hLk hsz hW hE hN ht hl => ?_)
  have hl : lv_has ls 5 [(0, .ref (A 0 0)), (1, .int v), (2, .int (cI z)), (3, .ref o)] := hl
  have hW : qW D g (va_A (oL g o f ++ wX g A X) sz) ss.heap ss (oL g o f ++ wX g A X) ss.heap [] := hW
  refine lv_aload_n C.1 C.2.1 dL_count_0 rfl (lv_at hl 3 rfl) ?_
  refine lv_iconst (v := nI 0) C.1 C.2.1 dL_count_1 (by decide) ?_
  refine lv_aload_n C.1 C.2.1 dL_count_2 rfl (lv_at hl 0 rfl) ?_
  refine lv_iload_n C.1 C.2.1 dL_count_3 rfl (lv_at hl 1 rfl) ?_
  refine lv_iload_n C.1 C.2.1 dL_count_4 rfl (lv_at hl 2 rfl) ?_
  refine qh_callVi (rest := [.int (nI 0), .ref o]) C hE (c_X3_count l hst D g ev A X hX v z _) (gw_V ml_L_83 im_X3_count se_X3_X3_count ini_X3 cd_X3_count rfl) rfl rfl rfl hd_X3_count ⟨(Nat.le_of_ble_eq_true rfl), (Nat.le_of_ble_eq_true rfl)⟩ hW List.perm_append_comm (fun (_ : Unit) => oL g o f ++ wX g A X) (fun _ => List.perm_append_comm) rfl rfl hl.1 rfl (Nat.le_of_ble_eq_true rfl) ⟨(Nat.le_of_ble_eq_true rfl), (Nat.le_of_ble_eq_true rfl)⟩ dL_count_5 (fun E u ce q9 H locs hx hW hc9 hv9 hcl9 => ?_) (fun r u H locs hp hW => ?_)
  · obtain ⟨k, hk, hF⟩ := hx
    rcases k with _ | k
    · obtain rfl : nsN = E := Option.some.inj hk
      refine qh_catch C ht hN 0 rfl (List.mem_of_getElem? (i := 2) rfl) np_n (by decide) (by decide) (C.2.2.2.2 _ cl_L_21) (qTW.use hE.2.2.2.2.2.2.1 n_402 rfl) hc9 hv9 hcl9 ?_
      refine lv_astore (lv' := [(4, .ref q9), (0, .ref (A 0 0)), (1, .int v), (2, .int (cI z)), (3, .ref o)]) C.1 C.2.1 dL_count_13 hl (by decide) rfl (fun ls hl => ?_)
      refine lv_iconst (v := nI 1) C.1 C.2.1 dL_count_15 (by decide) ?_
      exact q_iret C hRt hLk hW rfl (X, f) ⟨hX, 1, _, by decide, rfl, ex_of _ hF, fun h => absurd h (by decide)⟩ rfl (Nat.le_of_ble_eq_true rfl) (Nat.le_of_ble_eq_true rfl) dL_count_16
    rcases k with _ | k
    · obtain rfl : iaN = E := Option.some.inj hk
      refine qh_catch C ht hN 1 rfl (List.mem_of_getElem? (i := 0) rfl) (np_c ⟨by decide, nsN, List.mem_of_getElem? (i := 2) rfl, by decide, C.2.2.2.2 _ cl_L_21⟩ np_n) (by decide) (by decide) (C.2.2.2.2 _ cl_L_13) (qTW.use hE.2.2.2.2.2.2.1 n_289 rfl) hc9 hv9 hcl9 ?_
      refine lv_astore (lv' := [(4, .ref q9), (0, .ref (A 0 0)), (1, .int v), (2, .int (cI z)), (3, .ref o)]) C.1 C.2.1 dL_count_17 hl (by decide) rfl (fun ls hl => ?_)
      refine lv_iconst (v := nI 2) C.1 C.2.1 dL_count_19 (by decide) ?_
      exact q_iret C hRt hLk hW rfl (X, f) ⟨hX, 2, _, by decide, rfl, ex_of _ hF, fun h => absurd h (by decide)⟩ rfl (Nat.le_of_ble_eq_true rfl) (Nat.le_of_ble_eq_true rfl) dL_count_20
    exact absurd hk (by simp)
  · obtain ⟨rr, rfl, hF⟩ := hp
    refine lv_i2l (v := (nI rr).toInt64) C.1 C.2.1 dL_count_8 rfl ?_
    refine q_last C hW 0 rfl (k := 0) (by decide) (by decide) (oL g o (vp_updL f 0 ((nI rr).toInt64)) ++ wX g A X) rfl dL_count_9 (fun H locs hW => ?_)
    refine lv_goto (tgt := 21) C.1 C.2.1 dL_count_10 (by decide) ?_
    refine lv_iconst (v := nI 0) C.1 C.2.1 dL_count_21 (by decide) ?_
    exact q_iret C hRt hLk hW rfl (X, vp_updL f 0 ((nI rr).toInt64)) ⟨hX, 0, _, by decide, rfl, ex_of _ hF, fun _ => updL_0 f ((nI rr).toInt64)⟩ rfl (Nat.le_of_ble_eq_true rfl) (Nat.le_of_ble_eq_true rfl) dL_count_22

theorem hd_L_bill : yL_bill.cls ≠ "java/lang/invoke/MethodHandle" ∧ yL_bill.cls ≠ "java/lang/invoke/VarHandle" ∧ (parseMethodDescriptor yL_bill.desc).map (fun d => d.parameters.length) = some 3 := by decide +kernel
set_option maxHeartbeats 4000000 in
set_option maxRecDepth 100000 in
theorem c_L_bill (l : Launch) (hst : l.stackTraces = false) (D : va_G) (g : Nat → ClassId) (ev : Nat × Nat × (Nat → Nat)) (A : Nat → Nat → Nat) (X : XS) (hX : XOK ev.1 X) (v : Int32) (o : Nat) (f : Nat → Int64) (sz : Nat) : qHi l yL_bill (.codeWith yL_bill method_23_code 4 (some .int) [(0, 8, 11, 21)] :: GW) ({ frames := 8, cells := 1, slots := 6, locals := 136 } : Room) D g ev [.ref (A 0 0), .int v, .ref o] (oL g o f ++ wX g A X) sz (hpost ev.1 ((xBill (pX X) v).1, (xBill (pX X) v).2, pX X) (fun rr => rr)) (hw_L g A o) 1 6 := by
  refine qh_entry (cc := cL_bill) (nL := 4) (ret := some .int) rfl (by decide) (Nat.le_of_ble_eq_true rfl) (fun pp ee ss mm bb mt kc ls C hRt hLk hsz hW hE hN ht hl => ?_)
  have hl : lv_has ls 4 [(0, .ref (A 0 0)), (1, .int v), (2, .ref o)] := hl
  have hW : qW D g (va_A (oL g o f ++ wX g A X) sz) ss.heap ss (oL g o f ++ wX g A X) ss.heap [] := hW
  refine lv_aload_n C.1 C.2.1 dL_bill_0 rfl (lv_at hl 2 rfl) ?_
  refine lv_iconst (v := nI 0) C.1 C.2.1 dL_bill_1 (by decide) ?_
  refine lv_aload_n C.1 C.2.1 dL_bill_2 rfl (lv_at hl 0 rfl) ?_
  refine lv_iload_n C.1 C.2.1 dL_bill_3 rfl (lv_at hl 1 rfl) ?_
  refine qh_callVl (rest := [.int (nI 0), .ref o]) C hE (c_X3_bill l hst D g ev A X hX v _) (gw_V ml_L_87 im_X3_bill se_X3_X3_bill ini_X3 cd_X3_bill rfl) rfl rfl rfl hd_X3_bill ⟨(Nat.le_of_ble_eq_true rfl), (Nat.le_of_ble_eq_true rfl)⟩ hW List.perm_append_comm (fun (_ : Unit) => oL g o f ++ wX g A X) (fun _ => List.perm_append_comm) rfl rfl hl.1 rfl (Nat.le_of_ble_eq_true rfl) ⟨(Nat.le_of_ble_eq_true rfl), (Nat.le_of_ble_eq_true rfl)⟩ dL_bill_4 (fun E u ce q9 H locs hx hW hc9 hv9 hcl9 => ?_) (fun r u H locs hp hW => ?_)
  · obtain ⟨k, hk, hF⟩ := hx
    rcases k with _ | k
    · obtain rfl : nsN = E := Option.some.inj hk
      refine qh_catch C ht hN 0 rfl (List.mem_of_getElem? (i := 2) rfl) np_n (by decide) (by decide) (C.2.2.2.2 _ cl_L_21) (qTW.use hE.2.2.2.2.2.2.1 n_402 rfl) hc9 hv9 hcl9 ?_
      refine lv_astore_n (lv' := [(3, .ref q9), (0, .ref (A 0 0)), (1, .int v), (2, .ref o)]) C.1 C.2.1 dL_bill_11 rfl hl (by decide) rfl (fun ls hl => ?_)
      refine lv_iconst (v := nI 1) C.1 C.2.1 dL_bill_12 (by decide) ?_
      exact q_iret C hRt hLk hW rfl (X, f) ⟨hX, 1, _, by decide, rfl, ex_of _ hF, fun h => absurd h (by decide)⟩ rfl (Nat.le_of_ble_eq_true rfl) (Nat.le_of_ble_eq_true rfl) dL_bill_13
    exact absurd hk (by simp)
  · obtain ⟨rr, rfl, hF⟩ := hp
    refine q_last C hW 0 rfl (k := 0) (by decide) (by decide) (oL g o (vp_updL f 0 rr) ++ wX g A X) rfl dL_bill_7 (fun H locs hW => ?_)
    refine lv_goto (tgt := 14) C.1 C.2.1 dL_bill_8 (by decide) ?_
    refine lv_iconst (v := nI 0) C.1 C.2.1 dL_bill_14 (by decide) ?_
    exact q_iret C hRt hLk hW rfl (X, vp_updL f 0 rr) ⟨hX, 0, _, by decide, rfl, ex_of _ hF, fun _ => updL_0 f rr⟩ rfl (Nat.le_of_ble_eq_true rfl) (Nat.le_of_ble_eq_true rfl) dL_bill_15

theorem hd_L_worst : yL_worst.cls ≠ "java/lang/invoke/MethodHandle" ∧ yL_worst.cls ≠ "java/lang/invoke/VarHandle" ∧ (parseMethodDescriptor yL_worst.desc).map (fun d => d.parameters.length) = some 2 := by decide +kernel
set_option maxHeartbeats 4000000 in
set_option maxRecDepth 100000 in
theorem c_L_worst (l : Launch) (hst : l.stackTraces = false) (D : va_G) (g : Nat → ClassId) (ev : Nat × Nat × (Nat → Nat)) (A : Nat → Nat → Nat) (X : XS) (hX : XOK ev.1 X) (o : Nat) (f : Nat → Int64) (sz : Nat) : qHi l yL_worst (.codeWith yL_worst method_24_code 3 (some .int) [(0, 8, 11, 21)] :: GW) ({ frames := 7, cells := 1, slots := 6, locals := 141 } : Room) D g ev [.ref (A 0 0), .ref o] (oL g o f ++ wX g A X) sz (hpost ev.1 ((xWorst (pX X)).1, (xWorst (pX X)).2, pX X) (fun rr => (nI rr).toInt64)) (hw_L g A o) 1 6 := by
  refine qh_entry (cc := cL_worst) (nL := 3) (ret := some .int) rfl (by decide) (Nat.le_of_ble_eq_true rfl) (fun pp ee ss mm bb mt kc ls C hRt hLk hsz hW hE hN ht hl => ?_)
  have hl : lv_has ls 3 [(0, .ref (A 0 0)), (1, .ref o)] := hl
  have hW : qW D g (va_A (oL g o f ++ wX g A X) sz) ss.heap ss (oL g o f ++ wX g A X) ss.heap [] := hW
  refine lv_aload_n C.1 C.2.1 dL_worst_0 rfl (lv_at hl 1 rfl) ?_
  refine lv_iconst (v := nI 0) C.1 C.2.1 dL_worst_1 (by decide) ?_
  refine lv_aload_n C.1 C.2.1 dL_worst_2 rfl (lv_at hl 0 rfl) ?_
  refine qh_callVi (rest := [.int (nI 0), .ref o]) C hE (c_X3_worst l hst D g ev A X hX _) (gw_V ml_L_91 im_X3_worst se_X3_X3_worst ini_X3 cd_X3_worst rfl) rfl rfl rfl hd_X3_worst ⟨(Nat.le_of_ble_eq_true rfl), (Nat.le_of_ble_eq_true rfl)⟩ hW List.perm_append_comm (fun (_ : Unit) => oL g o f ++ wX g A X) (fun _ => List.perm_append_comm) rfl rfl hl.1 rfl (Nat.le_of_ble_eq_true rfl) ⟨(Nat.le_of_ble_eq_true rfl), (Nat.le_of_ble_eq_true rfl)⟩ dL_worst_3 (fun E u ce q9 H locs hx hW hc9 hv9 hcl9 => ?_) (fun r u H locs hp hW => ?_)
  · obtain ⟨k, hk, hF⟩ := hx
    rcases k with _ | k
    · obtain rfl : nsN = E := Option.some.inj hk
      refine qh_catch C ht hN 0 rfl (List.mem_of_getElem? (i := 2) rfl) np_n (by decide) (by decide) (C.2.2.2.2 _ cl_L_21) (qTW.use hE.2.2.2.2.2.2.1 n_402 rfl) hc9 hv9 hcl9 ?_
      refine lv_astore_n (lv' := [(2, .ref q9), (0, .ref (A 0 0)), (1, .ref o)]) C.1 C.2.1 dL_worst_11 rfl hl (by decide) rfl (fun ls hl => ?_)
      refine lv_iconst (v := nI 1) C.1 C.2.1 dL_worst_12 (by decide) ?_
      exact q_iret C hRt hLk hW rfl (X, f) ⟨hX, 1, _, by decide, rfl, ex_of _ hF, fun h => absurd h (by decide)⟩ rfl (Nat.le_of_ble_eq_true rfl) (Nat.le_of_ble_eq_true rfl) dL_worst_13
    exact absurd hk (by simp)
  · obtain ⟨rr, rfl, hF⟩ := hp
    refine lv_i2l (v := (nI rr).toInt64) C.1 C.2.1 dL_worst_6 rfl ?_
    refine q_last C hW 0 rfl (k := 0) (by decide) (by decide) (oL g o (vp_updL f 0 ((nI rr).toInt64)) ++ wX g A X) rfl dL_worst_7 (fun H locs hW => ?_)
    refine lv_goto (tgt := 14) C.1 C.2.1 dL_worst_8 (by decide) ?_
    refine lv_iconst (v := nI 0) C.1 C.2.1 dL_worst_14 (by decide) ?_
    exact q_iret C hRt hLk hW rfl (X, vp_updL f 0 ((nI rr).toInt64)) ⟨hX, 0, _, by decide, rfl, ex_of _ hF, fun _ => updL_0 f ((nI rr).toInt64)⟩ rfl (Nat.le_of_ble_eq_true rfl) (Nat.le_of_ble_eq_true rfl) dL_worst_15

theorem hd_L_cycles : yL_cycles.cls ≠ "java/lang/invoke/MethodHandle" ∧ yL_cycles.cls ≠ "java/lang/invoke/VarHandle" ∧ (parseMethodDescriptor yL_cycles.desc).map (fun d => d.parameters.length) = some 3 := by decide +kernel
set_option maxHeartbeats 4000000 in
set_option maxRecDepth 100000 in
theorem c_L_cycles (l : Launch) (hst : l.stackTraces = false) (D : va_G) (g : Nat → ClassId) (ev : Nat × Nat × (Nat → Nat)) (A : Nat → Nat → Nat) (X : XS) (hX : XOK ev.1 X) (v : Int32) (o : Nat) (f : Nat → Int64) (sz : Nat) : qHi l yL_cycles (.codeWith yL_cycles method_25_code 4 (some .int) [(0, 8, 11, 45)] :: GW) ({ frames := 8, cells := 1, slots := 6, locals := 135 } : Room) D g ev [.ref (A 0 0), .int v, .ref o] (oL g o f ++ wX g A X) sz (hpost ev.1 ((xCyc (pX X) v).1, (xCyc (pX X) v).2, pX X) (fun rr => rr)) (hw_L g A o) 1 6 := by
  refine qh_entry (cc := cL_cycles) (nL := 4) (ret := some .int) rfl (by decide) (Nat.le_of_ble_eq_true rfl) (fun pp ee ss mm bb mt kc ls C hRt hLk hsz hW hE hN ht hl => ?_)
  have hl : lv_has ls 4 [(0, .ref (A 0 0)), (1, .int v), (2, .ref o)] := hl
  have hW : qW D g (va_A (oL g o f ++ wX g A X) sz) ss.heap ss (oL g o f ++ wX g A X) ss.heap [] := hW
  refine lv_aload_n C.1 C.2.1 dL_cycles_0 rfl (lv_at hl 2 rfl) ?_
  refine lv_iconst (v := nI 0) C.1 C.2.1 dL_cycles_1 (by decide) ?_
  refine lv_aload_n C.1 C.2.1 dL_cycles_2 rfl (lv_at hl 0 rfl) ?_
  refine lv_iload_n C.1 C.2.1 dL_cycles_3 rfl (lv_at hl 1 rfl) ?_
  refine qh_callVl (rest := [.int (nI 0), .ref o]) C hE (c_X3_cycles l hst D g ev A X hX v _) (gw_V ml_L_95 im_X3_cycles se_X3_X3_cycles ini_X3 cd_X3_cycles rfl) rfl rfl rfl hd_X3_cycles ⟨(Nat.le_of_ble_eq_true rfl), (Nat.le_of_ble_eq_true rfl)⟩ hW List.perm_append_comm (fun (_ : Unit) => oL g o f ++ wX g A X) (fun _ => List.perm_append_comm) rfl rfl hl.1 rfl (Nat.le_of_ble_eq_true rfl) ⟨(Nat.le_of_ble_eq_true rfl), (Nat.le_of_ble_eq_true rfl)⟩ dL_cycles_4 (fun E u ce q9 H locs hx hW hc9 hv9 hcl9 => ?_) (fun r u H locs hp hW => ?_)
  · obtain ⟨k, hk, hF⟩ := hx
    rcases k with _ | k
    · obtain rfl : ioN = E := Option.some.inj hk
      refine qh_catch C ht hN 0 rfl (List.mem_of_getElem? (i := 4) rfl) np_n (by decide) (by decide) (C.2.2.2.2 _ cl_L_45) (qTW.use hE.2.2.2.2.2.2.1 n_578 rfl) hc9 hv9 hcl9 ?_
      refine lv_astore_n (lv' := [(3, .ref q9), (0, .ref (A 0 0)), (1, .int v), (2, .ref o)]) C.1 C.2.1 dL_cycles_11 rfl hl (by decide) rfl (fun ls hl => ?_)
      refine lv_iconst (v := nI 1) C.1 C.2.1 dL_cycles_12 (by decide) ?_
      exact q_iret C hRt hLk hW rfl (X, f) ⟨hX, 1, _, by decide, rfl, ex_of _ hF, fun h => absurd h (by decide)⟩ rfl (Nat.le_of_ble_eq_true rfl) (Nat.le_of_ble_eq_true rfl) dL_cycles_13
    exact absurd hk (by simp)
  · obtain ⟨rr, rfl, hF⟩ := hp
    refine q_last C hW 0 rfl (k := 0) (by decide) (by decide) (oL g o (vp_updL f 0 rr) ++ wX g A X) rfl dL_cycles_7 (fun H locs hW => ?_)
    refine lv_goto (tgt := 14) C.1 C.2.1 dL_cycles_8 (by decide) ?_
    refine lv_iconst (v := nI 0) C.1 C.2.1 dL_cycles_14 (by decide) ?_
    exact q_iret C hRt hLk hW rfl (X, vp_updL f 0 rr) ⟨hX, 0, _, by decide, rfl, ex_of _ hF, fun _ => updL_0 f rr⟩ rfl (Nat.le_of_ble_eq_true rfl) (Nat.le_of_ble_eq_true rfl) dL_cycles_15

theorem hd_L_fetched : yL_fetched.cls ≠ "java/lang/invoke/MethodHandle" ∧ yL_fetched.cls ≠ "java/lang/invoke/VarHandle" ∧ (parseMethodDescriptor yL_fetched.desc).map (fun d => d.parameters.length) = some 3 := by decide +kernel
set_option maxHeartbeats 4000000 in
set_option maxRecDepth 100000 in
theorem c_L_fetched (l : Launch) (hst : l.stackTraces = false) (D : va_G) (g : Nat → ClassId) (ev : Nat × Nat × (Nat → Nat)) (A : Nat → Nat → Nat) (X : XS) (hX : XOK ev.1 X) (v : Int32) (o : Nat) (f : Nat → Int64) (sz : Nat) : qHi l yL_fetched (.codeWith yL_fetched method_26_code 4 (some .int) [(0, 9, 12, 45)] :: GW) ({ frames := 8, cells := 1, slots := 6, locals := 131 } : Room) D g ev [.ref (A 0 0), .int v, .ref o] (oL g o f ++ wX g A X) sz (hpost ev.1 ((xFet (pX X) v).1, (xFet (pX X) v).2, pX X) (fun rr => rr.toInt64)) (hw_L g A o) 1 6 := by
  refine qh_entry (cc := cL_fetched) (nL := 4) (ret := some .int) rfl (by decide) (Nat.le_of_ble_eq_true rfl) (fun pp ee ss mm bb mt kc ls C hRt hLk hsz hW hE hN ht hl => ?_)
  have hl : lv_has ls 4 [(0, .ref (A 0 0)), (1, .int v), (2, .ref o)] := hl
  have hW : qW D g (va_A (oL g o f ++ wX g A X) sz) ss.heap ss (oL g o f ++ wX g A X) ss.heap [] := hW
  refine lv_aload_n C.1 C.2.1 dL_fetched_0 rfl (lv_at hl 2 rfl) ?_
  refine lv_iconst (v := nI 0) C.1 C.2.1 dL_fetched_1 (by decide) ?_
  refine lv_aload_n C.1 C.2.1 dL_fetched_2 rfl (lv_at hl 0 rfl) ?_
  refine lv_iload_n C.1 C.2.1 dL_fetched_3 rfl (lv_at hl 1 rfl) ?_
  refine qh_callVi (rest := [.int (nI 0), .ref o]) C hE (c_X3_fetched l hst D g ev A X hX v _) (gw_V ml_L_98 im_X3_fetched se_X3_X3_fetched ini_X3 cd_X3_fetched rfl) rfl rfl rfl hd_X3_fetched ⟨(Nat.le_of_ble_eq_true rfl), (Nat.le_of_ble_eq_true rfl)⟩ hW List.perm_append_comm (fun (_ : Unit) => oL g o f ++ wX g A X) (fun _ => List.perm_append_comm) rfl rfl hl.1 rfl (Nat.le_of_ble_eq_true rfl) ⟨(Nat.le_of_ble_eq_true rfl), (Nat.le_of_ble_eq_true rfl)⟩ dL_fetched_4 (fun E u ce q9 H locs hx hW hc9 hv9 hcl9 => ?_) (fun r u H locs hp hW => ?_)
  · obtain ⟨k, hk, hF⟩ := hx
    rcases k with _ | k
    · obtain rfl : ioN = E := Option.some.inj hk
      refine qh_catch C ht hN 0 rfl (List.mem_of_getElem? (i := 4) rfl) np_n (by decide) (by decide) (C.2.2.2.2 _ cl_L_45) (qTW.use hE.2.2.2.2.2.2.1 n_578 rfl) hc9 hv9 hcl9 ?_
      refine lv_astore_n (lv' := [(3, .ref q9), (0, .ref (A 0 0)), (1, .int v), (2, .ref o)]) C.1 C.2.1 dL_fetched_12 rfl hl (by decide) rfl (fun ls hl => ?_)
      refine lv_iconst (v := nI 1) C.1 C.2.1 dL_fetched_13 (by decide) ?_
      exact q_iret C hRt hLk hW rfl (X, f) ⟨hX, 1, _, by decide, rfl, ex_of _ hF, fun h => absurd h (by decide)⟩ rfl (Nat.le_of_ble_eq_true rfl) (Nat.le_of_ble_eq_true rfl) dL_fetched_14
    exact absurd hk (by simp)
  · obtain ⟨rr, rfl, hF⟩ := hp
    refine lv_i2l (v := rr.toInt64) C.1 C.2.1 dL_fetched_7 rfl ?_
    refine q_last C hW 0 rfl (k := 0) (by decide) (by decide) (oL g o (vp_updL f 0 rr.toInt64) ++ wX g A X) rfl dL_fetched_8 (fun H locs hW => ?_)
    refine lv_goto (tgt := 15) C.1 C.2.1 dL_fetched_9 (by decide) ?_
    refine lv_iconst (v := nI 0) C.1 C.2.1 dL_fetched_15 (by decide) ?_
    exact q_iret C hRt hLk hW rfl (X, vp_updL f 0 rr.toInt64) ⟨hX, 0, _, by decide, rfl, ex_of _ hF, fun _ => updL_0 f rr.toInt64⟩ rfl (Nat.le_of_ble_eq_true rfl) (Nat.le_of_ble_eq_true rfl) dL_fetched_16

theorem hd_L_useful : yL_useful.cls ≠ "java/lang/invoke/MethodHandle" ∧ yL_useful.cls ≠ "java/lang/invoke/VarHandle" ∧ (parseMethodDescriptor yL_useful.desc).map (fun d => d.parameters.length) = some 3 := by decide +kernel
set_option maxHeartbeats 4000000 in
set_option maxRecDepth 100000 in
theorem c_L_useful (l : Launch) (hst : l.stackTraces = false) (D : va_G) (g : Nat → ClassId) (ev : Nat × Nat × (Nat → Nat)) (A : Nat → Nat → Nat) (X : XS) (hX : XOK ev.1 X) (v : Int32) (o : Nat) (f : Nat → Int64) (sz : Nat) : qHi l yL_useful (.codeWith yL_useful method_27_code 4 (some .int) [(0, 9, 12, 45)] :: GW) ({ frames := 8, cells := 1, slots := 6, locals := 131 } : Room) D g ev [.ref (A 0 0), .int v, .ref o] (oL g o f ++ wX g A X) sz (hpost ev.1 ((xUsef (pX X) v).1, (xUsef (pX X) v).2, pX X) (fun rr => rr.toInt64)) (hw_L g A o) 1 6 := by
  refine qh_entry (cc := cL_useful) (nL := 4) (ret := some .int) rfl (by decide) (Nat.le_of_ble_eq_true rfl) (fun pp ee ss mm bb mt kc ls C hRt hLk hsz hW hE hN ht hl => ?_)
  have hl : lv_has ls 4 [(0, .ref (A 0 0)), (1, .int v), (2, .ref o)] := hl
  have hW : qW D g (va_A (oL g o f ++ wX g A X) sz) ss.heap ss (oL g o f ++ wX g A X) ss.heap [] := hW
  refine lv_aload_n C.1 C.2.1 dL_useful_0 rfl (lv_at hl 2 rfl) ?_
  refine lv_iconst (v := nI 0) C.1 C.2.1 dL_useful_1 (by decide) ?_
  refine lv_aload_n C.1 C.2.1 dL_useful_2 rfl (lv_at hl 0 rfl) ?_
  refine lv_iload_n C.1 C.2.1 dL_useful_3 rfl (lv_at hl 1 rfl) ?_
  refine qh_callVi (rest := [.int (nI 0), .ref o]) C hE (c_X3_useful l hst D g ev A X hX v _) (gw_V ml_L_101 im_X3_useful se_X3_X3_useful ini_X3 cd_X3_useful rfl) rfl rfl rfl hd_X3_useful ⟨(Nat.le_of_ble_eq_true rfl), (Nat.le_of_ble_eq_true rfl)⟩ hW List.perm_append_comm (fun (_ : Unit) => oL g o f ++ wX g A X) (fun _ => List.perm_append_comm) rfl rfl hl.1 rfl (Nat.le_of_ble_eq_true rfl) ⟨(Nat.le_of_ble_eq_true rfl), (Nat.le_of_ble_eq_true rfl)⟩ dL_useful_4 (fun E u ce q9 H locs hx hW hc9 hv9 hcl9 => ?_) (fun r u H locs hp hW => ?_)
  · obtain ⟨k, hk, hF⟩ := hx
    rcases k with _ | k
    · obtain rfl : ioN = E := Option.some.inj hk
      refine qh_catch C ht hN 0 rfl (List.mem_of_getElem? (i := 4) rfl) np_n (by decide) (by decide) (C.2.2.2.2 _ cl_L_45) (qTW.use hE.2.2.2.2.2.2.1 n_578 rfl) hc9 hv9 hcl9 ?_
      refine lv_astore_n (lv' := [(3, .ref q9), (0, .ref (A 0 0)), (1, .int v), (2, .ref o)]) C.1 C.2.1 dL_useful_12 rfl hl (by decide) rfl (fun ls hl => ?_)
      refine lv_iconst (v := nI 1) C.1 C.2.1 dL_useful_13 (by decide) ?_
      exact q_iret C hRt hLk hW rfl (X, f) ⟨hX, 1, _, by decide, rfl, ex_of _ hF, fun h => absurd h (by decide)⟩ rfl (Nat.le_of_ble_eq_true rfl) (Nat.le_of_ble_eq_true rfl) dL_useful_14
    exact absurd hk (by simp)
  · obtain ⟨rr, rfl, hF⟩ := hp
    refine lv_i2l (v := rr.toInt64) C.1 C.2.1 dL_useful_7 rfl ?_
    refine q_last C hW 0 rfl (k := 0) (by decide) (by decide) (oL g o (vp_updL f 0 rr.toInt64) ++ wX g A X) rfl dL_useful_8 (fun H locs hW => ?_)
    refine lv_goto (tgt := 15) C.1 C.2.1 dL_useful_9 (by decide) ?_
    refine lv_iconst (v := nI 0) C.1 C.2.1 dL_useful_15 (by decide) ?_
    exact q_iret C hRt hLk hW rfl (X, vp_updL f 0 rr.toInt64) ⟨hX, 0, _, by decide, rfl, ex_of _ hF, fun _ => updL_0 f rr.toInt64⟩ rfl (Nat.le_of_ble_eq_true rfl) (Nat.le_of_ble_eq_true rfl) dL_useful_16

theorem hd_L_wrong : yL_wrong.cls ≠ "java/lang/invoke/MethodHandle" ∧ yL_wrong.cls ≠ "java/lang/invoke/VarHandle" ∧ (parseMethodDescriptor yL_wrong.desc).map (fun d => d.parameters.length) = some 3 := by decide +kernel
set_option maxHeartbeats 4000000 in
set_option maxRecDepth 100000 in
theorem c_L_wrong (l : Launch) (hst : l.stackTraces = false) (D : va_G) (g : Nat → ClassId) (ev : Nat × Nat × (Nat → Nat)) (A : Nat → Nat → Nat) (X : XS) (hX : XOK ev.1 X) (v : Int32) (o : Nat) (f : Nat → Int64) (sz : Nat) : qHi l yL_wrong (.codeWith yL_wrong method_28_code 4 (some .int) [(0, 9, 12, 45)] :: GW) ({ frames := 8, cells := 1, slots := 6, locals := 131 } : Room) D g ev [.ref (A 0 0), .int v, .ref o] (oL g o f ++ wX g A X) sz (hpost ev.1 ((xWrg (pX X) v).1, (xWrg (pX X) v).2, pX X) (fun rr => rr.toInt64)) (hw_L g A o) 1 6 := by
  refine qh_entry (cc := cL_wrong) (nL := 4) (ret := some .int) rfl (by decide) (Nat.le_of_ble_eq_true rfl) (fun pp ee ss mm bb mt kc ls C hRt hLk hsz hW hE hN ht hl => ?_)
  have hl : lv_has ls 4 [(0, .ref (A 0 0)), (1, .int v), (2, .ref o)] := hl
  have hW : qW D g (va_A (oL g o f ++ wX g A X) sz) ss.heap ss (oL g o f ++ wX g A X) ss.heap [] := hW
  refine lv_aload_n C.1 C.2.1 dL_wrong_0 rfl (lv_at hl 2 rfl) ?_
  refine lv_iconst (v := nI 0) C.1 C.2.1 dL_wrong_1 (by decide) ?_
  refine lv_aload_n C.1 C.2.1 dL_wrong_2 rfl (lv_at hl 0 rfl) ?_
  refine lv_iload_n C.1 C.2.1 dL_wrong_3 rfl (lv_at hl 1 rfl) ?_
  refine qh_callVi (rest := [.int (nI 0), .ref o]) C hE (c_X3_wrong l hst D g ev A X hX v _) (gw_V ml_L_104 im_X3_wrong se_X3_X3_wrong ini_X3 cd_X3_wrong rfl) rfl rfl rfl hd_X3_wrong ⟨(Nat.le_of_ble_eq_true rfl), (Nat.le_of_ble_eq_true rfl)⟩ hW List.perm_append_comm (fun (_ : Unit) => oL g o f ++ wX g A X) (fun _ => List.perm_append_comm) rfl rfl hl.1 rfl (Nat.le_of_ble_eq_true rfl) ⟨(Nat.le_of_ble_eq_true rfl), (Nat.le_of_ble_eq_true rfl)⟩ dL_wrong_4 (fun E u ce q9 H locs hx hW hc9 hv9 hcl9 => ?_) (fun r u H locs hp hW => ?_)
  · obtain ⟨k, hk, hF⟩ := hx
    rcases k with _ | k
    · obtain rfl : ioN = E := Option.some.inj hk
      refine qh_catch C ht hN 0 rfl (List.mem_of_getElem? (i := 4) rfl) np_n (by decide) (by decide) (C.2.2.2.2 _ cl_L_45) (qTW.use hE.2.2.2.2.2.2.1 n_578 rfl) hc9 hv9 hcl9 ?_
      refine lv_astore_n (lv' := [(3, .ref q9), (0, .ref (A 0 0)), (1, .int v), (2, .ref o)]) C.1 C.2.1 dL_wrong_12 rfl hl (by decide) rfl (fun ls hl => ?_)
      refine lv_iconst (v := nI 1) C.1 C.2.1 dL_wrong_13 (by decide) ?_
      exact q_iret C hRt hLk hW rfl (X, f) ⟨hX, 1, _, by decide, rfl, ex_of _ hF, fun h => absurd h (by decide)⟩ rfl (Nat.le_of_ble_eq_true rfl) (Nat.le_of_ble_eq_true rfl) dL_wrong_14
    exact absurd hk (by simp)
  · obtain ⟨rr, rfl, hF⟩ := hp
    refine lv_i2l (v := rr.toInt64) C.1 C.2.1 dL_wrong_7 rfl ?_
    refine q_last C hW 0 rfl (k := 0) (by decide) (by decide) (oL g o (vp_updL f 0 rr.toInt64) ++ wX g A X) rfl dL_wrong_8 (fun H locs hW => ?_)
    refine lv_goto (tgt := 15) C.1 C.2.1 dL_wrong_9 (by decide) ?_
    refine lv_iconst (v := nI 0) C.1 C.2.1 dL_wrong_15 (by decide) ?_
    exact q_iret C hRt hLk hW rfl (X, vp_updL f 0 rr.toInt64) ⟨hX, 0, _, by decide, rfl, ex_of _ hF, fun _ => updL_0 f rr.toInt64⟩ rfl (Nat.le_of_ble_eq_true rfl) (Nat.le_of_ble_eq_true rfl) dL_wrong_16

theorem hd_L_missShare : yL_missShare.cls ≠ "java/lang/invoke/MethodHandle" ∧ yL_missShare.cls ≠ "java/lang/invoke/VarHandle" ∧ (parseMethodDescriptor yL_missShare.desc).map (fun d => d.parameters.length) = some 2 := by decide +kernel
set_option maxHeartbeats 4000000 in
set_option maxRecDepth 100000 in
theorem c_L_missShare (l : Launch) (hst : l.stackTraces = false) (D : va_G) (g : Nat → ClassId) (ev : Nat × Nat × (Nat → Nat)) (A : Nat → Nat → Nat) (X : XS) (hX : XOK ev.1 X) (o : Nat) (f : Nat → UInt64) (sz : Nat) : qHi l yL_missShare (.codeWith yL_missShare method_29_code 3 (some .int) [(0, 8, 11, 111)] :: GW) ({ frames := 7, cells := 1, slots := 6, locals := 113 } : Room) D g ev [.ref (A 0 0), .ref o] (oD g o f ++ wX g A X) sz (hpostD ev.1 ((xShareF (pX X)).1, (xShareF (pX X)).2, pX X) (fun rr => FP.f2d rr)) (hw_D g A o) 1 6 := by
  refine qh_entry (cc := cL_missShare) (nL := 3) (ret := some .int) rfl (by decide) (Nat.le_of_ble_eq_true rfl) (fun pp ee ss mm bb mt kc ls C hRt hLk hsz hW hE hN ht hl => ?_)
  have hl : lv_has ls 3 [(0, .ref (A 0 0)), (1, .ref o)] := hl
  have hW : qW D g (va_A (oD g o f ++ wX g A X) sz) ss.heap ss (oD g o f ++ wX g A X) ss.heap [] := hW
  refine lv_aload_n C.1 C.2.1 dL_missShare_0 rfl (lv_at hl 1 rfl) ?_
  refine lv_iconst (v := nI 0) C.1 C.2.1 dL_missShare_1 (by decide) ?_
  refine lv_aload_n C.1 C.2.1 dL_missShare_2 rfl (lv_at hl 0 rfl) ?_
  refine qh_callVf (rest := [.int (nI 0), .ref o]) C hE (c_X3_missShare l hst D g ev A X hX _) (gw_V ml_L_107 im_X3_missShare se_X3_X3_missShare ini_X3 cd_X3_missShare rfl) rfl rfl rfl hd_X3_missShare ⟨(Nat.le_of_ble_eq_true rfl), (Nat.le_of_ble_eq_true rfl)⟩ hW List.perm_append_comm (fun (_ : Unit) => oD g o f ++ wX g A X) (fun _ => List.perm_append_comm) rfl rfl hl.1 rfl (Nat.le_of_ble_eq_true rfl) ⟨(Nat.le_of_ble_eq_true rfl), (Nat.le_of_ble_eq_true rfl)⟩ dL_missShare_3 (fun E u ce q9 H locs hx hW hc9 hv9 hcl9 => ?_) (fun r u H locs hp hW => ?_)
  · obtain ⟨k, hk, hF⟩ := hx
    rcases k with _ | k
    · obtain rfl : arN = E := Option.some.inj hk
      refine qh_catch C ht hN 0 rfl (List.mem_of_getElem? (i := 5) rfl) np_n (by decide) (by decide) (C.2.2.2.2 _ cl_L_111) (qTW.use hE.2.2.2.2.2.2.1 n_883 rfl) hc9 hv9 hcl9 ?_
      refine lv_astore_n (lv' := [(2, .ref q9), (0, .ref (A 0 0)), (1, .ref o)]) C.1 C.2.1 dL_missShare_11 rfl hl (by decide) rfl (fun ls hl => ?_)
      refine lv_iconst (v := nI 1) C.1 C.2.1 dL_missShare_12 (by decide) ?_
      exact q_iret C hRt hLk hW rfl (X, f) ⟨hX, 1, _, by decide, rfl, ex_of _ hF, fun h => absurd h (by decide)⟩ rfl (Nat.le_of_ble_eq_true rfl) (Nat.le_of_ble_eq_true rfl) dL_missShare_13
    exact absurd hk (by simp)
  · obtain ⟨rr, rfl, hF⟩ := hp
    refine lv_f2d C.1 C.2.1 dL_missShare_6 (xShare_f2d hX hF) ?_
    refine q_dast C hW 0 rfl (k := 0) (by decide) (by decide) (oD g o (vf_upd f 0 (FP.f2d rr)) ++ wX g A X) rfl dL_missShare_7 (fun H locs hW => ?_)
    refine lv_goto (tgt := 14) C.1 C.2.1 dL_missShare_8 (by decide) ?_
    refine lv_iconst (v := nI 0) C.1 C.2.1 dL_missShare_14 (by decide) ?_
    exact q_iret C hRt hLk hW rfl (X, vf_upd f 0 (FP.f2d rr)) ⟨hX, 0, _, by decide, rfl, ex_of _ hF, fun _ => updD_0 f (FP.f2d rr)⟩ rfl (Nat.le_of_ble_eq_true rfl) (Nat.le_of_ble_eq_true rfl) dL_missShare_15

theorem hd_L_meanCost : yL_meanCost.cls ≠ "java/lang/invoke/MethodHandle" ∧ yL_meanCost.cls ≠ "java/lang/invoke/VarHandle" ∧ (parseMethodDescriptor yL_meanCost.desc).map (fun d => d.parameters.length) = some 2 := by decide +kernel
set_option maxHeartbeats 4000000 in
set_option maxRecDepth 100000 in
theorem c_L_meanCost (l : Launch) (hst : l.stackTraces = false) (D : va_G) (g : Nat → ClassId) (ev : Nat × Nat × (Nat → Nat)) (A : Nat → Nat → Nat) (X : XS) (hX : XOK ev.1 X) (o : Nat) (f : Nat → UInt64) (sz : Nat) : qHi l yL_meanCost (.codeWith yL_meanCost method_30_code 3 (some .int) [(0, 7, 10, 111)] :: GW) ({ frames := 7, cells := 1, slots := 6, locals := 113 } : Room) D g ev [.ref (A 0 0), .ref o] (oD g o f ++ wX g A X) sz (hpostD ev.1 ((xMean (pX X)).1, (xMean (pX X)).2, pX X) (fun rr => rr)) (hw_D g A o) 1 6 := by
  refine qh_entry (cc := cL_meanCost) (nL := 3) (ret := some .int) rfl (by decide) (Nat.le_of_ble_eq_true rfl) (fun pp ee ss mm bb mt kc ls C hRt hLk hsz hW hE hN ht hl => ?_)
  have hl : lv_has ls 3 [(0, .ref (A 0 0)), (1, .ref o)] := hl
  have hW : qW D g (va_A (oD g o f ++ wX g A X) sz) ss.heap ss (oD g o f ++ wX g A X) ss.heap [] := hW
  refine lv_aload_n C.1 C.2.1 dL_meanCost_0 rfl (lv_at hl 1 rfl) ?_
  refine lv_iconst (v := nI 0) C.1 C.2.1 dL_meanCost_1 (by decide) ?_
  refine lv_aload_n C.1 C.2.1 dL_meanCost_2 rfl (lv_at hl 0 rfl) ?_
  refine qh_callVd (rest := [.int (nI 0), .ref o]) C hE (c_X3_meanCost l hst D g ev A X hX _) (gw_V ml_L_113 im_X3_meanCost se_X3_X3_meanCost ini_X3 cd_X3_meanCost rfl) rfl rfl rfl hd_X3_meanCost ⟨(Nat.le_of_ble_eq_true rfl), (Nat.le_of_ble_eq_true rfl)⟩ hW List.perm_append_comm (fun (_ : Unit) => oD g o f ++ wX g A X) (fun _ => List.perm_append_comm) rfl rfl hl.1 rfl (Nat.le_of_ble_eq_true rfl) ⟨(Nat.le_of_ble_eq_true rfl), (Nat.le_of_ble_eq_true rfl)⟩ dL_meanCost_3 (fun E u ce q9 H locs hx hW hc9 hv9 hcl9 => ?_) (fun r u H locs hp hW => ?_)
  · obtain ⟨k, hk, hF⟩ := hx
    rcases k with _ | k
    · obtain rfl : arN = E := Option.some.inj hk
      refine qh_catch C ht hN 0 rfl (List.mem_of_getElem? (i := 5) rfl) np_n (by decide) (by decide) (C.2.2.2.2 _ cl_L_111) (qTW.use hE.2.2.2.2.2.2.1 n_883 rfl) hc9 hv9 hcl9 ?_
      refine lv_astore_n (lv' := [(2, .ref q9), (0, .ref (A 0 0)), (1, .ref o)]) C.1 C.2.1 dL_meanCost_10 rfl hl (by decide) rfl (fun ls hl => ?_)
      refine lv_iconst (v := nI 1) C.1 C.2.1 dL_meanCost_11 (by decide) ?_
      exact q_iret C hRt hLk hW rfl (X, f) ⟨hX, 1, _, by decide, rfl, ex_of _ hF, fun h => absurd h (by decide)⟩ rfl (Nat.le_of_ble_eq_true rfl) (Nat.le_of_ble_eq_true rfl) dL_meanCost_12
    exact absurd hk (by simp)
  · obtain ⟨rr, rfl, hF⟩ := hp
    refine q_dast C hW 0 rfl (k := 0) (by decide) (by decide) (oD g o (vf_upd f 0 rr) ++ wX g A X) rfl dL_meanCost_6 (fun H locs hW => ?_)
    refine lv_goto (tgt := 13) C.1 C.2.1 dL_meanCost_7 (by decide) ?_
    refine lv_iconst (v := nI 0) C.1 C.2.1 dL_meanCost_13 (by decide) ?_
    exact q_iret C hRt hLk hW rfl (X, vf_upd f 0 rr) ⟨hX, 0, _, by decide, rfl, ex_of _ hF, fun _ => updD_0 f rr⟩ rfl (Nat.le_of_ble_eq_true rfl) (Nat.le_of_ble_eq_true rfl) dL_meanCost_14
