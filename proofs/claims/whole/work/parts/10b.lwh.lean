/-! The law's helpers, one by one. -/
theorem hd_L_addName : yL_addName.cls ≠ "java/lang/invoke/MethodHandle" ∧ yL_addName.cls ≠ "java/lang/invoke/VarHandle" ∧ (parseMethodDescriptor yL_addName.desc).map (fun d => d.parameters.length) = some 3 := by decide +kernel
set_option maxHeartbeats 4000000 in
set_option maxRecDepth 100000 in
theorem c_L_addName (l : Launch) (hst : l.stackTraces = false) (D : va_G) (g : Nat → ClassId) (ev : Nat × Nat × (Nat → Nat)) (A : Nat → Nat → Nat) (X : XS) (hX : XOK ev.1 X) (v : Int32) (o : Nat) (f : Nat → Int64) (sz : Nat) : qHi l yL_addName (.codeWith yL_addName method_3_code 4 (some .int) [(0, 9, 12, 13), (0, 9, 15, 15)] :: GW) ({ frames := 7, cells := 1, slots := 6, locals := 111 } : Room) D g ev [.ref (A 0 0), .int v, .ref o] (oL g o f ++ wX g A X) sz (hpost ev.1 (xAdd (pX X) v) (fun rr => (nI rr).toInt64)) (hw_L g A o) 1 6 := by
  refine qh_entry (cc := cL_addName) (nL := 4) (ret := some .int) rfl (by decide) (Nat.le_of_ble_eq_true rfl) (fun pp ee ss mm bb mt kc ls C hRt hLk hsz hW hE hN ht hl => ?_)
  have hl : lv_has ls 4 [(0, .ref (A 0 0)), (1, .int v), (2, .ref o)] := hl
  have hW : qW D g (va_A (oL g o f ++ wX g A X) sz) ss.heap ss (oL g o f ++ wX g A X) ss.heap [] := hW
  refine lv_aload_n C.1 C.2.1 dL_addName_0 rfl (lv_at hl 2 rfl) ?_
  refine lv_iconst (v := nI 0) C.1 C.2.1 dL_addName_1 (by decide) ?_
  refine lv_aload_n C.1 C.2.1 dL_addName_2 rfl (lv_at hl 0 rfl) ?_
  refine lv_iload_n C.1 C.2.1 dL_addName_3 rfl (lv_at hl 1 rfl) ?_
  refine qh_callVi (rest := [.int (nI 0), .ref o]) C hE (c_X3_addName l hst D g ev A X hX v _) (gw_V ml_L_7 im_X3_addName se_X3_X3_addName ini_X3 cd_X3_addName rfl) rfl rfl rfl hd_X3_addName ⟨(Nat.le_of_ble_eq_true rfl), (Nat.le_of_ble_eq_true rfl)⟩ hW List.perm_append_comm (fun (u : XS) => oL g o f ++ wX g A u) (fun _ => List.perm_append_comm) rfl rfl hl.1 rfl (Nat.le_of_ble_eq_true rfl) ⟨(Nat.le_of_ble_eq_true rfl), (Nat.le_of_ble_eq_true rfl)⟩ dL_addName_4 (fun E u ce q9 H locs hx hW hc9 hv9 hcl9 => ?_) (fun r u H locs hp hW => ?_)
  · obtain ⟨hu, k, hk, hF⟩ := hx
    rcases k with _ | k
    · obtain rfl : iaN = E := Option.some.inj hk
      refine qh_catch C ht hN 0 rfl (List.mem_of_getElem? (i := 0) rfl) np_n (by decide) (by decide) (C.2.2.2.2 _ cl_L_13) (qTW.use hE.2.2.2.2.2.2.1 n_289 rfl) hc9 hv9 hcl9 ?_
      refine lv_astore_n (lv' := [(3, .ref q9), (0, .ref (A 0 0)), (1, .int v), (2, .ref o)]) C.1 C.2.1 dL_addName_12 rfl hl (by decide) rfl (fun ls hl => ?_)
      refine lv_iconst (v := nI 1) C.1 C.2.1 dL_addName_13 (by decide) ?_
      exact q_iret C hRt hLk hW rfl (u, f) ⟨hu, 1, _, by decide, rfl, hF, fun h => absurd h (by decide)⟩ rfl (Nat.le_of_ble_eq_true rfl) (Nat.le_of_ble_eq_true rfl) dL_addName_14
    rcases k with _ | k
    · obtain rfl : isN = E := Option.some.inj hk
      refine qh_catch C ht hN 1 rfl (List.mem_of_getElem? (i := 1) rfl) (np_c ⟨by decide, iaN, List.mem_of_getElem? (i := 0) rfl, by decide, C.2.2.2.2 _ cl_L_13⟩ np_n) (by decide) (by decide) (C.2.2.2.2 _ cl_L_15) (qTW.use hE.2.2.2.2.2.2.1 n_365 rfl) hc9 hv9 hcl9 ?_
      refine lv_astore_n (lv' := [(3, .ref q9), (0, .ref (A 0 0)), (1, .int v), (2, .ref o)]) C.1 C.2.1 dL_addName_15 rfl hl (by decide) rfl (fun ls hl => ?_)
      refine lv_iconst (v := nI 2) C.1 C.2.1 dL_addName_16 (by decide) ?_
      exact q_iret C hRt hLk hW rfl (u, f) ⟨hu, 2, _, by decide, rfl, hF, fun h => absurd h (by decide)⟩ rfl (Nat.le_of_ble_eq_true rfl) (Nat.le_of_ble_eq_true rfl) dL_addName_17
    exact absurd hk (by simp)
  · obtain ⟨hu, rr, rfl, hF⟩ := hp
    refine lv_i2l (v := (nI rr).toInt64) C.1 C.2.1 dL_addName_7 rfl ?_
    refine q_last C hW 0 rfl (k := 0) (by decide) (by decide) (oL g o (vp_updL f 0 ((nI rr).toInt64)) ++ wX g A u) rfl dL_addName_8 (fun H locs hW => ?_)
    refine lv_goto (tgt := 18) C.1 C.2.1 dL_addName_9 (by decide) ?_
    refine lv_iconst (v := nI 0) C.1 C.2.1 dL_addName_18 (by decide) ?_
    exact q_iret C hRt hLk hW rfl (u, vp_updL f 0 ((nI rr).toInt64)) ⟨hu, 0, _, by decide, rfl, hF, fun _ => updL_0 f ((nI rr).toInt64)⟩ rfl (Nat.le_of_ble_eq_true rfl) (Nat.le_of_ble_eq_true rfl) dL_addName_19

theorem hd_L_place : yL_place.cls ≠ "java/lang/invoke/MethodHandle" ∧ yL_place.cls ≠ "java/lang/invoke/VarHandle" ∧ (parseMethodDescriptor yL_place.desc).map (fun d => d.parameters.length) = some 4 := by decide +kernel
set_option maxHeartbeats 4000000 in
set_option maxRecDepth 100000 in
theorem c_L_place (l : Launch) (hst : l.stackTraces = false) (D : va_G) (g : Nat → ClassId) (ev : Nat × Nat × (Nat → Nat)) (A : Nat → Nat → Nat) (X : XS) (hX : XOK ev.1 X) (v1 : Int32) (v2 : Int32) (o : Nat) (f : Nat → Int64) (sz : Nat) : qHi l yL_place (.codeWith yL_place method_4_code 5 (some .int) [(0, 10, 13, 21), (0, 10, 17, 13), (0, 10, 21, 15)] :: GW) ({ frames := 8, cells := 2, slots := 12, locals := 133 } : Room) D g ev [.ref (A 0 0), .int v1, .int v2, .ref o] (oL g o f ++ wX g A X) sz (hpost ev.1 (xPlace (pX X) v1 v2) (fun rr => (nI rr).toInt64)) (hw_L g A o) 2 12 := by
  refine qh_entry (cc := cL_place) (nL := 5) (ret := some .int) rfl (by decide) (Nat.le_of_ble_eq_true rfl) (fun pp ee ss mm bb mt kc ls C hRt hLk hsz hW hE hN ht hl => ?_)
  have hl : lv_has ls 5 [(0, .ref (A 0 0)), (1, .int v1), (2, .int v2), (3, .ref o)] := hl
  have hW : qW D g (va_A (oL g o f ++ wX g A X) sz) ss.heap ss (oL g o f ++ wX g A X) ss.heap [] := hW
  refine lv_aload_n C.1 C.2.1 dL_place_0 rfl (lv_at hl 3 rfl) ?_
  refine lv_iconst (v := nI 0) C.1 C.2.1 dL_place_1 (by decide) ?_
  refine lv_aload_n C.1 C.2.1 dL_place_2 rfl (lv_at hl 0 rfl) ?_
  refine lv_iload_n C.1 C.2.1 dL_place_3 rfl (lv_at hl 1 rfl) ?_
  refine lv_iload_n C.1 C.2.1 dL_place_4 rfl (lv_at hl 2 rfl) ?_
  refine qh_callVi (rest := [.int (nI 0), .ref o]) C hE (c_X3_place l hst D g ev A X hX v1 v2 _) (gw_V ml_L_17 im_X3_place se_X3_X3_place ini_X3 cd_X3_place rfl) rfl rfl rfl hd_X3_place ⟨(Nat.le_of_ble_eq_true rfl), (Nat.le_of_ble_eq_true rfl)⟩ hW List.perm_append_comm (fun (u : XS) => oL g o f ++ wX g A u) (fun _ => List.perm_append_comm) rfl rfl hl.1 rfl (Nat.le_of_ble_eq_true rfl) ⟨(Nat.le_of_ble_eq_true rfl), (Nat.le_of_ble_eq_true rfl)⟩ dL_place_5 (fun E u ce q9 H locs hx hW hc9 hv9 hcl9 => ?_) (fun r u H locs hp hW => ?_)
  · obtain ⟨hu, k, hk, hF⟩ := hx
    rcases k with _ | k
    · obtain rfl : nsN = E := Option.some.inj hk
      refine qh_catch C ht hN 0 rfl (List.mem_of_getElem? (i := 2) rfl) np_n (by decide) (by decide) (C.2.2.2.2 _ cl_L_21) (qTW.use hE.2.2.2.2.2.2.1 n_402 rfl) hc9 hv9 hcl9 ?_
      refine lv_astore (lv' := [(4, .ref q9), (0, .ref (A 0 0)), (1, .int v1), (2, .int v2), (3, .ref o)]) C.1 C.2.1 dL_place_13 hl (by decide) rfl (fun ls hl => ?_)
      refine lv_iconst (v := nI 1) C.1 C.2.1 dL_place_15 (by decide) ?_
      exact q_iret C hRt hLk hW rfl (u, f) ⟨hu, 1, _, by decide, rfl, hF, fun h => absurd h (by decide)⟩ rfl (Nat.le_of_ble_eq_true rfl) (Nat.le_of_ble_eq_true rfl) dL_place_16
    rcases k with _ | k
    · obtain rfl : iaN = E := Option.some.inj hk
      refine qh_catch C ht hN 1 rfl (List.mem_of_getElem? (i := 0) rfl) (np_c ⟨by decide, nsN, List.mem_of_getElem? (i := 2) rfl, by decide, C.2.2.2.2 _ cl_L_21⟩ np_n) (by decide) (by decide) (C.2.2.2.2 _ cl_L_13) (qTW.use hE.2.2.2.2.2.2.1 n_289 rfl) hc9 hv9 hcl9 ?_
      refine lv_astore (lv' := [(4, .ref q9), (0, .ref (A 0 0)), (1, .int v1), (2, .int v2), (3, .ref o)]) C.1 C.2.1 dL_place_17 hl (by decide) rfl (fun ls hl => ?_)
      refine lv_iconst (v := nI 2) C.1 C.2.1 dL_place_19 (by decide) ?_
      exact q_iret C hRt hLk hW rfl (u, f) ⟨hu, 2, _, by decide, rfl, hF, fun h => absurd h (by decide)⟩ rfl (Nat.le_of_ble_eq_true rfl) (Nat.le_of_ble_eq_true rfl) dL_place_20
    rcases k with _ | k
    · obtain rfl : isN = E := Option.some.inj hk
      refine qh_catch C ht hN 2 rfl (List.mem_of_getElem? (i := 1) rfl) (np_c ⟨by decide, nsN, List.mem_of_getElem? (i := 2) rfl, by decide, C.2.2.2.2 _ cl_L_21⟩ (np_c ⟨by decide, iaN, List.mem_of_getElem? (i := 0) rfl, by decide, C.2.2.2.2 _ cl_L_13⟩ np_n)) (by decide) (by decide) (C.2.2.2.2 _ cl_L_15) (qTW.use hE.2.2.2.2.2.2.1 n_365 rfl) hc9 hv9 hcl9 ?_
      refine lv_astore (lv' := [(4, .ref q9), (0, .ref (A 0 0)), (1, .int v1), (2, .int v2), (3, .ref o)]) C.1 C.2.1 dL_place_21 hl (by decide) rfl (fun ls hl => ?_)
      refine lv_iconst (v := nI 3) C.1 C.2.1 dL_place_23 (by decide) ?_
      exact q_iret C hRt hLk hW rfl (u, f) ⟨hu, 3, _, by decide, rfl, hF, fun h => absurd h (by decide)⟩ rfl (Nat.le_of_ble_eq_true rfl) (Nat.le_of_ble_eq_true rfl) dL_place_24
    exact absurd hk (by simp)
  · obtain ⟨hu, rr, rfl, hF⟩ := hp
    refine lv_i2l (v := (nI rr).toInt64) C.1 C.2.1 dL_place_8 rfl ?_
    refine q_last C hW 0 rfl (k := 0) (by decide) (by decide) (oL g o (vp_updL f 0 ((nI rr).toInt64)) ++ wX g A u) rfl dL_place_9 (fun H locs hW => ?_)
    refine lv_goto (tgt := 25) C.1 C.2.1 dL_place_10 (by decide) ?_
    refine lv_iconst (v := nI 0) C.1 C.2.1 dL_place_25 (by decide) ?_
    exact q_iret C hRt hLk hW rfl (u, vp_updL f 0 ((nI rr).toInt64)) ⟨hu, 0, _, by decide, rfl, hF, fun _ => updL_0 f ((nI rr).toInt64)⟩ rfl (Nat.le_of_ble_eq_true rfl) (Nat.le_of_ble_eq_true rfl) dL_place_26

theorem hd_L_link : yL_link.cls ≠ "java/lang/invoke/MethodHandle" ∧ yL_link.cls ≠ "java/lang/invoke/VarHandle" ∧ (parseMethodDescriptor yL_link.desc).map (fun d => d.parameters.length) = some 3 := by decide +kernel
set_option maxHeartbeats 4000000 in
set_option maxRecDepth 100000 in
theorem c_L_link (l : Launch) (hst : l.stackTraces = false) (D : va_G) (g : Nat → ClassId) (ev : Nat × Nat × (Nat → Nat)) (A : Nat → Nat → Nat) (X : XS) (hX : XOK ev.1 X) (v : Int32) (o : Nat) (f : Nat → Int64) (sz : Nat) : qHi l yL_link (.codeWith yL_link method_5_code 4 (some .int) [(0, 9, 12, 13), (0, 9, 15, 26)] :: GW) ({ frames := 7, cells := 1, slots := 6, locals := 115 } : Room) D g ev [.ref (A 0 0), .int v, .ref o] (oL g o f ++ wX g A X) sz (hpost ev.1 (xLink (pX X) v) (fun rr => (nI rr).toInt64)) (hw_L g A o) 1 6 := by
  refine qh_entry (cc := cL_link) (nL := 4) (ret := some .int) rfl (by decide) (Nat.le_of_ble_eq_true rfl) (fun pp ee ss mm bb mt kc ls C hRt hLk hsz hW hE hN ht hl => ?_)
  have hl : lv_has ls 4 [(0, .ref (A 0 0)), (1, .int v), (2, .ref o)] := hl
  have hW : qW D g (va_A (oL g o f ++ wX g A X) sz) ss.heap ss (oL g o f ++ wX g A X) ss.heap [] := hW
  refine lv_aload_n C.1 C.2.1 dL_link_0 rfl (lv_at hl 2 rfl) ?_
  refine lv_iconst (v := nI 0) C.1 C.2.1 dL_link_1 (by decide) ?_
  refine lv_aload_n C.1 C.2.1 dL_link_2 rfl (lv_at hl 0 rfl) ?_
  refine lv_iload_n C.1 C.2.1 dL_link_3 rfl (lv_at hl 1 rfl) ?_
  refine qh_callVi (rest := [.int (nI 0), .ref o]) C hE (c_X3_link l hst D g ev A X hX v _) (gw_V ml_L_23 im_X3_link se_X3_X3_link ini_X3 cd_X3_link rfl) rfl rfl rfl hd_X3_link ⟨(Nat.le_of_ble_eq_true rfl), (Nat.le_of_ble_eq_true rfl)⟩ hW List.perm_append_comm (fun (u : XS) => oL g o f ++ wX g A u) (fun _ => List.perm_append_comm) rfl rfl hl.1 rfl (Nat.le_of_ble_eq_true rfl) ⟨(Nat.le_of_ble_eq_true rfl), (Nat.le_of_ble_eq_true rfl)⟩ dL_link_4 (fun E u ce q9 H locs hx hW hc9 hv9 hcl9 => ?_) (fun r u H locs hp hW => ?_)
  · obtain ⟨hu, k, hk, hF⟩ := hx
    rcases k with _ | k
    · obtain rfl : iaN = E := Option.some.inj hk
      refine qh_catch C ht hN 0 rfl (List.mem_of_getElem? (i := 0) rfl) np_n (by decide) (by decide) (C.2.2.2.2 _ cl_L_13) (qTW.use hE.2.2.2.2.2.2.1 n_289 rfl) hc9 hv9 hcl9 ?_
      refine lv_astore_n (lv' := [(3, .ref q9), (0, .ref (A 0 0)), (1, .int v), (2, .ref o)]) C.1 C.2.1 dL_link_12 rfl hl (by decide) rfl (fun ls hl => ?_)
      refine lv_iconst (v := nI 1) C.1 C.2.1 dL_link_13 (by decide) ?_
      exact q_iret C hRt hLk hW rfl (u, f) ⟨hu, 1, _, by decide, rfl, hF, fun h => absurd h (by decide)⟩ rfl (Nat.le_of_ble_eq_true rfl) (Nat.le_of_ble_eq_true rfl) dL_link_14
    rcases k with _ | k
    · obtain rfl : uoN = E := Option.some.inj hk
      refine qh_catch C ht hN 1 rfl (List.mem_of_getElem? (i := 3) rfl) (np_c ⟨by decide, iaN, List.mem_of_getElem? (i := 0) rfl, by decide, C.2.2.2.2 _ cl_L_13⟩ np_n) (by decide) (by decide) (C.2.2.2.2 _ cl_L_26) (qTW.use hE.2.2.2.2.2.2.1 n_463 rfl) hc9 hv9 hcl9 ?_
      refine lv_astore_n (lv' := [(3, .ref q9), (0, .ref (A 0 0)), (1, .int v), (2, .ref o)]) C.1 C.2.1 dL_link_15 rfl hl (by decide) rfl (fun ls hl => ?_)
      refine lv_iconst (v := nI 2) C.1 C.2.1 dL_link_16 (by decide) ?_
      exact q_iret C hRt hLk hW rfl (u, f) ⟨hu, 2, _, by decide, rfl, hF, fun h => absurd h (by decide)⟩ rfl (Nat.le_of_ble_eq_true rfl) (Nat.le_of_ble_eq_true rfl) dL_link_17
    exact absurd hk (by simp)
  · obtain ⟨hu, rr, rfl, hF⟩ := hp
    refine lv_i2l (v := (nI rr).toInt64) C.1 C.2.1 dL_link_7 rfl ?_
    refine q_last C hW 0 rfl (k := 0) (by decide) (by decide) (oL g o (vp_updL f 0 ((nI rr).toInt64)) ++ wX g A u) rfl dL_link_8 (fun H locs hW => ?_)
    refine lv_goto (tgt := 18) C.1 C.2.1 dL_link_9 (by decide) ?_
    refine lv_iconst (v := nI 0) C.1 C.2.1 dL_link_18 (by decide) ?_
    exact q_iret C hRt hLk hW rfl (u, vp_updL f 0 ((nI rr).toInt64)) ⟨hu, 0, _, by decide, rfl, hF, fun _ => updL_0 f ((nI rr).toInt64)⟩ rfl (Nat.le_of_ble_eq_true rfl) (Nat.le_of_ble_eq_true rfl) dL_link_19

theorem hd_L_take : yL_take.cls ≠ "java/lang/invoke/MethodHandle" ∧ yL_take.cls ≠ "java/lang/invoke/VarHandle" ∧ (parseMethodDescriptor yL_take.desc).map (fun d => d.parameters.length) = some 3 := by decide +kernel
set_option maxHeartbeats 4000000 in
set_option maxRecDepth 100000 in
theorem c_L_take (l : Launch) (hst : l.stackTraces = false) (D : va_G) (g : Nat → ClassId) (ev : Nat × Nat × (Nat → Nat)) (A : Nat → Nat → Nat) (X : XS) (hX : XOK ev.1 X) (v : Int32) (o : Nat) (f : Nat → Int64) (sz : Nat) : qHi l yL_take (.codeWith yL_take method_6_code 4 (some .int) [(0, 9, 12, 21), (0, 9, 15, 15)] :: GW) ({ frames := 9, cells := 2, slots := 12, locals := 154 } : Room) D g ev [.ref (A 0 0), .int v, .ref o] (oL g o f ++ wX g A X) sz (hpost ev.1 (xTake (pX X) v) (fun rr => (nI rr).toInt64)) (hw_L g A o) 2 12 := by
  refine qh_entry (cc := cL_take) (nL := 4) (ret := some .int) rfl (by decide) (Nat.le_of_ble_eq_true rfl) (fun pp ee ss mm bb mt kc ls C hRt hLk hsz hW hE hN ht hl => ?_)
  have hl : lv_has ls 4 [(0, .ref (A 0 0)), (1, .int v), (2, .ref o)] := hl
  have hW : qW D g (va_A (oL g o f ++ wX g A X) sz) ss.heap ss (oL g o f ++ wX g A X) ss.heap [] := hW
  refine lv_aload_n C.1 C.2.1 dL_take_0 rfl (lv_at hl 2 rfl) ?_
  refine lv_iconst (v := nI 0) C.1 C.2.1 dL_take_1 (by decide) ?_
  refine lv_aload_n C.1 C.2.1 dL_take_2 rfl (lv_at hl 0 rfl) ?_
  refine lv_iload_n C.1 C.2.1 dL_take_3 rfl (lv_at hl 1 rfl) ?_
  refine qh_callVi (rest := [.int (nI 0), .ref o]) C hE (c_X3_take l hst D g ev A X hX v _) (gw_V ml_L_28 im_X3_take se_X3_X3_take ini_X3 cd_X3_take rfl) rfl rfl rfl hd_X3_take ⟨(Nat.le_of_ble_eq_true rfl), (Nat.le_of_ble_eq_true rfl)⟩ hW List.perm_append_comm (fun (u : XS) => oL g o f ++ wX g A u) (fun _ => List.perm_append_comm) rfl rfl hl.1 rfl (Nat.le_of_ble_eq_true rfl) ⟨(Nat.le_of_ble_eq_true rfl), (Nat.le_of_ble_eq_true rfl)⟩ dL_take_4 (fun E u ce q9 H locs hx hW hc9 hv9 hcl9 => ?_) (fun r u H locs hp hW => ?_)
  · obtain ⟨hu, k, hk, hF⟩ := hx
    rcases k with _ | k
    · obtain rfl : nsN = E := Option.some.inj hk
      refine qh_catch C ht hN 0 rfl (List.mem_of_getElem? (i := 2) rfl) np_n (by decide) (by decide) (C.2.2.2.2 _ cl_L_21) (qTW.use hE.2.2.2.2.2.2.1 n_402 rfl) hc9 hv9 hcl9 ?_
      refine lv_astore_n (lv' := [(3, .ref q9), (0, .ref (A 0 0)), (1, .int v), (2, .ref o)]) C.1 C.2.1 dL_take_12 rfl hl (by decide) rfl (fun ls hl => ?_)
      refine lv_iconst (v := nI 1) C.1 C.2.1 dL_take_13 (by decide) ?_
      exact q_iret C hRt hLk hW rfl (u, f) ⟨hu, 1, _, by decide, rfl, hF, fun h => absurd h (by decide)⟩ rfl (Nat.le_of_ble_eq_true rfl) (Nat.le_of_ble_eq_true rfl) dL_take_14
    rcases k with _ | k
    · obtain rfl : isN = E := Option.some.inj hk
      refine qh_catch C ht hN 1 rfl (List.mem_of_getElem? (i := 1) rfl) (np_c ⟨by decide, nsN, List.mem_of_getElem? (i := 2) rfl, by decide, C.2.2.2.2 _ cl_L_21⟩ np_n) (by decide) (by decide) (C.2.2.2.2 _ cl_L_15) (qTW.use hE.2.2.2.2.2.2.1 n_365 rfl) hc9 hv9 hcl9 ?_
      refine lv_astore_n (lv' := [(3, .ref q9), (0, .ref (A 0 0)), (1, .int v), (2, .ref o)]) C.1 C.2.1 dL_take_15 rfl hl (by decide) rfl (fun ls hl => ?_)
      refine lv_iconst (v := nI 2) C.1 C.2.1 dL_take_16 (by decide) ?_
      exact q_iret C hRt hLk hW rfl (u, f) ⟨hu, 2, _, by decide, rfl, hF, fun h => absurd h (by decide)⟩ rfl (Nat.le_of_ble_eq_true rfl) (Nat.le_of_ble_eq_true rfl) dL_take_17
    exact absurd hk (by simp)
  · obtain ⟨hu, rr, rfl, hF⟩ := hp
    refine lv_i2l (v := (nI rr).toInt64) C.1 C.2.1 dL_take_7 rfl ?_
    refine q_last C hW 0 rfl (k := 0) (by decide) (by decide) (oL g o (vp_updL f 0 ((nI rr).toInt64)) ++ wX g A u) rfl dL_take_8 (fun H locs hW => ?_)
    refine lv_goto (tgt := 18) C.1 C.2.1 dL_take_9 (by decide) ?_
    refine lv_iconst (v := nI 0) C.1 C.2.1 dL_take_18 (by decide) ?_
    exact q_iret C hRt hLk hW rfl (u, vp_updL f 0 ((nI rr).toInt64)) ⟨hu, 0, _, by decide, rfl, hF, fun _ => updL_0 f ((nI rr).toInt64)⟩ rfl (Nat.le_of_ble_eq_true rfl) (Nat.le_of_ble_eq_true rfl) dL_take_19

theorem hd_L_addressOf : yL_addressOf.cls ≠ "java/lang/invoke/MethodHandle" ∧ yL_addressOf.cls ≠ "java/lang/invoke/VarHandle" ∧ (parseMethodDescriptor yL_addressOf.desc).map (fun d => d.parameters.length) = some 4 := by decide +kernel
set_option maxHeartbeats 4000000 in
set_option maxRecDepth 100000 in
theorem c_L_addressOf (l : Launch) (hst : l.stackTraces = false) (D : va_G) (g : Nat → ClassId) (ev : Nat × Nat × (Nat → Nat)) (A : Nat → Nat → Nat) (X : XS) (hX : XOK ev.1 X) (v1 : Int32) (v2 : Int32) (o : Nat) (f : Nat → Int64) (sz : Nat) : qHi l yL_addressOf (.codeWith yL_addressOf method_7_code 5 (some .int) [(0, 10, 13, 21), (0, 10, 17, 15), (0, 10, 21, 13)] :: GW) ({ frames := 10, cells := 3, slots := 18, locals := 176 } : Room) D g ev [.ref (A 0 0), .int v1, .int v2, .ref o] (oL g o f ++ wX g A X) sz (hpost ev.1 ((xAddr (pX X) v1 v2).1, (xAddr (pX X) v1 v2).2, pX X) (fun rr => (nI rr).toInt64)) (hw_L g A o) 3 18 := by
  refine qh_entry (cc := cL_addressOf) (nL := 5) (ret := some .int) rfl (by decide) (Nat.le_of_ble_eq_true rfl) (fun pp ee ss mm bb mt kc ls C hRt hLk hsz hW hE hN ht hl => ?_)
  have hl : lv_has ls 5 [(0, .ref (A 0 0)), (1, .int v1), (2, .int v2), (3, .ref o)] := hl
  have hW : qW D g (va_A (oL g o f ++ wX g A X) sz) ss.heap ss (oL g o f ++ wX g A X) ss.heap [] := hW
  refine lv_aload_n C.1 C.2.1 dL_addressOf_0 rfl (lv_at hl 3 rfl) ?_
  refine lv_iconst (v := nI 0) C.1 C.2.1 dL_addressOf_1 (by decide) ?_
  refine lv_aload_n C.1 C.2.1 dL_addressOf_2 rfl (lv_at hl 0 rfl) ?_
  refine lv_iload_n C.1 C.2.1 dL_addressOf_3 rfl (lv_at hl 1 rfl) ?_
  refine lv_iload_n C.1 C.2.1 dL_addressOf_4 rfl (lv_at hl 2 rfl) ?_
  refine qh_callVi (rest := [.int (nI 0), .ref o]) C hE (c_X3_addressOf l hst D g ev A X hX v1 v2 _) (gw_V ml_L_31 im_X3_addressOf se_X3_X3_addressOf ini_X3 cd_X3_addressOf rfl) rfl rfl rfl hd_X3_addressOf ⟨(Nat.le_of_ble_eq_true rfl), (Nat.le_of_ble_eq_true rfl)⟩ hW List.perm_append_comm (fun (_ : Unit) => oL g o f ++ wX g A X) (fun _ => List.perm_append_comm) rfl rfl hl.1 rfl (Nat.le_of_ble_eq_true rfl) ⟨(Nat.le_of_ble_eq_true rfl), (Nat.le_of_ble_eq_true rfl)⟩ dL_addressOf_5 (fun E u ce q9 H locs hx hW hc9 hv9 hcl9 => ?_) (fun r u H locs hp hW => ?_)
  · obtain ⟨k, hk, hF⟩ := hx
    rcases k with _ | k
    · obtain rfl : nsN = E := Option.some.inj hk
      refine qh_catch C ht hN 0 rfl (List.mem_of_getElem? (i := 2) rfl) np_n (by decide) (by decide) (C.2.2.2.2 _ cl_L_21) (qTW.use hE.2.2.2.2.2.2.1 n_402 rfl) hc9 hv9 hcl9 ?_
      refine lv_astore (lv' := [(4, .ref q9), (0, .ref (A 0 0)), (1, .int v1), (2, .int v2), (3, .ref o)]) C.1 C.2.1 dL_addressOf_13 hl (by decide) rfl (fun ls hl => ?_)
      refine lv_iconst (v := nI 1) C.1 C.2.1 dL_addressOf_15 (by decide) ?_
      exact q_iret C hRt hLk hW rfl (X, f) ⟨hX, 1, _, by decide, rfl, ex_of _ hF, fun h => absurd h (by decide)⟩ rfl (Nat.le_of_ble_eq_true rfl) (Nat.le_of_ble_eq_true rfl) dL_addressOf_16
    rcases k with _ | k
    · obtain rfl : isN = E := Option.some.inj hk
      refine qh_catch C ht hN 1 rfl (List.mem_of_getElem? (i := 1) rfl) (np_c ⟨by decide, nsN, List.mem_of_getElem? (i := 2) rfl, by decide, C.2.2.2.2 _ cl_L_21⟩ np_n) (by decide) (by decide) (C.2.2.2.2 _ cl_L_15) (qTW.use hE.2.2.2.2.2.2.1 n_365 rfl) hc9 hv9 hcl9 ?_
      refine lv_astore (lv' := [(4, .ref q9), (0, .ref (A 0 0)), (1, .int v1), (2, .int v2), (3, .ref o)]) C.1 C.2.1 dL_addressOf_17 hl (by decide) rfl (fun ls hl => ?_)
      refine lv_iconst (v := nI 2) C.1 C.2.1 dL_addressOf_19 (by decide) ?_
      exact q_iret C hRt hLk hW rfl (X, f) ⟨hX, 2, _, by decide, rfl, ex_of _ hF, fun h => absurd h (by decide)⟩ rfl (Nat.le_of_ble_eq_true rfl) (Nat.le_of_ble_eq_true rfl) dL_addressOf_20
    rcases k with _ | k
    · obtain rfl : iaN = E := Option.some.inj hk
      refine qh_catch C ht hN 2 rfl (List.mem_of_getElem? (i := 0) rfl) (np_c ⟨by decide, nsN, List.mem_of_getElem? (i := 2) rfl, by decide, C.2.2.2.2 _ cl_L_21⟩ (np_c ⟨by decide, isN, List.mem_of_getElem? (i := 1) rfl, by decide, C.2.2.2.2 _ cl_L_15⟩ np_n)) (by decide) (by decide) (C.2.2.2.2 _ cl_L_13) (qTW.use hE.2.2.2.2.2.2.1 n_289 rfl) hc9 hv9 hcl9 ?_
      refine lv_astore (lv' := [(4, .ref q9), (0, .ref (A 0 0)), (1, .int v1), (2, .int v2), (3, .ref o)]) C.1 C.2.1 dL_addressOf_21 hl (by decide) rfl (fun ls hl => ?_)
      refine lv_iconst (v := nI 3) C.1 C.2.1 dL_addressOf_23 (by decide) ?_
      exact q_iret C hRt hLk hW rfl (X, f) ⟨hX, 3, _, by decide, rfl, ex_of _ hF, fun h => absurd h (by decide)⟩ rfl (Nat.le_of_ble_eq_true rfl) (Nat.le_of_ble_eq_true rfl) dL_addressOf_24
    exact absurd hk (by simp)
  · obtain ⟨rr, rfl, hF⟩ := hp
    refine lv_i2l (v := (nI rr).toInt64) C.1 C.2.1 dL_addressOf_8 rfl ?_
    refine q_last C hW 0 rfl (k := 0) (by decide) (by decide) (oL g o (vp_updL f 0 ((nI rr).toInt64)) ++ wX g A X) rfl dL_addressOf_9 (fun H locs hW => ?_)
    refine lv_goto (tgt := 25) C.1 C.2.1 dL_addressOf_10 (by decide) ?_
    refine lv_iconst (v := nI 0) C.1 C.2.1 dL_addressOf_25 (by decide) ?_
    exact q_iret C hRt hLk hW rfl (X, vp_updL f 0 ((nI rr).toInt64)) ⟨hX, 0, _, by decide, rfl, ex_of _ hF, fun _ => updL_0 f ((nI rr).toInt64)⟩ rfl (Nat.le_of_ble_eq_true rfl) (Nat.le_of_ble_eq_true rfl) dL_addressOf_26

theorem hd_L_nameAt : yL_nameAt.cls ≠ "java/lang/invoke/MethodHandle" ∧ yL_nameAt.cls ≠ "java/lang/invoke/VarHandle" ∧ (parseMethodDescriptor yL_nameAt.desc).map (fun d => d.parameters.length) = some 3 := by decide +kernel
set_option maxHeartbeats 4000000 in
set_option maxRecDepth 100000 in
theorem c_L_nameAt (l : Launch) (hst : l.stackTraces = false) (D : va_G) (g : Nat → ClassId) (ev : Nat × Nat × (Nat → Nat)) (A : Nat → Nat → Nat) (X : XS) (hX : XOK ev.1 X) (v : Int32) (o : Nat) (f : Nat → Int64) (sz : Nat) : qHi l yL_nameAt (.codeWith yL_nameAt method_8_code 4 (some .int) [(0, 9, 12, 13), (0, 9, 15, 21)] :: GW) ({ frames := 7, cells := 1, slots := 6, locals := 112 } : Room) D g ev [.ref (A 0 0), .int v, .ref o] (oL g o f ++ wX g A X) sz (hpost ev.1 ((xNameAt (pX X) v).1, (xNameAt (pX X) v).2, pX X) (fun rr => (nI rr).toInt64)) (hw_L g A o) 1 6 := by
  refine qh_entry (cc := cL_nameAt) (nL := 4) (ret := some .int) rfl (by decide) (Nat.le_of_ble_eq_true rfl) (fun pp ee ss mm bb mt kc ls C hRt hLk hsz hW hE hN ht hl => ?_)
  have hl : lv_has ls 4 [(0, .ref (A 0 0)), (1, .int v), (2, .ref o)] := hl
  have hW : qW D g (va_A (oL g o f ++ wX g A X) sz) ss.heap ss (oL g o f ++ wX g A X) ss.heap [] := hW
  refine lv_aload_n C.1 C.2.1 dL_nameAt_0 rfl (lv_at hl 2 rfl) ?_
  refine lv_iconst (v := nI 0) C.1 C.2.1 dL_nameAt_1 (by decide) ?_
  refine lv_aload_n C.1 C.2.1 dL_nameAt_2 rfl (lv_at hl 0 rfl) ?_
  refine lv_iload_n C.1 C.2.1 dL_nameAt_3 rfl (lv_at hl 1 rfl) ?_
  refine qh_callVi (rest := [.int (nI 0), .ref o]) C hE (c_X3_nameAt l hst D g ev A X hX v _) (gw_V ml_L_34 im_X3_nameAt se_X3_X3_nameAt ini_X3 cd_X3_nameAt rfl) rfl rfl rfl hd_X3_nameAt ⟨(Nat.le_of_ble_eq_true rfl), (Nat.le_of_ble_eq_true rfl)⟩ hW List.perm_append_comm (fun (_ : Unit) => oL g o f ++ wX g A X) (fun _ => List.perm_append_comm) rfl rfl hl.1 rfl (Nat.le_of_ble_eq_true rfl) ⟨(Nat.le_of_ble_eq_true rfl), (Nat.le_of_ble_eq_true rfl)⟩ dL_nameAt_4 (fun E u ce q9 H locs hx hW hc9 hv9 hcl9 => ?_) (fun r u H locs hp hW => ?_)
  · obtain ⟨k, hk, hF⟩ := hx
    rcases k with _ | k
    · obtain rfl : iaN = E := Option.some.inj hk
      refine qh_catch C ht hN 0 rfl (List.mem_of_getElem? (i := 0) rfl) np_n (by decide) (by decide) (C.2.2.2.2 _ cl_L_13) (qTW.use hE.2.2.2.2.2.2.1 n_289 rfl) hc9 hv9 hcl9 ?_
      refine lv_astore_n (lv' := [(3, .ref q9), (0, .ref (A 0 0)), (1, .int v), (2, .ref o)]) C.1 C.2.1 dL_nameAt_12 rfl hl (by decide) rfl (fun ls hl => ?_)
      refine lv_iconst (v := nI 1) C.1 C.2.1 dL_nameAt_13 (by decide) ?_
      exact q_iret C hRt hLk hW rfl (X, f) ⟨hX, 1, _, by decide, rfl, ex_of _ hF, fun h => absurd h (by decide)⟩ rfl (Nat.le_of_ble_eq_true rfl) (Nat.le_of_ble_eq_true rfl) dL_nameAt_14
    rcases k with _ | k
    · obtain rfl : nsN = E := Option.some.inj hk
      refine qh_catch C ht hN 1 rfl (List.mem_of_getElem? (i := 2) rfl) (np_c ⟨by decide, iaN, List.mem_of_getElem? (i := 0) rfl, by decide, C.2.2.2.2 _ cl_L_13⟩ np_n) (by decide) (by decide) (C.2.2.2.2 _ cl_L_21) (qTW.use hE.2.2.2.2.2.2.1 n_402 rfl) hc9 hv9 hcl9 ?_
      refine lv_astore_n (lv' := [(3, .ref q9), (0, .ref (A 0 0)), (1, .int v), (2, .ref o)]) C.1 C.2.1 dL_nameAt_15 rfl hl (by decide) rfl (fun ls hl => ?_)
      refine lv_iconst (v := nI 2) C.1 C.2.1 dL_nameAt_16 (by decide) ?_
      exact q_iret C hRt hLk hW rfl (X, f) ⟨hX, 2, _, by decide, rfl, ex_of _ hF, fun h => absurd h (by decide)⟩ rfl (Nat.le_of_ble_eq_true rfl) (Nat.le_of_ble_eq_true rfl) dL_nameAt_17
    exact absurd hk (by simp)
  · obtain ⟨rr, rfl, hF⟩ := hp
    refine lv_i2l (v := (nI rr).toInt64) C.1 C.2.1 dL_nameAt_7 rfl ?_
    refine q_last C hW 0 rfl (k := 0) (by decide) (by decide) (oL g o (vp_updL f 0 ((nI rr).toInt64)) ++ wX g A X) rfl dL_nameAt_8 (fun H locs hW => ?_)
    refine lv_goto (tgt := 18) C.1 C.2.1 dL_nameAt_9 (by decide) ?_
    refine lv_iconst (v := nI 0) C.1 C.2.1 dL_nameAt_18 (by decide) ?_
    exact q_iret C hRt hLk hW rfl (X, vp_updL f 0 ((nI rr).toInt64)) ⟨hX, 0, _, by decide, rfl, ex_of _ hF, fun _ => updL_0 f ((nI rr).toInt64)⟩ rfl (Nat.le_of_ble_eq_true rfl) (Nat.le_of_ble_eq_true rfl) dL_nameAt_19

theorem hd_L_meet : yL_meet.cls ≠ "java/lang/invoke/MethodHandle" ∧ yL_meet.cls ≠ "java/lang/invoke/VarHandle" ∧ (parseMethodDescriptor yL_meet.desc).map (fun d => d.parameters.length) = some 4 := by decide +kernel
set_option maxHeartbeats 4000000 in
set_option maxRecDepth 100000 in
theorem c_L_meet (l : Launch) (hst : l.stackTraces = false) (D : va_G) (g : Nat → ClassId) (ev : Nat × Nat × (Nat → Nat)) (A : Nat → Nat → Nat) (X : XS) (hX : XOK ev.1 X) (v1 : Int32) (v2 : Int32) (o : Nat) (f : Nat → Int64) (sz : Nat) : qHi l yL_meet (.codeWith yL_meet method_9_code 5 (some .int) [(0, 17, 20, 21), (0, 17, 24, 13)] :: GW) ({ frames := 8, cells := 3, slots := 18, locals := 133 } : Room) D g ev [.ref (A 0 0), .int v1, .int v2, .ref o] (oL g o f ++ wX g A X) sz (hpost ev.1 ((xMeet (pX X) v1 v2).1, (xMeet (pX X) v1 v2).2, pX X) (fun rr => if rr = true then 1 else 0)) (hw_L g A o) 3 18 := by
  refine qh_entry (cc := cL_meet) (nL := 5) (ret := some .int) rfl (by decide) (Nat.le_of_ble_eq_true rfl) (fun pp ee ss mm bb mt kc ls C hRt hLk hsz hW hE hN ht hl => ?_)
  have hl : lv_has ls 5 [(0, .ref (A 0 0)), (1, .int v1), (2, .int v2), (3, .ref o)] := hl
  have hW : qW D g (va_A (oL g o f ++ wX g A X) sz) ss.heap ss (oL g o f ++ wX g A X) ss.heap [] := hW
  refine lv_aload_n C.1 C.2.1 dL_meet_0 rfl (lv_at hl 3 rfl) ?_
  refine lv_iconst (v := nI 0) C.1 C.2.1 dL_meet_1 (by decide) ?_
  refine lv_aload_n C.1 C.2.1 dL_meet_2 rfl (lv_at hl 0 rfl) ?_
  refine lv_iload_n C.1 C.2.1 dL_meet_3 rfl (lv_at hl 1 rfl) ?_
  refine lv_iload_n C.1 C.2.1 dL_meet_4 rfl (lv_at hl 2 rfl) ?_
  refine qh_callVi (rest := [.int (nI 0), .ref o]) C hE (c_X3_meet l hst D g ev A X hX v1 v2 _) (gw_V ml_L_37 im_X3_meet se_X3_X3_meet ini_X3 cd_X3_meet rfl) rfl rfl rfl hd_X3_meet ⟨(Nat.le_of_ble_eq_true rfl), (Nat.le_of_ble_eq_true rfl)⟩ hW List.perm_append_comm (fun (_ : Unit) => oL g o f ++ wX g A X) (fun _ => List.perm_append_comm) rfl rfl hl.1 rfl (Nat.le_of_ble_eq_true rfl) ⟨(Nat.le_of_ble_eq_true rfl), (Nat.le_of_ble_eq_true rfl)⟩ dL_meet_5 (fun E u ce q9 H locs hx hW hc9 hv9 hcl9 => ?_) (fun r u H locs hp hW => ?_)
  · obtain ⟨k, hk, hF⟩ := hx
    rcases k with _ | k
    · obtain rfl : nsN = E := Option.some.inj hk
      refine qh_catch C ht hN 0 rfl (List.mem_of_getElem? (i := 2) rfl) np_n (by decide) (by decide) (C.2.2.2.2 _ cl_L_21) (qTW.use hE.2.2.2.2.2.2.1 n_402 rfl) hc9 hv9 hcl9 ?_
      refine lv_astore (lv' := [(4, .ref q9), (0, .ref (A 0 0)), (1, .int v1), (2, .int v2), (3, .ref o)]) C.1 C.2.1 dL_meet_20 hl (by decide) rfl (fun ls hl => ?_)
      refine lv_iconst (v := nI 1) C.1 C.2.1 dL_meet_22 (by decide) ?_
      exact q_iret C hRt hLk hW rfl (X, f) ⟨hX, 1, _, by decide, rfl, ex_of _ hF, fun h => absurd h (by decide)⟩ rfl (Nat.le_of_ble_eq_true rfl) (Nat.le_of_ble_eq_true rfl) dL_meet_23
    rcases k with _ | k
    · obtain rfl : iaN = E := Option.some.inj hk
      refine qh_catch C ht hN 1 rfl (List.mem_of_getElem? (i := 0) rfl) (np_c ⟨by decide, nsN, List.mem_of_getElem? (i := 2) rfl, by decide, C.2.2.2.2 _ cl_L_21⟩ np_n) (by decide) (by decide) (C.2.2.2.2 _ cl_L_13) (qTW.use hE.2.2.2.2.2.2.1 n_289 rfl) hc9 hv9 hcl9 ?_
      refine lv_astore (lv' := [(4, .ref q9), (0, .ref (A 0 0)), (1, .int v1), (2, .int v2), (3, .ref o)]) C.1 C.2.1 dL_meet_24 hl (by decide) rfl (fun ls hl => ?_)
      refine lv_iconst (v := nI 2) C.1 C.2.1 dL_meet_26 (by decide) ?_
      exact q_iret C hRt hLk hW rfl (X, f) ⟨hX, 2, _, by decide, rfl, ex_of _ hF, fun h => absurd h (by decide)⟩ rfl (Nat.le_of_ble_eq_true rfl) (Nat.le_of_ble_eq_true rfl) dL_meet_27
    exact absurd hk (by simp)
  · obtain ⟨rr, rfl, hF⟩ := hp
    refine q_bt (b := rr) (tgt := 15) C dL_meet_8 (by decide) (fun cb => ?_) (fun cb => ?_)
    · subst cb
      refine lv_lconst (v := 0) C.1 C.2.1 dL_meet_15 rfl ?_
      refine q_last C hW 0 rfl (k := 0) (by decide) (by decide) (oL g o (vp_updL f 0 0) ++ wX g A X) rfl dL_meet_16 (fun H locs hW => ?_)
      refine lv_goto (tgt := 28) C.1 C.2.1 dL_meet_17 (by decide) ?_
      refine lv_iconst (v := nI 0) C.1 C.2.1 dL_meet_28 (by decide) ?_
      exact q_iret C hRt hLk hW rfl (X, vp_updL f 0 0) ⟨hX, 0, _, by decide, rfl, ex_of _ hF, fun _ => updL_0 f 0⟩ rfl (Nat.le_of_ble_eq_true rfl) (Nat.le_of_ble_eq_true rfl) dL_meet_29
    · subst cb
      refine lv_lconst (v := 1) C.1 C.2.1 dL_meet_11 rfl ?_
      refine lv_goto (tgt := 16) C.1 C.2.1 dL_meet_12 (by decide) ?_
      refine q_last C hW 0 rfl (k := 0) (by decide) (by decide) (oL g o (vp_updL f 0 1) ++ wX g A X) rfl dL_meet_16 (fun H locs hW => ?_)
      refine lv_goto (tgt := 28) C.1 C.2.1 dL_meet_17 (by decide) ?_
      refine lv_iconst (v := nI 0) C.1 C.2.1 dL_meet_28 (by decide) ?_
      exact q_iret C hRt hLk hW rfl (X, vp_updL f 0 1) ⟨hX, 0, _, by decide, rfl, ex_of _ hF, fun _ => updL_0 f 1⟩ rfl (Nat.le_of_ble_eq_true rfl) (Nat.le_of_ble_eq_true rfl) dL_meet_29

theorem hd_L_read : yL_read.cls ≠ "java/lang/invoke/MethodHandle" ∧ yL_read.cls ≠ "java/lang/invoke/VarHandle" ∧ (parseMethodDescriptor yL_read.desc).map (fun d => d.parameters.length) = some 5 := by decide +kernel
set_option maxHeartbeats 4000000 in
set_option maxRecDepth 100000 in
theorem c_L_read (l : Launch) (hst : l.stackTraces = false) (D : va_G) (g : Nat → ClassId) (ev : Nat × Nat × (Nat → Nat)) (A : Nat → Nat → Nat) (X : XS) (hX : XOK ev.1 X) (v1 : Int32) (v2 : Int32) (v3 : Int32) (hfull : (xE X).length < 512) (hL3 : LOK3 (xL X)) (o : Nat) (f : Nat → Int64) (sz : Nat) : qHi l yL_read (.codeWith yL_read method_10_code 6 (some .int) [(0, 12, 15, 45), (0, 12, 19, 21), (0, 12, 23, 15), (0, 12, 27, 13)] :: GW) ({ frames := 11, cells := 7, slots := 2078, locals := 283 } : Room) D g ev [.ref (A 0 0), .int v1, .int v2, .int v3, .ref o] (oL g o f ++ wX g A X) sz (hpost ev.1 (xAcc (pX X) false v1 v2 v3) (fun rr => (nI rr).toInt64)) (hw_L g A o) 7 2078 := by
  refine qh_entry (cc := cL_read) (nL := 6) (ret := some .int) rfl (by decide) (Nat.le_of_ble_eq_true rfl) (fun pp ee ss mm bb mt kc ls C hRt hLk hsz hW hE hN ht hl => ?_)
  have hl : lv_has ls 6 [(0, .ref (A 0 0)), (1, .int v1), (2, .int v2), (3, .int v3), (4, .ref o)] := hl
  have hW : qW D g (va_A (oL g o f ++ wX g A X) sz) ss.heap ss (oL g o f ++ wX g A X) ss.heap [] := hW
  refine lv_aload C.1 C.2.1 dL_read_0 (lv_at hl 4 rfl) ?_
  refine lv_iconst (v := nI 0) C.1 C.2.1 dL_read_2 (by decide) ?_
  refine lv_aload_n C.1 C.2.1 dL_read_3 rfl (lv_at hl 0 rfl) ?_
  refine lv_iload_n C.1 C.2.1 dL_read_4 rfl (lv_at hl 1 rfl) ?_
  refine lv_iload_n C.1 C.2.1 dL_read_5 rfl (lv_at hl 2 rfl) ?_
  refine lv_iload_n C.1 C.2.1 dL_read_6 rfl (lv_at hl 3 rfl) ?_
  refine qh_callVi (rest := [.int (nI 0), .ref o]) C hE (c_X3_read l hst D g ev A X hX v1 v2 v3 hfull hL3 _) (gw_V ml_L_41 im_X3_read se_X3_X3_read ini_X3 cd_X3_read rfl) rfl rfl rfl hd_X3_read ⟨(Nat.le_of_ble_eq_true rfl), (Nat.le_of_ble_eq_true rfl)⟩ hW List.perm_append_comm (fun (u : XS) => oL g o f ++ wX g A u) (fun _ => List.perm_append_comm) rfl rfl hl.1 rfl (Nat.le_of_ble_eq_true rfl) ⟨(Nat.le_of_ble_eq_true rfl), (Nat.le_of_ble_eq_true rfl)⟩ dL_read_7 (fun E u ce q9 H locs hx hW hc9 hv9 hcl9 => ?_) (fun r u H locs hp hW => ?_)
  · obtain ⟨hu, k, hk, hF⟩ := hx
    rcases k with _ | k
    · obtain rfl : ioN = E := Option.some.inj hk
      refine qh_catch C ht hN 0 rfl (List.mem_of_getElem? (i := 4) rfl) np_n (by decide) (by decide) (C.2.2.2.2 _ cl_L_45) (qTW.use hE.2.2.2.2.2.2.1 n_578 rfl) hc9 hv9 hcl9 ?_
      refine lv_astore (lv' := [(5, .ref q9), (0, .ref (A 0 0)), (1, .int v1), (2, .int v2), (3, .int v3), (4, .ref o)]) C.1 C.2.1 dL_read_15 hl (by decide) rfl (fun ls hl => ?_)
      refine lv_iconst (v := nI 1) C.1 C.2.1 dL_read_17 (by decide) ?_
      exact q_iret C hRt hLk hW rfl (u, f) ⟨hu, 1, _, by decide, rfl, hF, fun h => absurd h (by decide)⟩ rfl (Nat.le_of_ble_eq_true rfl) (Nat.le_of_ble_eq_true rfl) dL_read_18
    rcases k with _ | k
    · obtain rfl : nsN = E := Option.some.inj hk
      refine qh_catch C ht hN 1 rfl (List.mem_of_getElem? (i := 2) rfl) (np_c ⟨by decide, ioN, List.mem_of_getElem? (i := 4) rfl, by decide, C.2.2.2.2 _ cl_L_45⟩ np_n) (by decide) (by decide) (C.2.2.2.2 _ cl_L_21) (qTW.use hE.2.2.2.2.2.2.1 n_402 rfl) hc9 hv9 hcl9 ?_
      refine lv_astore (lv' := [(5, .ref q9), (0, .ref (A 0 0)), (1, .int v1), (2, .int v2), (3, .int v3), (4, .ref o)]) C.1 C.2.1 dL_read_19 hl (by decide) rfl (fun ls hl => ?_)
      refine lv_iconst (v := nI 2) C.1 C.2.1 dL_read_21 (by decide) ?_
      exact q_iret C hRt hLk hW rfl (u, f) ⟨hu, 2, _, by decide, rfl, hF, fun h => absurd h (by decide)⟩ rfl (Nat.le_of_ble_eq_true rfl) (Nat.le_of_ble_eq_true rfl) dL_read_22
    rcases k with _ | k
    · obtain rfl : isN = E := Option.some.inj hk
      refine qh_catch C ht hN 2 rfl (List.mem_of_getElem? (i := 1) rfl) (np_c ⟨by decide, ioN, List.mem_of_getElem? (i := 4) rfl, by decide, C.2.2.2.2 _ cl_L_45⟩ (np_c ⟨by decide, nsN, List.mem_of_getElem? (i := 2) rfl, by decide, C.2.2.2.2 _ cl_L_21⟩ np_n)) (by decide) (by decide) (C.2.2.2.2 _ cl_L_15) (qTW.use hE.2.2.2.2.2.2.1 n_365 rfl) hc9 hv9 hcl9 ?_
      refine lv_astore (lv' := [(5, .ref q9), (0, .ref (A 0 0)), (1, .int v1), (2, .int v2), (3, .int v3), (4, .ref o)]) C.1 C.2.1 dL_read_23 hl (by decide) rfl (fun ls hl => ?_)
      refine lv_iconst (v := nI 3) C.1 C.2.1 dL_read_25 (by decide) ?_
      exact q_iret C hRt hLk hW rfl (u, f) ⟨hu, 3, _, by decide, rfl, hF, fun h => absurd h (by decide)⟩ rfl (Nat.le_of_ble_eq_true rfl) (Nat.le_of_ble_eq_true rfl) dL_read_26
    rcases k with _ | k
    · obtain rfl : iaN = E := Option.some.inj hk
      refine qh_catch C ht hN 3 rfl (List.mem_of_getElem? (i := 0) rfl) (np_c ⟨by decide, ioN, List.mem_of_getElem? (i := 4) rfl, by decide, C.2.2.2.2 _ cl_L_45⟩ (np_c ⟨by decide, nsN, List.mem_of_getElem? (i := 2) rfl, by decide, C.2.2.2.2 _ cl_L_21⟩ (np_c ⟨by decide, isN, List.mem_of_getElem? (i := 1) rfl, by decide, C.2.2.2.2 _ cl_L_15⟩ np_n))) (by decide) (by decide) (C.2.2.2.2 _ cl_L_13) (qTW.use hE.2.2.2.2.2.2.1 n_289 rfl) hc9 hv9 hcl9 ?_
      refine lv_astore (lv' := [(5, .ref q9), (0, .ref (A 0 0)), (1, .int v1), (2, .int v2), (3, .int v3), (4, .ref o)]) C.1 C.2.1 dL_read_27 hl (by decide) rfl (fun ls hl => ?_)
      refine lv_iconst (v := nI 4) C.1 C.2.1 dL_read_29 (by decide) ?_
      exact q_iret C hRt hLk hW rfl (u, f) ⟨hu, 4, _, by decide, rfl, hF, fun h => absurd h (by decide)⟩ rfl (Nat.le_of_ble_eq_true rfl) (Nat.le_of_ble_eq_true rfl) dL_read_30
    exact absurd hk (by simp)
  · obtain ⟨hu, rr, rfl, hF⟩ := hp
    refine lv_i2l (v := (nI rr).toInt64) C.1 C.2.1 dL_read_10 rfl ?_
    refine q_last C hW 0 rfl (k := 0) (by decide) (by decide) (oL g o (vp_updL f 0 ((nI rr).toInt64)) ++ wX g A u) rfl dL_read_11 (fun H locs hW => ?_)
    refine lv_goto (tgt := 31) C.1 C.2.1 dL_read_12 (by decide) ?_
    refine lv_iconst (v := nI 0) C.1 C.2.1 dL_read_31 (by decide) ?_
    exact q_iret C hRt hLk hW rfl (u, vp_updL f 0 ((nI rr).toInt64)) ⟨hu, 0, _, by decide, rfl, hF, fun _ => updL_0 f ((nI rr).toInt64)⟩ rfl (Nat.le_of_ble_eq_true rfl) (Nat.le_of_ble_eq_true rfl) dL_read_32

theorem hd_L_write : yL_write.cls ≠ "java/lang/invoke/MethodHandle" ∧ yL_write.cls ≠ "java/lang/invoke/VarHandle" ∧ (parseMethodDescriptor yL_write.desc).map (fun d => d.parameters.length) = some 5 := by decide +kernel
set_option maxHeartbeats 4000000 in
set_option maxRecDepth 100000 in
theorem c_L_write (l : Launch) (hst : l.stackTraces = false) (D : va_G) (g : Nat → ClassId) (ev : Nat × Nat × (Nat → Nat)) (A : Nat → Nat → Nat) (X : XS) (hX : XOK ev.1 X) (v1 : Int32) (v2 : Int32) (v3 : Int32) (hfull : (xE X).length < 512) (hL3 : LOK3 (xL X)) (o : Nat) (f : Nat → Int64) (sz : Nat) : qHi l yL_write (.codeWith yL_write method_11_code 6 (some .int) [(0, 12, 15, 45), (0, 12, 19, 21), (0, 12, 23, 15), (0, 12, 27, 13)] :: GW) ({ frames := 11, cells := 7, slots := 2078, locals := 283 } : Room) D g ev [.ref (A 0 0), .int v1, .int v2, .int v3, .ref o] (oL g o f ++ wX g A X) sz (hpost ev.1 (xAcc (pX X) true v1 v2 v3) (fun rr => (nI rr).toInt64)) (hw_L g A o) 7 2078 := by
  refine qh_entry (cc := cL_write) (nL := 6) (ret := some .int) rfl (by decide) (Nat.le_of_ble_eq_true rfl) (fun pp ee ss mm bb mt kc ls C hRt hLk hsz hW hE hN ht hl => ?_)
  have hl : lv_has ls 6 [(0, .ref (A 0 0)), (1, .int v1), (2, .int v2), (3, .int v3), (4, .ref o)] := hl
  have hW : qW D g (va_A (oL g o f ++ wX g A X) sz) ss.heap ss (oL g o f ++ wX g A X) ss.heap [] := hW
  refine lv_aload C.1 C.2.1 dL_write_0 (lv_at hl 4 rfl) ?_
  refine lv_iconst (v := nI 0) C.1 C.2.1 dL_write_2 (by decide) ?_
  refine lv_aload_n C.1 C.2.1 dL_write_3 rfl (lv_at hl 0 rfl) ?_
  refine lv_iload_n C.1 C.2.1 dL_write_4 rfl (lv_at hl 1 rfl) ?_
  refine lv_iload_n C.1 C.2.1 dL_write_5 rfl (lv_at hl 2 rfl) ?_
  refine lv_iload_n C.1 C.2.1 dL_write_6 rfl (lv_at hl 3 rfl) ?_
  refine qh_callVi (rest := [.int (nI 0), .ref o]) C hE (c_X3_write l hst D g ev A X hX v1 v2 v3 hfull hL3 _) (gw_V ml_L_47 im_X3_write se_X3_X3_write ini_X3 cd_X3_write rfl) rfl rfl rfl hd_X3_write ⟨(Nat.le_of_ble_eq_true rfl), (Nat.le_of_ble_eq_true rfl)⟩ hW List.perm_append_comm (fun (u : XS) => oL g o f ++ wX g A u) (fun _ => List.perm_append_comm) rfl rfl hl.1 rfl (Nat.le_of_ble_eq_true rfl) ⟨(Nat.le_of_ble_eq_true rfl), (Nat.le_of_ble_eq_true rfl)⟩ dL_write_7 (fun E u ce q9 H locs hx hW hc9 hv9 hcl9 => ?_) (fun r u H locs hp hW => ?_)
  · obtain ⟨hu, k, hk, hF⟩ := hx
    rcases k with _ | k
    · obtain rfl : ioN = E := Option.some.inj hk
      refine qh_catch C ht hN 0 rfl (List.mem_of_getElem? (i := 4) rfl) np_n (by decide) (by decide) (C.2.2.2.2 _ cl_L_45) (qTW.use hE.2.2.2.2.2.2.1 n_578 rfl) hc9 hv9 hcl9 ?_
      refine lv_astore (lv' := [(5, .ref q9), (0, .ref (A 0 0)), (1, .int v1), (2, .int v2), (3, .int v3), (4, .ref o)]) C.1 C.2.1 dL_write_15 hl (by decide) rfl (fun ls hl => ?_)
      refine lv_iconst (v := nI 1) C.1 C.2.1 dL_write_17 (by decide) ?_
      exact q_iret C hRt hLk hW rfl (u, f) ⟨hu, 1, _, by decide, rfl, hF, fun h => absurd h (by decide)⟩ rfl (Nat.le_of_ble_eq_true rfl) (Nat.le_of_ble_eq_true rfl) dL_write_18
    rcases k with _ | k
    · obtain rfl : nsN = E := Option.some.inj hk
      refine qh_catch C ht hN 1 rfl (List.mem_of_getElem? (i := 2) rfl) (np_c ⟨by decide, ioN, List.mem_of_getElem? (i := 4) rfl, by decide, C.2.2.2.2 _ cl_L_45⟩ np_n) (by decide) (by decide) (C.2.2.2.2 _ cl_L_21) (qTW.use hE.2.2.2.2.2.2.1 n_402 rfl) hc9 hv9 hcl9 ?_
      refine lv_astore (lv' := [(5, .ref q9), (0, .ref (A 0 0)), (1, .int v1), (2, .int v2), (3, .int v3), (4, .ref o)]) C.1 C.2.1 dL_write_19 hl (by decide) rfl (fun ls hl => ?_)
      refine lv_iconst (v := nI 2) C.1 C.2.1 dL_write_21 (by decide) ?_
      exact q_iret C hRt hLk hW rfl (u, f) ⟨hu, 2, _, by decide, rfl, hF, fun h => absurd h (by decide)⟩ rfl (Nat.le_of_ble_eq_true rfl) (Nat.le_of_ble_eq_true rfl) dL_write_22
    rcases k with _ | k
    · obtain rfl : isN = E := Option.some.inj hk
      refine qh_catch C ht hN 2 rfl (List.mem_of_getElem? (i := 1) rfl) (np_c ⟨by decide, ioN, List.mem_of_getElem? (i := 4) rfl, by decide, C.2.2.2.2 _ cl_L_45⟩ (np_c ⟨by decide, nsN, List.mem_of_getElem? (i := 2) rfl, by decide, C.2.2.2.2 _ cl_L_21⟩ np_n)) (by decide) (by decide) (C.2.2.2.2 _ cl_L_15) (qTW.use hE.2.2.2.2.2.2.1 n_365 rfl) hc9 hv9 hcl9 ?_
      refine lv_astore (lv' := [(5, .ref q9), (0, .ref (A 0 0)), (1, .int v1), (2, .int v2), (3, .int v3), (4, .ref o)]) C.1 C.2.1 dL_write_23 hl (by decide) rfl (fun ls hl => ?_)
      refine lv_iconst (v := nI 3) C.1 C.2.1 dL_write_25 (by decide) ?_
      exact q_iret C hRt hLk hW rfl (u, f) ⟨hu, 3, _, by decide, rfl, hF, fun h => absurd h (by decide)⟩ rfl (Nat.le_of_ble_eq_true rfl) (Nat.le_of_ble_eq_true rfl) dL_write_26
    rcases k with _ | k
    · obtain rfl : iaN = E := Option.some.inj hk
      refine qh_catch C ht hN 3 rfl (List.mem_of_getElem? (i := 0) rfl) (np_c ⟨by decide, ioN, List.mem_of_getElem? (i := 4) rfl, by decide, C.2.2.2.2 _ cl_L_45⟩ (np_c ⟨by decide, nsN, List.mem_of_getElem? (i := 2) rfl, by decide, C.2.2.2.2 _ cl_L_21⟩ (np_c ⟨by decide, isN, List.mem_of_getElem? (i := 1) rfl, by decide, C.2.2.2.2 _ cl_L_15⟩ np_n))) (by decide) (by decide) (C.2.2.2.2 _ cl_L_13) (qTW.use hE.2.2.2.2.2.2.1 n_289 rfl) hc9 hv9 hcl9 ?_
      refine lv_astore (lv' := [(5, .ref q9), (0, .ref (A 0 0)), (1, .int v1), (2, .int v2), (3, .int v3), (4, .ref o)]) C.1 C.2.1 dL_write_27 hl (by decide) rfl (fun ls hl => ?_)
      refine lv_iconst (v := nI 4) C.1 C.2.1 dL_write_29 (by decide) ?_
      exact q_iret C hRt hLk hW rfl (u, f) ⟨hu, 4, _, by decide, rfl, hF, fun h => absurd h (by decide)⟩ rfl (Nat.le_of_ble_eq_true rfl) (Nat.le_of_ble_eq_true rfl) dL_write_30
    exact absurd hk (by simp)
  · obtain ⟨hu, rr, rfl, hF⟩ := hp
    refine lv_i2l (v := (nI rr).toInt64) C.1 C.2.1 dL_write_10 rfl ?_
    refine q_last C hW 0 rfl (k := 0) (by decide) (by decide) (oL g o (vp_updL f 0 ((nI rr).toInt64)) ++ wX g A u) rfl dL_write_11 (fun H locs hW => ?_)
    refine lv_goto (tgt := 31) C.1 C.2.1 dL_write_12 (by decide) ?_
    refine lv_iconst (v := nI 0) C.1 C.2.1 dL_write_31 (by decide) ?_
    exact q_iret C hRt hLk hW rfl (u, vp_updL f 0 ((nI rr).toInt64)) ⟨hu, 0, _, by decide, rfl, hF, fun _ => updL_0 f ((nI rr).toInt64)⟩ rfl (Nat.le_of_ble_eq_true rfl) (Nat.le_of_ble_eq_true rfl) dL_write_32

theorem hd_L_empty : yL_empty.cls ≠ "java/lang/invoke/MethodHandle" ∧ yL_empty.cls ≠ "java/lang/invoke/VarHandle" ∧ (parseMethodDescriptor yL_empty.desc).map (fun d => d.parameters.length) = some 3 := by decide +kernel
set_option maxHeartbeats 4000000 in
set_option maxRecDepth 100000 in
theorem c_L_empty (l : Launch) (hst : l.stackTraces = false) (D : va_G) (g : Nat → ClassId) (ev : Nat × Nat × (Nat → Nat)) (A : Nat → Nat → Nat) (X : XS) (hX : XOK ev.1 X) (v : Int32) (hfull : (xE X).length < 512) (o : Nat) (f : Nat → Int64) (sz : Nat) : qHi l yL_empty (.codeWith yL_empty method_12_code 4 (some .int) [(0, 9, 12, 45)] :: GW) ({ frames := 8, cells := 3, slots := 1036, locals := 252 } : Room) D g ev [.ref (A 0 0), .int v, .ref o] (oL g o f ++ wX g A X) sz (hpost ev.1 (xEmpty (pX X) v) (fun rr => (nI rr).toInt64)) (hw_L g A o) 3 1036 := by
  refine qh_entry (cc := cL_empty) (nL := 4) (ret := some .int) rfl (by decide) (Nat.le_of_ble_eq_true rfl) (fun pp ee ss mm bb mt kc ls C hRt hLk hsz hW hE hN ht hl => ?_)
  have hl : lv_has ls 4 [(0, .ref (A 0 0)), (1, .int v), (2, .ref o)] := hl
  have hW : qW D g (va_A (oL g o f ++ wX g A X) sz) ss.heap ss (oL g o f ++ wX g A X) ss.heap [] := hW
  refine lv_aload_n C.1 C.2.1 dL_empty_0 rfl (lv_at hl 2 rfl) ?_
  refine lv_iconst (v := nI 0) C.1 C.2.1 dL_empty_1 (by decide) ?_
  refine lv_aload_n C.1 C.2.1 dL_empty_2 rfl (lv_at hl 0 rfl) ?_
  refine lv_iload_n C.1 C.2.1 dL_empty_3 rfl (lv_at hl 1 rfl) ?_
  refine qh_callVi (rest := [.int (nI 0), .ref o]) C hE (c_X3_empty l hst D g ev A X hX v hfull _) (gw_V ml_L_50 im_X3_empty se_X3_X3_empty ini_X3 cd_X3_empty rfl) rfl rfl rfl hd_X3_empty ⟨(Nat.le_of_ble_eq_true rfl), (Nat.le_of_ble_eq_true rfl)⟩ hW List.perm_append_comm (fun (u : XS) => oL g o f ++ wX g A u) (fun _ => List.perm_append_comm) rfl rfl hl.1 rfl (Nat.le_of_ble_eq_true rfl) ⟨(Nat.le_of_ble_eq_true rfl), (Nat.le_of_ble_eq_true rfl)⟩ dL_empty_4 (fun E u ce q9 H locs hx hW hc9 hv9 hcl9 => ?_) (fun r u H locs hp hW => ?_)
  · obtain ⟨hu, k, hk, hF⟩ := hx
    rcases k with _ | k
    · obtain rfl : ioN = E := Option.some.inj hk
      refine qh_catch C ht hN 0 rfl (List.mem_of_getElem? (i := 4) rfl) np_n (by decide) (by decide) (C.2.2.2.2 _ cl_L_45) (qTW.use hE.2.2.2.2.2.2.1 n_578 rfl) hc9 hv9 hcl9 ?_
      refine lv_astore_n (lv' := [(3, .ref q9), (0, .ref (A 0 0)), (1, .int v), (2, .ref o)]) C.1 C.2.1 dL_empty_12 rfl hl (by decide) rfl (fun ls hl => ?_)
      refine lv_iconst (v := nI 1) C.1 C.2.1 dL_empty_13 (by decide) ?_
      exact q_iret C hRt hLk hW rfl (u, f) ⟨hu, 1, _, by decide, rfl, hF, fun h => absurd h (by decide)⟩ rfl (Nat.le_of_ble_eq_true rfl) (Nat.le_of_ble_eq_true rfl) dL_empty_14
    exact absurd hk (by simp)
  · obtain ⟨hu, rr, rfl, hF⟩ := hp
    refine lv_i2l (v := (nI rr).toInt64) C.1 C.2.1 dL_empty_7 rfl ?_
    refine q_last C hW 0 rfl (k := 0) (by decide) (by decide) (oL g o (vp_updL f 0 ((nI rr).toInt64)) ++ wX g A u) rfl dL_empty_8 (fun H locs hW => ?_)
    refine lv_goto (tgt := 15) C.1 C.2.1 dL_empty_9 (by decide) ?_
    refine lv_iconst (v := nI 0) C.1 C.2.1 dL_empty_15 (by decide) ?_
    exact q_iret C hRt hLk hW rfl (u, vp_updL f 0 ((nI rr).toInt64)) ⟨hu, 0, _, by decide, rfl, hF, fun _ => updL_0 f ((nI rr).toInt64)⟩ rfl (Nat.le_of_ble_eq_true rfl) (Nat.le_of_ble_eq_true rfl) dL_empty_16

theorem hd_L_setAhead : yL_setAhead.cls ≠ "java/lang/invoke/MethodHandle" ∧ yL_setAhead.cls ≠ "java/lang/invoke/VarHandle" ∧ (parseMethodDescriptor yL_setAhead.desc).map (fun d => d.parameters.length) = some 4 := by decide +kernel
set_option maxHeartbeats 4000000 in
set_option maxRecDepth 100000 in
theorem c_L_setAhead (l : Launch) (hst : l.stackTraces = false) (D : va_G) (g : Nat → ClassId) (ev : Nat × Nat × (Nat → Nat)) (A : Nat → Nat → Nat) (X : XS) (hX : XOK ev.1 X) (v : Int32) (b : Bool) (hfull : (xE X).length < 512) (o : Nat) (f : Nat → Int64) (sz : Nat) : qHi l yL_setAhead (.codeWith yL_setAhead method_13_code 5 (some .int) [(0, 17, 20, 45)] :: GW) ({ frames := 8, cells := 3, slots := 1036, locals := 255 } : Room) D g ev [.ref (A 0 0), .int v, .int (bI b), .ref o] (oL g o f ++ wX g A X) sz (hpost ev.1 (xAhead (pX X) v b) (fun rr => if rr = true then 1 else 0)) (hw_L g A o) 3 1036 := by
  refine qh_entry (cc := cL_setAhead) (nL := 5) (ret := some .int) rfl (by decide) (Nat.le_of_ble_eq_true rfl) (fun pp ee ss mm bb mt kc ls C hRt hLk hsz hW hE hN ht hl => ?_)
  have hl : lv_has ls 5 [(0, .ref (A 0 0)), (1, .int v), (2, .int (bI b)), (3, .ref o)] := hl
  have hW : qW D g (va_A (oL g o f ++ wX g A X) sz) ss.heap ss (oL g o f ++ wX g A X) ss.heap [] := hW
  refine lv_aload_n C.1 C.2.1 dL_setAhead_0 rfl (lv_at hl 3 rfl) ?_
  refine lv_iconst (v := nI 0) C.1 C.2.1 dL_setAhead_1 (by decide) ?_
  refine lv_aload_n C.1 C.2.1 dL_setAhead_2 rfl (lv_at hl 0 rfl) ?_
  refine lv_iload_n C.1 C.2.1 dL_setAhead_3 rfl (lv_at hl 1 rfl) ?_
  refine lv_iload_n C.1 C.2.1 dL_setAhead_4 rfl (lv_at hl 2 rfl) ?_
  refine qh_callVi (rest := [.int (nI 0), .ref o]) C hE (c_X3_setAhead l hst D g ev A X hX v b hfull _) (gw_V ml_L_53 im_X3_setAhead se_X3_X3_setAhead ini_X3 cd_X3_setAhead rfl) rfl rfl rfl hd_X3_setAhead ⟨(Nat.le_of_ble_eq_true rfl), (Nat.le_of_ble_eq_true rfl)⟩ hW List.perm_append_comm (fun (u : XS) => oL g o f ++ wX g A u) (fun _ => List.perm_append_comm) rfl rfl hl.1 rfl (Nat.le_of_ble_eq_true rfl) ⟨(Nat.le_of_ble_eq_true rfl), (Nat.le_of_ble_eq_true rfl)⟩ dL_setAhead_5 (fun E u ce q9 H locs hx hW hc9 hv9 hcl9 => ?_) (fun r u H locs hp hW => ?_)
  · obtain ⟨hu, k, hk, hF⟩ := hx
    rcases k with _ | k
    · obtain rfl : ioN = E := Option.some.inj hk
      refine qh_catch C ht hN 0 rfl (List.mem_of_getElem? (i := 4) rfl) np_n (by decide) (by decide) (C.2.2.2.2 _ cl_L_45) (qTW.use hE.2.2.2.2.2.2.1 n_578 rfl) hc9 hv9 hcl9 ?_
      refine lv_astore (lv' := [(4, .ref q9), (0, .ref (A 0 0)), (1, .int v), (2, .int (bI b)), (3, .ref o)]) C.1 C.2.1 dL_setAhead_20 hl (by decide) rfl (fun ls hl => ?_)
      refine lv_iconst (v := nI 1) C.1 C.2.1 dL_setAhead_22 (by decide) ?_
      exact q_iret C hRt hLk hW rfl (u, f) ⟨hu, 1, _, by decide, rfl, hF, fun h => absurd h (by decide)⟩ rfl (Nat.le_of_ble_eq_true rfl) (Nat.le_of_ble_eq_true rfl) dL_setAhead_23
    exact absurd hk (by simp)
  · obtain ⟨hu, rr, rfl, hF⟩ := hp
    refine q_bt (b := rr) (tgt := 15) C dL_setAhead_8 (by decide) (fun cb => ?_) (fun cb => ?_)
    · subst cb
      refine lv_lconst (v := 0) C.1 C.2.1 dL_setAhead_15 rfl ?_
      refine q_last C hW 0 rfl (k := 0) (by decide) (by decide) (oL g o (vp_updL f 0 0) ++ wX g A u) rfl dL_setAhead_16 (fun H locs hW => ?_)
      refine lv_goto (tgt := 24) C.1 C.2.1 dL_setAhead_17 (by decide) ?_
      refine lv_iconst (v := nI 0) C.1 C.2.1 dL_setAhead_24 (by decide) ?_
      exact q_iret C hRt hLk hW rfl (u, vp_updL f 0 0) ⟨hu, 0, _, by decide, rfl, hF, fun _ => updL_0 f 0⟩ rfl (Nat.le_of_ble_eq_true rfl) (Nat.le_of_ble_eq_true rfl) dL_setAhead_25
    · subst cb
      refine lv_lconst (v := 1) C.1 C.2.1 dL_setAhead_11 rfl ?_
      refine lv_goto (tgt := 16) C.1 C.2.1 dL_setAhead_12 (by decide) ?_
      refine q_last C hW 0 rfl (k := 0) (by decide) (by decide) (oL g o (vp_updL f 0 1) ++ wX g A u) rfl dL_setAhead_16 (fun H locs hW => ?_)
      refine lv_goto (tgt := 24) C.1 C.2.1 dL_setAhead_17 (by decide) ?_
      refine lv_iconst (v := nI 0) C.1 C.2.1 dL_setAhead_24 (by decide) ?_
      exact q_iret C hRt hLk hW rfl (u, vp_updL f 0 1) ⟨hu, 0, _, by decide, rfl, hF, fun _ => updL_0 f 1⟩ rfl (Nat.le_of_ble_eq_true rfl) (Nat.le_of_ble_eq_true rfl) dL_setAhead_25

theorem hd_L_costOf : yL_costOf.cls ≠ "java/lang/invoke/MethodHandle" ∧ yL_costOf.cls ≠ "java/lang/invoke/VarHandle" ∧ (parseMethodDescriptor yL_costOf.desc).map (fun d => d.parameters.length) = some 3 := by decide +kernel
set_option maxHeartbeats 4000000 in
set_option maxRecDepth 100000 in
theorem c_L_costOf (l : Launch) (hst : l.stackTraces = false) (D : va_G) (g : Nat → ClassId) (ev : Nat × Nat × (Nat → Nat)) (A : Nat → Nat → Nat) (X : XS) (hX : XOK ev.1 X) (v : Int32) (o : Nat) (f : Nat → Int64) (sz : Nat) : qHi l yL_costOf (.codeWith yL_costOf method_14_code 4 (some .int) [(0, 9, 12, 21)] :: GW) ({ frames := 8, cells := 1, slots := 6, locals := 132 } : Room) D g ev [.ref (A 0 0), .int v, .ref o] (oL g o f ++ wX g A X) sz (hpost ev.1 ((xCost (pX X) v).1, (xCost (pX X) v).2, pX X) (fun rr => (nI rr).toInt64)) (hw_L g A o) 1 6 := by
  refine qh_entry (cc := cL_costOf) (nL := 4) (ret := some .int) rfl (by decide) (Nat.le_of_ble_eq_true rfl) (fun pp ee ss mm bb mt kc ls C hRt hLk hsz hW hE hN ht hl => ?_)
  have hl : lv_has ls 4 [(0, .ref (A 0 0)), (1, .int v), (2, .ref o)] := hl
  have hW : qW D g (va_A (oL g o f ++ wX g A X) sz) ss.heap ss (oL g o f ++ wX g A X) ss.heap [] := hW
  refine lv_aload_n C.1 C.2.1 dL_costOf_0 rfl (lv_at hl 2 rfl) ?_
  refine lv_iconst (v := nI 0) C.1 C.2.1 dL_costOf_1 (by decide) ?_
  refine lv_aload_n C.1 C.2.1 dL_costOf_2 rfl (lv_at hl 0 rfl) ?_
  refine lv_iload_n C.1 C.2.1 dL_costOf_3 rfl (lv_at hl 1 rfl) ?_
  refine qh_callVi (rest := [.int (nI 0), .ref o]) C hE (c_X3_costOf l hst D g ev A X hX v _) (gw_V ml_L_57 im_X3_costOf se_X3_X3_costOf ini_X3 cd_X3_costOf rfl) rfl rfl rfl hd_X3_costOf ⟨(Nat.le_of_ble_eq_true rfl), (Nat.le_of_ble_eq_true rfl)⟩ hW List.perm_append_comm (fun (_ : Unit) => oL g o f ++ wX g A X) (fun _ => List.perm_append_comm) rfl rfl hl.1 rfl (Nat.le_of_ble_eq_true rfl) ⟨(Nat.le_of_ble_eq_true rfl), (Nat.le_of_ble_eq_true rfl)⟩ dL_costOf_4 (fun E u ce q9 H locs hx hW hc9 hv9 hcl9 => ?_) (fun r u H locs hp hW => ?_)
  · obtain ⟨k, hk, hF⟩ := hx
    rcases k with _ | k
    · obtain rfl : nsN = E := Option.some.inj hk
      refine qh_catch C ht hN 0 rfl (List.mem_of_getElem? (i := 2) rfl) np_n (by decide) (by decide) (C.2.2.2.2 _ cl_L_21) (qTW.use hE.2.2.2.2.2.2.1 n_402 rfl) hc9 hv9 hcl9 ?_
      refine lv_astore_n (lv' := [(3, .ref q9), (0, .ref (A 0 0)), (1, .int v), (2, .ref o)]) C.1 C.2.1 dL_costOf_12 rfl hl (by decide) rfl (fun ls hl => ?_)
      refine lv_iconst (v := nI 1) C.1 C.2.1 dL_costOf_13 (by decide) ?_
      exact q_iret C hRt hLk hW rfl (X, f) ⟨hX, 1, _, by decide, rfl, ex_of _ hF, fun h => absurd h (by decide)⟩ rfl (Nat.le_of_ble_eq_true rfl) (Nat.le_of_ble_eq_true rfl) dL_costOf_14
    exact absurd hk (by simp)
  · obtain ⟨rr, rfl, hF⟩ := hp
    refine lv_i2l (v := (nI rr).toInt64) C.1 C.2.1 dL_costOf_7 rfl ?_
    refine q_last C hW 0 rfl (k := 0) (by decide) (by decide) (oL g o (vp_updL f 0 ((nI rr).toInt64)) ++ wX g A X) rfl dL_costOf_8 (fun H locs hW => ?_)
    refine lv_goto (tgt := 15) C.1 C.2.1 dL_costOf_9 (by decide) ?_
    refine lv_iconst (v := nI 0) C.1 C.2.1 dL_costOf_15 (by decide) ?_
    exact q_iret C hRt hLk hW rfl (X, vp_updL f 0 ((nI rr).toInt64)) ⟨hX, 0, _, by decide, rfl, ex_of _ hF, fun _ => updL_0 f ((nI rr).toInt64)⟩ rfl (Nat.le_of_ble_eq_true rfl) (Nat.le_of_ble_eq_true rfl) dL_costOf_16

theorem hd_L_costByReplay : yL_costByReplay.cls ≠ "java/lang/invoke/MethodHandle" ∧ yL_costByReplay.cls ≠ "java/lang/invoke/VarHandle" ∧ (parseMethodDescriptor yL_costByReplay.desc).map (fun d => d.parameters.length) = some 3 := by decide +kernel
set_option maxHeartbeats 4000000 in
set_option maxRecDepth 100000 in
theorem c_L_costByReplay (l : Launch) (hst : l.stackTraces = false) (D : va_G) (g : Nat → ClassId) (ev : Nat × Nat × (Nat → Nat)) (A : Nat → Nat → Nat) (X : XS) (hX : XOK ev.1 X) (v : Int32) (o : Nat) (f : Nat → Int64) (sz : Nat) : qHi l yL_costByReplay (.codeWith yL_costByReplay method_15_code 4 (some .int) [(0, 9, 12, 21)] :: GW) ({ frames := 8, cells := 1, slots := 6, locals := 169 } : Room) D g ev [.ref (A 0 0), .int v, .ref o] (oL g o f ++ wX g A X) sz (hpostR ev.1 X v) (hw_L g A o) 1 6 := by
  refine qh_entry (cc := cL_costByReplay) (nL := 4) (ret := some .int) rfl (by decide) (Nat.le_of_ble_eq_true rfl) (fun pp ee ss mm bb mt kc ls C hRt hLk hsz hW hE hN ht hl => ?_)
  have hl : lv_has ls 4 [(0, .ref (A 0 0)), (1, .int v), (2, .ref o)] := hl
  have hW : qW D g (va_A (oL g o f ++ wX g A X) sz) ss.heap ss (oL g o f ++ wX g A X) ss.heap [] := hW
  refine lv_aload_n C.1 C.2.1 dL_costByReplay_0 rfl (lv_at hl 2 rfl) ?_
  refine lv_iconst (v := nI 0) C.1 C.2.1 dL_costByReplay_1 (by decide) ?_
  refine lv_aload_n C.1 C.2.1 dL_costByReplay_2 rfl (lv_at hl 0 rfl) ?_
  refine lv_iload_n C.1 C.2.1 dL_costByReplay_3 rfl (lv_at hl 1 rfl) ?_
  refine qh_callVi (rest := [.int (nI 0), .ref o]) C hE (c_X3_costByReplay l hst D g ev A X hX v _) (gw_V ml_L_60 im_X3_costByReplay se_X3_X3_costByReplay ini_X3 cd_X3_costByReplay rfl) rfl rfl rfl hd_X3_costByReplay ⟨(Nat.le_of_ble_eq_true rfl), (Nat.le_of_ble_eq_true rfl)⟩ hW List.perm_append_comm (fun (u : XS) => oL g o f ++ wX g A u) (fun _ => List.perm_append_comm) rfl rfl hl.1 rfl (Nat.le_of_ble_eq_true rfl) ⟨(Nat.le_of_ble_eq_true rfl), (Nat.le_of_ble_eq_true rfl)⟩ dL_costByReplay_4 (fun E u ce q9 H locs hx hW hc9 hv9 hcl9 => ?_) (fun r u H locs hp hW => ?_)
  · obtain ⟨rfl, hx, rfl⟩ := hx
    refine qh_catch C ht hN 0 rfl (List.mem_of_getElem? (i := 2) rfl) np_n (by decide) (by decide) (C.2.2.2.2 _ cl_L_21) (qTW.use hE.2.2.2.2.2.2.1 n_402 rfl) hc9 hv9 hcl9 ?_
    refine lv_astore_n (lv' := [(3, .ref q9), (0, .ref (A 0 0)), (1, .int v), (2, .ref o)]) C.1 C.2.1 dL_costByReplay_12 rfl hl (by decide) rfl (fun ls hl => ?_)
    refine lv_iconst (v := nI 1) C.1 C.2.1 dL_costByReplay_13 (by decide) ?_
    exact q_iret C hRt hLk hW rfl (X, f) ⟨hX, rfl, 1, rfl, Or.inl ⟨rfl, hx⟩⟩ rfl (Nat.le_of_ble_eq_true rfl) (Nat.le_of_ble_eq_true rfl) dL_costByReplay_14
  · obtain ⟨i, rr, Rv, h1, h2, rfl, rfl⟩ := hp
    refine lv_i2l (v := (nI rr).toInt64) C.1 C.2.1 dL_costByReplay_7 rfl ?_
    refine q_last C hW 0 rfl (k := 0) (by decide) (by decide) (oL g o (vp_updL f 0 ((nI rr).toInt64)) ++ wX g A (xSetR X Rv)) rfl dL_costByReplay_8 (fun H locs hW => ?_)
    refine lv_goto (tgt := 15) C.1 C.2.1 dL_costByReplay_9 (by decide) ?_
    refine lv_iconst (v := nI 0) C.1 C.2.1 dL_costByReplay_15 (by decide) ?_
    exact q_iret C hRt hLk hW rfl ((xSetR X Rv), vp_updL f 0 ((nI rr).toInt64)) ⟨hX.setR Rv, rfl, 0, rfl, Or.inr ⟨rfl, i, rr, h1, h2, updL_0 f ((nI rr).toInt64)⟩⟩ rfl (Nat.le_of_ble_eq_true rfl) (Nat.le_of_ble_eq_true rfl) dL_costByReplay_16

theorem hd_L_causeOf : yL_causeOf.cls ≠ "java/lang/invoke/MethodHandle" ∧ yL_causeOf.cls ≠ "java/lang/invoke/VarHandle" ∧ (parseMethodDescriptor yL_causeOf.desc).map (fun d => d.parameters.length) = some 3 := by decide +kernel
set_option maxHeartbeats 4000000 in
set_option maxRecDepth 100000 in
theorem c_L_causeOf (l : Launch) (hst : l.stackTraces = false) (D : va_G) (g : Nat → ClassId) (ev : Nat × Nat × (Nat → Nat)) (A : Nat → Nat → Nat) (X : XS) (hX : XOK ev.1 X) (v : Int32) (o : Nat) (f : Nat → Int64) (sz : Nat) : qHi l yL_causeOf (.codeWith yL_causeOf method_16_code 4 (some .int) [(0, 9, 12, 21)] :: GW) ({ frames := 8, cells := 1, slots := 6, locals := 132 } : Room) D g ev [.ref (A 0 0), .int v, .ref o] (oL g o f ++ wX g A X) sz (hpost ev.1 ((xCaus (pX X) v).1, (xCaus (pX X) v).2, pX X) (fun rr => (cI rr).toInt64)) (hw_L g A o) 1 6 := by
  refine qh_entry (cc := cL_causeOf) (nL := 4) (ret := some .int) rfl (by decide) (Nat.le_of_ble_eq_true rfl) (fun pp ee ss mm bb mt kc ls C hRt hLk hsz hW hE hN ht hl => ?_)
  have hl : lv_has ls 4 [(0, .ref (A 0 0)), (1, .int v), (2, .ref o)] := hl
  have hW : qW D g (va_A (oL g o f ++ wX g A X) sz) ss.heap ss (oL g o f ++ wX g A X) ss.heap [] := hW
  refine lv_aload_n C.1 C.2.1 dL_causeOf_0 rfl (lv_at hl 2 rfl) ?_
  refine lv_iconst (v := nI 0) C.1 C.2.1 dL_causeOf_1 (by decide) ?_
  refine lv_aload_n C.1 C.2.1 dL_causeOf_2 rfl (lv_at hl 0 rfl) ?_
  refine lv_iload_n C.1 C.2.1 dL_causeOf_3 rfl (lv_at hl 1 rfl) ?_
  refine qh_callVi (rest := [.int (nI 0), .ref o]) C hE (c_X3_causeOf l hst D g ev A X hX v _) (gw_V ml_L_63 im_X3_causeOf se_X3_X3_causeOf ini_X3 cd_X3_causeOf rfl) rfl rfl rfl hd_X3_causeOf ⟨(Nat.le_of_ble_eq_true rfl), (Nat.le_of_ble_eq_true rfl)⟩ hW List.perm_append_comm (fun (_ : Unit) => oL g o f ++ wX g A X) (fun _ => List.perm_append_comm) rfl rfl hl.1 rfl (Nat.le_of_ble_eq_true rfl) ⟨(Nat.le_of_ble_eq_true rfl), (Nat.le_of_ble_eq_true rfl)⟩ dL_causeOf_4 (fun E u ce q9 H locs hx hW hc9 hv9 hcl9 => ?_) (fun r u H locs hp hW => ?_)
  · obtain ⟨k, hk, hF⟩ := hx
    rcases k with _ | k
    · obtain rfl : nsN = E := Option.some.inj hk
      refine qh_catch C ht hN 0 rfl (List.mem_of_getElem? (i := 2) rfl) np_n (by decide) (by decide) (C.2.2.2.2 _ cl_L_21) (qTW.use hE.2.2.2.2.2.2.1 n_402 rfl) hc9 hv9 hcl9 ?_
      refine lv_astore_n (lv' := [(3, .ref q9), (0, .ref (A 0 0)), (1, .int v), (2, .ref o)]) C.1 C.2.1 dL_causeOf_12 rfl hl (by decide) rfl (fun ls hl => ?_)
      refine lv_iconst (v := nI 1) C.1 C.2.1 dL_causeOf_13 (by decide) ?_
      exact q_iret C hRt hLk hW rfl (X, f) ⟨hX, 1, _, by decide, rfl, ex_of _ hF, fun h => absurd h (by decide)⟩ rfl (Nat.le_of_ble_eq_true rfl) (Nat.le_of_ble_eq_true rfl) dL_causeOf_14
    exact absurd hk (by simp)
  · obtain ⟨rr, rfl, hF⟩ := hp
    refine lv_i2l (v := (cI rr).toInt64) C.1 C.2.1 dL_causeOf_7 rfl ?_
    refine q_last C hW 0 rfl (k := 0) (by decide) (by decide) (oL g o (vp_updL f 0 ((cI rr).toInt64)) ++ wX g A X) rfl dL_causeOf_8 (fun H locs hW => ?_)
    refine lv_goto (tgt := 15) C.1 C.2.1 dL_causeOf_9 (by decide) ?_
    refine lv_iconst (v := nI 0) C.1 C.2.1 dL_causeOf_15 (by decide) ?_
    exact q_iret C hRt hLk hW rfl (X, vp_updL f 0 ((cI rr).toInt64)) ⟨hX, 0, _, by decide, rfl, ex_of _ hF, fun _ => updL_0 f ((cI rr).toInt64)⟩ rfl (Nat.le_of_ble_eq_true rfl) (Nat.le_of_ble_eq_true rfl) dL_causeOf_16
