theorem hd_X0_isAhead : yX0_isAhead.cls = RX0 ∧ yX0_isAhead.cls ≠ "java/lang/invoke/MethodHandle" ∧ yX0_isAhead.cls ≠ "java/lang/invoke/VarHandle" ∧ (parseMethodDescriptor yX0_isAhead.desc).map (fun d => d.parameters.length) = some 1 := by decide +kernel
set_option maxHeartbeats 4000000 in
set_option maxRecDepth 100000 in
theorem c_X0_isAhead (l : Launch) (D : va_G) (g : Nat → ClassId) (h : Nat) (a : Nat → Nat) (S : CS) (c : Nat) (hc : c < 4) (sz : Nat) : qMi l yX0_isAhead (.code yX0_isAhead cX0_isAhead 2 (some .boolean) :: GW) ({ frames := 0, cells := 0, slots := 0, locals := 0 } : Room) D g [.ref h, .int (nI c)] (wC g h a S) sz (fun (r : Int32) (u : CS) => bI (cAh S c) = r ∧ S = u) (fun (u : CS) => (wC g h a u)) 0 0 := by
  refine q_entry (cc := cX0_isAhead) (nL := 2) (ret := (some .boolean)) rfl (by decide) (Nat.le_of_ble_eq_true rfl) (fun pp ee ss mm bb mt kc ls C hRt hLk hin hsz hW hl => ?_)
  have hl : lv_has ls 2 [(0, .ref h), (1, .int (nI c))] := hl
  refine lv_aload_n C.1 C.2.1 dX0_isAhead_0 rfl (lv_at hl 0 rfl) ?_
  refine q_get (v := .ref (a 4)) C hW 0 rfl rfl 4 (by decide) gu_X0 (C.2.2.2.2 _ fl_X0_26) rfl rfl dX0_isAhead_1 ?_
  refine lv_iload_n C.1 C.2.1 dX0_isAhead_4 rfl (lv_at hl 1 rfl) ?_
  refine q_zaldB (f := cAh S) C hW 5 rfl (k := c) (by omega) (by decide) dX0_isAhead_5 ?_
  exact q_iret C hRt hLk hW (narB _) S ⟨rfl, rfl⟩  rfl (Nat.le_of_ble_eq_true rfl) (Nat.le_of_ble_eq_true rfl) dX0_isAhead_6

theorem hd_X0_countFetched : yX0_countFetched.cls = RX0 ∧ yX0_countFetched.cls ≠ "java/lang/invoke/MethodHandle" ∧ yX0_countFetched.cls ≠ "java/lang/invoke/VarHandle" ∧ (parseMethodDescriptor yX0_countFetched.desc).map (fun d => d.parameters.length) = some 1 := by decide +kernel
set_option maxHeartbeats 4000000 in
set_option maxRecDepth 100000 in
theorem c_X0_countFetched (l : Launch) (D : va_G) (g : Nat → ClassId) (h : Nat) (a : Nat → Nat) (S : CS) (c : Nat) (hc : c < 4) (sz : Nat) : qMi l yX0_countFetched (.code yX0_countFetched cX0_countFetched 2 (some .int) :: GW) ({ frames := 0, cells := 0, slots := 0, locals := 0 } : Room) D g [.ref h, .int (nI c)] (wC g h a S) sz (fun (r : Int32) (u : CS) => cFe S c = r ∧ S = u) (fun (u : CS) => (wC g h a u)) 0 0 := by
  refine q_entry (cc := cX0_countFetched) (nL := 2) (ret := (some .int)) rfl (by decide) (Nat.le_of_ble_eq_true rfl) (fun pp ee ss mm bb mt kc ls C hRt hLk hin hsz hW hl => ?_)
  have hl : lv_has ls 2 [(0, .ref h), (1, .int (nI c))] := hl
  refine lv_aload_n C.1 C.2.1 dX0_countFetched_0 rfl (lv_at hl 0 rfl) ?_
  refine q_get (v := .ref (a 7)) C hW 0 rfl rfl 7 (by decide) gu_X0 (C.2.2.2.2 _ fl_X0_35) rfl rfl dX0_countFetched_1 ?_
  refine lv_iload_n C.1 C.2.1 dX0_countFetched_4 rfl (lv_at hl 1 rfl) ?_
  refine q_iald (f := cFe S) C hW 8 rfl (k := c) (by omega) (by decide) dX0_countFetched_5 ?_
  exact q_iret C hRt hLk hW rfl S ⟨rfl, rfl⟩  rfl (Nat.le_of_ble_eq_true rfl) (Nat.le_of_ble_eq_true rfl) dX0_countFetched_6

theorem hd_X0_countUseful : yX0_countUseful.cls = RX0 ∧ yX0_countUseful.cls ≠ "java/lang/invoke/MethodHandle" ∧ yX0_countUseful.cls ≠ "java/lang/invoke/VarHandle" ∧ (parseMethodDescriptor yX0_countUseful.desc).map (fun d => d.parameters.length) = some 1 := by decide +kernel
set_option maxHeartbeats 4000000 in
set_option maxRecDepth 100000 in
theorem c_X0_countUseful (l : Launch) (D : va_G) (g : Nat → ClassId) (h : Nat) (a : Nat → Nat) (S : CS) (c : Nat) (hc : c < 4) (sz : Nat) : qMi l yX0_countUseful (.code yX0_countUseful cX0_countUseful 2 (some .int) :: GW) ({ frames := 0, cells := 0, slots := 0, locals := 0 } : Room) D g [.ref h, .int (nI c)] (wC g h a S) sz (fun (r : Int32) (u : CS) => cUf S c = r ∧ S = u) (fun (u : CS) => (wC g h a u)) 0 0 := by
  refine q_entry (cc := cX0_countUseful) (nL := 2) (ret := (some .int)) rfl (by decide) (Nat.le_of_ble_eq_true rfl) (fun pp ee ss mm bb mt kc ls C hRt hLk hin hsz hW hl => ?_)
  have hl : lv_has ls 2 [(0, .ref h), (1, .int (nI c))] := hl
  refine lv_aload_n C.1 C.2.1 dX0_countUseful_0 rfl (lv_at hl 0 rfl) ?_
  refine q_get (v := .ref (a 8)) C hW 0 rfl rfl 8 (by decide) gu_X0 (C.2.2.2.2 _ fl_X0_38) rfl rfl dX0_countUseful_1 ?_
  refine lv_iload_n C.1 C.2.1 dX0_countUseful_4 rfl (lv_at hl 1 rfl) ?_
  refine q_iald (f := cUf S) C hW 9 rfl (k := c) (by omega) (by decide) dX0_countUseful_5 ?_
  exact q_iret C hRt hLk hW rfl S ⟨rfl, rfl⟩  rfl (Nat.le_of_ble_eq_true rfl) (Nat.le_of_ble_eq_true rfl) dX0_countUseful_6

theorem hd_X0_countWrong : yX0_countWrong.cls = RX0 ∧ yX0_countWrong.cls ≠ "java/lang/invoke/MethodHandle" ∧ yX0_countWrong.cls ≠ "java/lang/invoke/VarHandle" ∧ (parseMethodDescriptor yX0_countWrong.desc).map (fun d => d.parameters.length) = some 1 := by decide +kernel
set_option maxHeartbeats 4000000 in
set_option maxRecDepth 100000 in
theorem c_X0_countWrong (l : Launch) (D : va_G) (g : Nat → ClassId) (h : Nat) (a : Nat → Nat) (S : CS) (c : Nat) (hc : c < 4) (sz : Nat) : qMi l yX0_countWrong (.code yX0_countWrong cX0_countWrong 2 (some .int) :: GW) ({ frames := 0, cells := 0, slots := 0, locals := 0 } : Room) D g [.ref h, .int (nI c)] (wC g h a S) sz (fun (r : Int32) (u : CS) => cWr S c = r ∧ S = u) (fun (u : CS) => (wC g h a u)) 0 0 := by
  refine q_entry (cc := cX0_countWrong) (nL := 2) (ret := (some .int)) rfl (by decide) (Nat.le_of_ble_eq_true rfl) (fun pp ee ss mm bb mt kc ls C hRt hLk hin hsz hW hl => ?_)
  have hl : lv_has ls 2 [(0, .ref h), (1, .int (nI c))] := hl
  refine lv_aload_n C.1 C.2.1 dX0_countWrong_0 rfl (lv_at hl 0 rfl) ?_
  refine q_get (v := .ref (a 9)) C hW 0 rfl rfl 9 (by decide) gu_X0 (C.2.2.2.2 _ fl_X0_41) rfl rfl dX0_countWrong_1 ?_
  refine lv_iload_n C.1 C.2.1 dX0_countWrong_4 rfl (lv_at hl 1 rfl) ?_
  refine q_iald (f := cWr S) C hW 10 rfl (k := c) (by omega) (by decide) dX0_countWrong_5 ?_
  exact q_iret C hRt hLk hW rfl S ⟨rfl, rfl⟩  rfl (Nat.le_of_ble_eq_true rfl) (Nat.le_of_ble_eq_true rfl) dX0_countWrong_6

theorem hd_X0_stateOf : yX0_stateOf.cls = RX0 ∧ yX0_stateOf.cls ≠ "java/lang/invoke/MethodHandle" ∧ yX0_stateOf.cls ≠ "java/lang/invoke/VarHandle" ∧ (parseMethodDescriptor yX0_stateOf.desc).map (fun d => d.parameters.length) = some 2 := by decide +kernel
set_option maxHeartbeats 4000000 in
set_option maxRecDepth 100000 in
theorem c_X0_stateOf (l : Launch) (D : va_G) (g : Nat → ClassId) (h : Nat) (a : Nat → Nat) (S : CS) (c : Nat) (k : Nat) (hc : c < 4) (hk : k < 64) (sz : Nat) : qMi l yX0_stateOf (.code yX0_stateOf cX0_stateOf 3 (some .char) :: GW) ({ frames := 0, cells := 0, slots := 0, locals := 0 } : Room) D g [.ref h, .int (nI c), .int (nI k)] (wC g h a S) sz (fun (r : Int32) (u : CS) => cI (cSt S (c * 64 + k)) = r ∧ S = u) (fun (u : CS) => (wC g h a u)) 0 0 := by
  refine q_entry (cc := cX0_stateOf) (nL := 3) (ret := (some .char)) rfl (by decide) (Nat.le_of_ble_eq_true rfl) (fun pp ee ss mm bb mt kc ls C hRt hLk hin hsz hW hl => ?_)
  have hl : lv_has ls 3 [(0, .ref h), (1, .int (nI c)), (2, .int (nI k))] := hl
  refine lv_aload_n C.1 C.2.1 dX0_stateOf_0 rfl (lv_at hl 0 rfl) ?_
  refine q_get (v := .ref (a 0)) C hW 0 rfl rfl 0 (by decide) gu_X0 (C.2.2.2.2 _ fl_X0_11) rfl rfl dX0_stateOf_1 ?_
  refine lv_iload_n C.1 C.2.1 dX0_stateOf_4 rfl (lv_at hl 1 rfl) ?_
  refine lv_bipush (v := nI 64) C.1 C.2.1 dX0_stateOf_5 (by decide) ?_
  refine q_imul C dX0_stateOf_7 ?_
  refine lv_iload_n C.1 C.2.1 dX0_stateOf_8 rfl (lv_at hl 2 rfl) ?_
  refine q_iadd C dX0_stateOf_9 ?_
  refine q_caldC (f := cSt S) C hW 1 rfl (k := c * 64 + k) (by omega) (by decide) dX0_stateOf_10 ?_
  exact q_iret C hRt hLk hW (narC _) S ⟨rfl, rfl⟩  rfl (Nat.le_of_ble_eq_true rfl) (Nat.le_of_ble_eq_true rfl) dX0_stateOf_11

theorem hd_X0_tellAhead : yX0_tellAhead.cls = RX0 ∧ yX0_tellAhead.cls ≠ "java/lang/invoke/MethodHandle" ∧ yX0_tellAhead.cls ≠ "java/lang/invoke/VarHandle" ∧ (parseMethodDescriptor yX0_tellAhead.desc).map (fun d => d.parameters.length) = some 2 := by decide +kernel
set_option maxHeartbeats 4000000 in
set_option maxRecDepth 100000 in
theorem c_X0_tellAhead (l : Launch) (D : va_G) (g : Nat → ClassId) (h : Nat) (a : Nat → Nat) (S : CS) (c : Nat) (b : Bool) (hc : c < 4) (sz : Nat) : qMv l yX0_tellAhead (.code yX0_tellAhead cX0_tellAhead 3 none :: GW) ({ frames := 0, cells := 0, slots := 0, locals := 0 } : Room) D g [.ref h, .int (nI c), .int (bI b)] (wC g h a S) sz (fun (u : CS) => (pTell S c b) = u) (fun (u : CS) => (wC g h a u)) 0 0 := by
  refine q_entry (cc := cX0_tellAhead) (nL := 3) (ret := none) rfl (by decide) (Nat.le_of_ble_eq_true rfl) (fun pp ee ss mm bb mt kc ls C hRt hLk hin hsz hW hl => ?_)
  have hl : lv_has ls 3 [(0, .ref h), (1, .int (nI c)), (2, .int (bI b))] := hl
  refine lv_aload_n C.1 C.2.1 dX0_tellAhead_0 rfl (lv_at hl 0 rfl) ?_
  refine q_get (v := .ref (a 4)) C hW 0 rfl rfl 4 (by decide) gu_X0 (C.2.2.2.2 _ fl_X0_26) rfl rfl dX0_tellAhead_1 ?_
  refine lv_iload_n C.1 C.2.1 dX0_tellAhead_4 rfl (lv_at hl 1 rfl) ?_
  refine lv_iload_n C.1 C.2.1 dX0_tellAhead_5 rfl (lv_at hl 2 rfl) ?_
  refine q_zastB C hW 5 rfl (k := c) (by omega) (by decide) (v := b) (wC g h a (cSt S, cUs S, cLv S, cUn S, va_up (cAh S) c b, cMl S, cSp S, cFe S, cUf S, cWr S, cNw S)) rfl dX0_tellAhead_6 (fun H locs hW => ?_)
  refine lv_aload_n C.1 C.2.1 dX0_tellAhead_7 rfl (lv_at hl 0 rfl) ?_
  refine q_get (v := .ref (a 5)) C hW 0 rfl rfl 5 (by decide) gu_X0 (C.2.2.2.2 _ fl_X0_29) rfl rfl dX0_tellAhead_8 ?_
  refine lv_iload_n C.1 C.2.1 dX0_tellAhead_11 rfl (lv_at hl 1 rfl) ?_
  refine lv_iconst (v := (-1)) C.1 C.2.1 dX0_tellAhead_12 (by decide) ?_
  refine q_iast C hW 6 rfl (k := c) (by omega) (by decide) (wC g h a (cSt S, cUs S, cLv S, cUn S, va_up (cAh S) c b, upd (cMl S) c (-1), cSp S, cFe S, cUf S, cWr S, cNw S)) rfl dX0_tellAhead_13 (fun H locs hW => ?_)
  refine lv_aload_n C.1 C.2.1 dX0_tellAhead_14 rfl (lv_at hl 0 rfl) ?_
  refine q_get (v := .ref (a 6)) C hW 0 rfl rfl 6 (by decide) gu_X0 (C.2.2.2.2 _ fl_X0_32) rfl rfl dX0_tellAhead_15 ?_
  refine lv_iload_n C.1 C.2.1 dX0_tellAhead_18 rfl (lv_at hl 1 rfl) ?_
  refine lv_iconst (v := nI 0) C.1 C.2.1 dX0_tellAhead_19 (by decide) ?_
  refine q_iast C hW 7 rfl (k := c) (by omega) (by decide) (wC g h a (cSt S, cUs S, cLv S, cUn S, va_up (cAh S) c b, upd (cMl S) c (-1), upd (cSp S) c (nI 0), cFe S, cUf S, cWr S, cNw S)) rfl dX0_tellAhead_20 (fun H locs hW => ?_)
  exact q_vret C hRt hLk hW (cSt S, cUs S, cLv S, cUn S, va_up (cAh S) c b, upd (cMl S) c (-1), upd (cSp S) c (nI 0), cFe S, cUf S, cWr S, cNw S) rfl  rfl (Nat.le_of_ble_eq_true rfl) (Nat.le_of_ble_eq_true rfl) dX0_tellAhead_21

theorem hd_X0_drop : yX0_drop.cls = RX0 ∧ yX0_drop.cls ≠ "java/lang/invoke/MethodHandle" ∧ yX0_drop.cls ≠ "java/lang/invoke/VarHandle" ∧ (parseMethodDescriptor yX0_drop.desc).map (fun d => d.parameters.length) = some 3 := by decide +kernel
set_option maxHeartbeats 4000000 in
set_option maxRecDepth 100000 in
theorem c_X0_drop (l : Launch) (D : va_G) (g : Nat → ClassId) (h : Nat) (a : Nat → Nat) (S : CS) (c : Nat) (k : Nat) (hc : c < 4) (hk : k < 64) (v : Int32) (sz : Nat) : qMv l yX0_drop (.code yX0_drop cX0_drop 5 none :: GW) ({ frames := 0, cells := 0, slots := 0, locals := 0 } : Room) D g [.ref h, .int (nI c), .int (nI k), .int v] (wC g h a S) sz (fun (u : CS) => (pDrop S c k v) = u) (fun (u : CS) => (wC g h a u)) 0 0 := by
  refine q_entry (cc := cX0_drop) (nL := 5) (ret := none) rfl (by decide) (Nat.le_of_ble_eq_true rfl) (fun pp ee ss mm bb mt kc ls C hRt hLk hin hsz hW hl => ?_)
  have hl : lv_has ls 5 [(0, .ref h), (1, .int (nI c)), (2, .int (nI k)), (3, .int v)] := hl
  refine lv_iload_n C.1 C.2.1 dX0_drop_0 rfl (lv_at hl 1 rfl) ?_
  refine lv_bipush (v := nI 64) C.1 C.2.1 dX0_drop_1 (by decide) ?_
  refine q_imul C dX0_drop_3 ?_
  refine lv_iload_n C.1 C.2.1 dX0_drop_4 rfl (lv_at hl 2 rfl) ?_
  refine q_iadd C dX0_drop_5 ?_
  refine lv_istore (lv' := [(4, .int (nI (c * 64 + k))), (0, .ref h), (1, .int (nI c)), (2, .int (nI k)), (3, .int v)]) C.1 C.2.1 dX0_drop_6 hl (by decide) rfl (fun ls hl => ?_)
  refine lv_aload_n C.1 C.2.1 dX0_drop_8 rfl (lv_at hl 1 rfl) ?_
  refine q_get (v := .ref (a 0)) C hW 0 rfl rfl 0 (by decide) gu_X0 (C.2.2.2.2 _ fl_X0_11) rfl rfl dX0_drop_9 ?_
  refine lv_iload C.1 C.2.1 dX0_drop_12 (lv_at hl 0 rfl) ?_
  refine q_caldC (f := cSt S) C hW 1 rfl (k := c * 64 + k) (by omega) (by decide) dX0_drop_14 ?_
  refine lv_bipush (v := nI 45) C.1 C.2.1 dX0_drop_15 (by decide) ?_
  refine q_cne (tgt := 21) (y := 45) C (by decide) dX0_drop_17 (by decide) (fun c_17 => ?_) (fun c_17 => ?_)
  · refine lv_aload_n C.1 C.2.1 dX0_drop_21 rfl (lv_at hl 1 rfl) ?_
    refine q_get (v := .ref (a 0)) C hW 0 rfl rfl 0 (by decide) gu_X0 (C.2.2.2.2 _ fl_X0_11) rfl rfl dX0_drop_22 ?_
    refine lv_iload C.1 C.2.1 dX0_drop_25 (lv_at hl 0 rfl) ?_
    refine lv_bipush (v := nI 45) C.1 C.2.1 dX0_drop_27 (by decide) ?_
    refine q_castC C hW 1 rfl (k := c * 64 + k) (by omega) (by decide) (v := (UInt16.ofNat 45)) (wC g h a (va_up (cSt S) (c * 64 + k) (UInt16.ofNat 45), cUs S, cLv S, cUn S, cAh S, cMl S, cSp S, cFe S, cUf S, cWr S, cNw S)) rfl dX0_drop_29 (fun H locs hW => ?_)
    refine lv_aload_n C.1 C.2.1 dX0_drop_30 rfl (lv_at hl 1 rfl) ?_
    refine q_get (v := .ref (a 2)) C hW 0 rfl rfl 2 (by decide) gu_X0 (C.2.2.2.2 _ fl_X0_19) rfl rfl dX0_drop_31 ?_
    refine lv_iload C.1 C.2.1 dX0_drop_34 (lv_at hl 0 rfl) ?_
    refine lv_iload_n C.1 C.2.1 dX0_drop_36 rfl (lv_at hl 4 rfl) ?_
    refine q_iast C hW 3 rfl (k := c * 64 + k) (by omega) (by decide) (wC g h a (va_up (cSt S) (c * 64 + k) (UInt16.ofNat 45), cUs S, upd (cLv S) (c * 64 + k) v, cUn S, cAh S, cMl S, cSp S, cFe S, cUf S, cWr S, cNw S)) rfl dX0_drop_37 (fun H locs hW => ?_)
    refine lv_aload_n C.1 C.2.1 dX0_drop_38 rfl (lv_at hl 1 rfl) ?_
    refine q_get (v := .ref (a 3)) C hW 0 rfl rfl 3 (by decide) gu_X0 (C.2.2.2.2 _ fl_X0_22) rfl rfl dX0_drop_39 ?_
    refine lv_iload C.1 C.2.1 dX0_drop_42 (lv_at hl 0 rfl) ?_
    refine q_zaldB (f := cUn S) C hW 4 rfl (k := c * 64 + k) (by omega) (by decide) dX0_drop_44 ?_
    refine q_bt (b := (cUn S) (c * 64 + k)) (tgt := 66) C dX0_drop_45 (by decide) (fun c_45 => ?_) (fun c_45 => ?_)
    · exact q_vret C hRt hLk hW (va_up (cSt S) (c * 64 + k) (UInt16.ofNat 45), cUs S, upd (cLv S) (c * 64 + k) v, cUn S, cAh S, cMl S, cSp S, cFe S, cUf S, cWr S, cNw S) (Eq.symm (by unfold pDrop; rw [if_neg c_17, if_pos c_45]))  rfl (Nat.le_of_ble_eq_true rfl) (Nat.le_of_ble_eq_true rfl) dX0_drop_66
    refine lv_aload_n C.1 C.2.1 dX0_drop_48 rfl (lv_at hl 1 rfl) ?_
    refine q_get (v := .ref (a 3)) C hW 0 rfl rfl 3 (by decide) gu_X0 (C.2.2.2.2 _ fl_X0_22) rfl rfl dX0_drop_49 ?_
    refine lv_iload C.1 C.2.1 dX0_drop_52 (lv_at hl 0 rfl) ?_
    refine lv_iconst (v := nI 0) C.1 C.2.1 dX0_drop_54 (by decide) ?_
    refine q_zastB C hW 4 rfl (k := c * 64 + k) (by omega) (by decide) (v := false) (wC g h a (va_up (cSt S) (c * 64 + k) (UInt16.ofNat 45), cUs S, upd (cLv S) (c * 64 + k) v, va_up (cUn S) (c * 64 + k) false, cAh S, cMl S, cSp S, cFe S, cUf S, cWr S, cNw S)) rfl dX0_drop_55 (fun H locs hW => ?_)
    refine lv_aload_n C.1 C.2.1 dX0_drop_56 rfl (lv_at hl 1 rfl) ?_
    refine q_get (v := .ref (a 9)) C hW 0 rfl rfl 9 (by decide) gu_X0 (C.2.2.2.2 _ fl_X0_41) rfl rfl dX0_drop_57 ?_
    refine lv_iload_n C.1 C.2.1 dX0_drop_60 rfl (lv_at hl 2 rfl) ?_
    refine lv_dup2_11 C.1 C.2.1 dX0_drop_61 rfl rfl ?_
    refine q_iald (f := cWr S) C hW 10 rfl (k := c) (by omega) (by decide) dX0_drop_62 ?_
    refine lv_iconst (v := nI 1) C.1 C.2.1 dX0_drop_63 (by decide) ?_
    refine lv_iadd C.1 C.2.1 dX0_drop_64 ?_
    refine q_iast C hW 10 rfl (k := c) (by omega) (by decide) (wC g h a (va_up (cSt S) (c * 64 + k) (UInt16.ofNat 45), cUs S, upd (cLv S) (c * 64 + k) v, va_up (cUn S) (c * 64 + k) false, cAh S, cMl S, cSp S, cFe S, cUf S, upd (cWr S) c (((cWr S) c) + (nI 1)), cNw S)) rfl dX0_drop_65 (fun H locs hW => ?_)
    exact q_vret C hRt hLk hW (va_up (cSt S) (c * 64 + k) (UInt16.ofNat 45), cUs S, upd (cLv S) (c * 64 + k) v, va_up (cUn S) (c * 64 + k) false, cAh S, cMl S, cSp S, cFe S, cUf S, upd (cWr S) c (((cWr S) c) + (nI 1)), cNw S) (Eq.symm (by unfold pDrop; rw [if_neg c_17, if_neg (by rw [c_45]; decide)]))  rfl (Nat.le_of_ble_eq_true rfl) (Nat.le_of_ble_eq_true rfl) dX0_drop_66
  exact q_vret C hRt hLk hW S (Eq.symm (by unfold pDrop; rw [if_pos c_17]))  rfl (Nat.le_of_ble_eq_true rfl) (Nat.le_of_ble_eq_true rfl) dX0_drop_20

theorem hd_X0_ownerOf : yX0_ownerOf.cls = RX0 ∧ yX0_ownerOf.cls ≠ "java/lang/invoke/MethodHandle" ∧ yX0_ownerOf.cls ≠ "java/lang/invoke/VarHandle" ∧ (parseMethodDescriptor yX0_ownerOf.desc).map (fun d => d.parameters.length) = some 1 := by decide +kernel
set_option maxHeartbeats 4000000 in
set_option maxRecDepth 100000 in
theorem c_X0_ownerOf (l : Launch) (D : va_G) (g : Nat → ClassId) (h : Nat) (a : Nat → Nat) (S : CS) (k : Nat) (hk : k < 64) (sz : Nat) : qMi l yX0_ownerOf (.code yX0_ownerOf cX0_ownerOf 4 (some .int) :: GW) ({ frames := 0, cells := 0, slots := 0, locals := 0 } : Room) D g [.ref h, .int (nI k)] (wC g h a S) sz (fun (r : Int32) (u : CS) => oI (pOwner S k) = r ∧ S = u) (fun (u : CS) => (wC g h a u)) 0 0 := by
  refine q_entry (cc := cX0_ownerOf) (nL := 4) (ret := (some .int)) rfl (by decide) (Nat.le_of_ble_eq_true rfl) (fun pp ee ss mm bb mt kc ls C hRt hLk hin hsz hW hl => ?_)
  have hl : lv_has ls 4 [(0, .ref h), (1, .int (nI k))] := hl
  refine lv_iconst (v := nI 0) C.1 C.2.1 dX0_ownerOf_0 (by decide) ?_
  refine lv_istore_n (lv' := [(2, .int (nI 0)), (0, .ref h), (1, .int (nI k))]) C.1 C.2.1 dX0_ownerOf_1 rfl hl (by decide) rfl (fun ls hl => ?_)
  have L_2 : ∀ (nf : Nat) (i : Nat) (hi : i ≤ 4) (hj : ∀ j, j < i → ownB S (j * 64 + k) = false) (x2 : Int32) (e2 : x2 = nI i) (hmu : 4 - i < nf) (ls : Array Slot) (H : Heap) (locs : List Loc), lv_has ls 4 [(0, .ref h), (1, .int (nI k)), (2, .int x2)] → qW D g (va_A (wC g h a S) sz) ss.heap ss (wC g h a S) H locs → W pp l ee ({ frames := 0, cells := 0, slots := 0, locals := 0 } : Room) ss mm [.ref h, .int (nI k)].toArray bb mt kc H locs 0 0 (MQ bb (va_Qi (fun (r : Int32) (u : CS) => oI (pOwner S k) = r ∧ S = u) (qB D g (wC g h a S) sz (fun (u : CS) => (wC g h a u))) (va_A (wC g h a S) sz)) [.ref h, .int (nI k)].toArray ss 0 0 (va_A (wC g h a S) sz)) (F0 mm 2 ls []) := by
    intro nf
    induction nf with
    | zero =>
      intro i hi hj x2 e2 hmu ls H locs hl hW
      exact absurd hmu (by omega)
    | succ nf ih =>
      intro i hi hj x2 e2 hmu ls H locs hl hW
      subst e2
      refine lv_iload_n C.1 C.2.1 dX0_ownerOf_2 rfl (lv_at hl 2 rfl) ?_
      refine lv_iconst (v := nI 4) C.1 C.2.1 dX0_ownerOf_3 (by decide) ?_
      refine q_ge (tgt := 39) C (by omega) (by omega) dX0_ownerOf_4 (by decide) (fun c_4 => ?_) (fun c_4 => ?_)
      · refine lv_iconst (v := (-1)) C.1 C.2.1 dX0_ownerOf_39 (by decide) ?_
        exact q_iret C hRt hLk hW rfl S ⟨(Eq.symm (by unfold pOwner; rw [srch_none (fun j hj9 => hj j (by omega))]; rfl)), rfl⟩  rfl (Nat.le_of_ble_eq_true rfl) (Nat.le_of_ble_eq_true rfl) dX0_ownerOf_40
      refine lv_aload_n C.1 C.2.1 dX0_ownerOf_7 rfl (lv_at hl 0 rfl) ?_
      refine q_get (v := .ref (a 0)) C hW 0 rfl rfl 0 (by decide) gu_X0 (C.2.2.2.2 _ fl_X0_11) rfl rfl dX0_ownerOf_8 ?_
      refine lv_iload_n C.1 C.2.1 dX0_ownerOf_11 rfl (lv_at hl 2 rfl) ?_
      refine lv_bipush (v := nI 64) C.1 C.2.1 dX0_ownerOf_12 (by decide) ?_
      refine q_imul C dX0_ownerOf_14 ?_
      refine lv_iload_n C.1 C.2.1 dX0_ownerOf_15 rfl (lv_at hl 1 rfl) ?_
      refine q_iadd C dX0_ownerOf_16 ?_
      refine q_caldC (f := cSt S) C hW 1 rfl (k := i * 64 + k) (by omega) (by decide) dX0_ownerOf_17 ?_
      refine lv_istore_n (lv' := [(3, .int (cI ((cSt S) (i * 64 + k)))), (0, .ref h), (1, .int (nI k)), (2, .int (nI i))]) C.1 C.2.1 dX0_ownerOf_18 rfl hl (by decide) rfl (fun ls hl => ?_)
      refine lv_iload_n C.1 C.2.1 dX0_ownerOf_19 rfl (lv_at hl 0 rfl) ?_
      refine lv_bipush (v := nI 101) C.1 C.2.1 dX0_ownerOf_20 (by decide) ?_
      refine q_ceq (tgt := 31) (y := 101) C (by decide) dX0_ownerOf_22 (by decide) (fun c_22 => ?_) (fun c_22 => ?_)
      · refine lv_iload_n C.1 C.2.1 dX0_ownerOf_31 rfl (lv_at hl 3 rfl) ?_
        exact q_iret C hRt hLk hW rfl S ⟨(Eq.symm (by unfold pOwner; rw [srch_some (i := i) hj (by omega) (ownB_1 c_22)]; rfl)), rfl⟩  rfl (Nat.le_of_ble_eq_true rfl) (Nat.le_of_ble_eq_true rfl) dX0_ownerOf_32
      refine lv_iload_n C.1 C.2.1 dX0_ownerOf_25 rfl (lv_at hl 0 rfl) ?_
      refine lv_bipush (v := nI 109) C.1 C.2.1 dX0_ownerOf_26 (by decide) ?_
      refine q_cne (tgt := 33) (y := 109) C (by decide) dX0_ownerOf_28 (by decide) (fun c_28 => ?_) (fun c_28 => ?_)
      · refine q_iinc (d := 1) (lv' := [(2, .int (nI (i + 1))), (3, .int (cI ((cSt S) (i * 64 + k)))), (0, .ref h), (1, .int (nI k))]) C dX0_ownerOf_33 (by decide) hl (k := 3) rfl (by decide) rfl (fun ls hl => ?_)
        refine lv_goto (tgt := 2) C.1 C.2.1 dX0_ownerOf_36 (by decide) ?_
        exact ih (i + 1) (by omega) (fun j hj9 => (Nat.lt_succ_iff_lt_or_eq.mp hj9).elim (hj j) (fun e9 => by rw [e9]; exact ownB_f c_22 c_28)) _ rfl (by omega) ls _ _ (lv_sub hl [2, 3, 0] rfl) hW
      refine lv_iload_n C.1 C.2.1 dX0_ownerOf_31 rfl (lv_at hl 3 rfl) ?_
      exact q_iret C hRt hLk hW rfl S ⟨(Eq.symm (by unfold pOwner; rw [srch_some (i := i) hj (by omega) (ownB_2 c_28)]; rfl)), rfl⟩  rfl (Nat.le_of_ble_eq_true rfl) (Nat.le_of_ble_eq_true rfl) dX0_ownerOf_32
  exact L_2 (4 - 0 + 1) 0 (by omega) (fun j hj => absurd hj (by omega)) _ rfl (by omega) ls _ _ (lv_sub hl [1, 2, 0] rfl) hW

theorem hd_X0_countHolders : yX0_countHolders.cls = RX0 ∧ yX0_countHolders.cls ≠ "java/lang/invoke/MethodHandle" ∧ yX0_countHolders.cls ≠ "java/lang/invoke/VarHandle" ∧ (parseMethodDescriptor yX0_countHolders.desc).map (fun d => d.parameters.length) = some 1 := by decide +kernel
set_option maxHeartbeats 4000000 in
set_option maxRecDepth 100000 in
theorem c_X0_countHolders (l : Launch) (D : va_G) (g : Nat → ClassId) (h : Nat) (a : Nat → Nat) (S : CS) (k : Nat) (hk : k < 64) (sz : Nat) : qMi l yX0_countHolders (.code yX0_countHolders cX0_countHolders 4 (some .int) :: GW) ({ frames := 0, cells := 0, slots := 0, locals := 0 } : Room) D g [.ref h, .int (nI k)] (wC g h a S) sz (fun (r : Int32) (u : CS) => nI (pHold S k) = r ∧ S = u) (fun (u : CS) => (wC g h a u)) 0 0 := by
  refine q_entry (cc := cX0_countHolders) (nL := 4) (ret := (some .int)) rfl (by decide) (Nat.le_of_ble_eq_true rfl) (fun pp ee ss mm bb mt kc ls C hRt hLk hin hsz hW hl => ?_)
  have hl : lv_has ls 4 [(0, .ref h), (1, .int (nI k))] := hl
  refine lv_iconst (v := nI 0) C.1 C.2.1 dX0_countHolders_0 (by decide) ?_
  refine lv_istore_n (lv' := [(2, .int (nI 0)), (0, .ref h), (1, .int (nI k))]) C.1 C.2.1 dX0_countHolders_1 rfl hl (by decide) rfl (fun ls hl => ?_)
  refine lv_iconst (v := nI 0) C.1 C.2.1 dX0_countHolders_2 (by decide) ?_
  refine lv_istore_n (lv' := [(3, .int (nI 0)), (2, .int (nI 0)), (0, .ref h), (1, .int (nI k))]) C.1 C.2.1 dX0_countHolders_3 rfl hl (by decide) rfl (fun ls hl => ?_)
  have L_4 : ∀ (nf : Nat) (i : Nat) (hi : i ≤ 4) (x2 : Int32) (e2 : x2 = nI (cnt (fun c => hasB S (c * 64 + k)) i)) (x3 : Int32) (e3 : x3 = nI i) (hmu : 4 - i < nf) (ls : Array Slot) (H : Heap) (locs : List Loc), lv_has ls 4 [(0, .ref h), (1, .int (nI k)), (2, .int x2), (3, .int x3)] → qW D g (va_A (wC g h a S) sz) ss.heap ss (wC g h a S) H locs → W pp l ee ({ frames := 0, cells := 0, slots := 0, locals := 0 } : Room) ss mm [.ref h, .int (nI k)].toArray bb mt kc H locs 0 0 (MQ bb (va_Qi (fun (r : Int32) (u : CS) => nI (pHold S k) = r ∧ S = u) (qB D g (wC g h a S) sz (fun (u : CS) => (wC g h a u))) (va_A (wC g h a S) sz)) [.ref h, .int (nI k)].toArray ss 0 0 (va_A (wC g h a S) sz)) (F0 mm 4 ls []) := by
    intro nf
    induction nf with
    | zero =>
      intro i hi x2 e2 x3 e3 hmu ls H locs hl hW
      exact absurd hmu (by omega)
    | succ nf ih =>
      intro i hi x2 e2 x3 e3 hmu ls H locs hl hW
      subst e2
      subst e3
      refine lv_iload_n C.1 C.2.1 dX0_countHolders_4 rfl (lv_at hl 3 rfl) ?_
      refine lv_iconst (v := nI 4) C.1 C.2.1 dX0_countHolders_5 (by decide) ?_
      refine q_ge (tgt := 34) C (by omega) (by omega) dX0_countHolders_6 (by decide) (fun c_6 => ?_) (fun c_6 => ?_)
      · refine lv_iload_n C.1 C.2.1 dX0_countHolders_34 rfl (lv_at hl 2 rfl) ?_
        exact q_iret C hRt hLk hW rfl S ⟨(Eq.symm (by obtain rfl : i = 4 := (by omega); rfl)), rfl⟩  rfl (Nat.le_of_ble_eq_true rfl) (Nat.le_of_ble_eq_true rfl) dX0_countHolders_35
      refine lv_aload_n C.1 C.2.1 dX0_countHolders_9 rfl (lv_at hl 0 rfl) ?_
      refine q_get (v := .ref (a 0)) C hW 0 rfl rfl 0 (by decide) gu_X0 (C.2.2.2.2 _ fl_X0_11) rfl rfl dX0_countHolders_10 ?_
      refine lv_iload_n C.1 C.2.1 dX0_countHolders_13 rfl (lv_at hl 3 rfl) ?_
      refine lv_bipush (v := nI 64) C.1 C.2.1 dX0_countHolders_14 (by decide) ?_
      refine q_imul C dX0_countHolders_16 ?_
      refine lv_iload_n C.1 C.2.1 dX0_countHolders_17 rfl (lv_at hl 1 rfl) ?_
      refine q_iadd C dX0_countHolders_18 ?_
      refine q_caldC (f := cSt S) C hW 1 rfl (k := i * 64 + k) (by omega) (by decide) dX0_countHolders_19 ?_
      refine lv_bipush (v := nI 45) C.1 C.2.1 dX0_countHolders_20 (by decide) ?_
      refine q_ceq (tgt := 28) (y := 45) C (by decide) dX0_countHolders_22 (by decide) (fun c_22 => ?_) (fun c_22 => ?_)
      · refine q_iinc (d := 1) (lv' := [(3, .int (nI (i + 1))), (0, .ref h), (1, .int (nI k)), (2, .int (nI (cnt (fun c => hasB S (c * 64 + k)) i)))]) C dX0_countHolders_28 (by decide) hl (k := 3) rfl (by decide) rfl (fun ls hl => ?_)
        refine lv_goto (tgt := 4) C.1 C.2.1 dX0_countHolders_31 (by decide) ?_
        exact ih (i + 1) (by omega) _ (by rw [cnt, if_neg (by rw [hasB_f c_22]; decide)]; rfl) _ rfl (by omega) ls _ _ (lv_sub hl [1, 2, 3, 0] rfl) hW
      refine q_iinc (d := 1) (lv' := [(2, .int (nI (cnt (fun c => hasB S (c * 64 + k)) i + 1))), (0, .ref h), (1, .int (nI k)), (3, .int (nI i))]) C dX0_countHolders_25 (by decide) hl (k := 2) rfl (by decide) rfl (fun ls hl => ?_)
      refine q_iinc (d := 1) (lv' := [(3, .int (nI (i + 1))), (2, .int (nI (cnt (fun c => hasB S (c * 64 + k)) i + 1))), (0, .ref h), (1, .int (nI k))]) C dX0_countHolders_28 (by decide) hl (k := 3) rfl (by decide) rfl (fun ls hl => ?_)
      refine lv_goto (tgt := 4) C.1 C.2.1 dX0_countHolders_31 (by decide) ?_
      exact ih (i + 1) (by omega) _ (by rw [cnt, if_pos (hasB_t c_22)]) _ rfl (by omega) ls _ _ (lv_sub hl [2, 3, 1, 0] rfl) hW
  exact L_4 (4 - 0 + 1) 0 (by omega) _ rfl _ rfl (by omega) ls _ _ (lv_sub hl [2, 3, 1, 0] rfl) hW

theorem hd_X0_countLines : yX0_countLines.cls = RX0 ∧ yX0_countLines.cls ≠ "java/lang/invoke/MethodHandle" ∧ yX0_countLines.cls ≠ "java/lang/invoke/VarHandle" ∧ (parseMethodDescriptor yX0_countLines.desc).map (fun d => d.parameters.length) = some 2 := by decide +kernel
set_option maxHeartbeats 4000000 in
set_option maxRecDepth 100000 in
theorem c_X0_countLines (l : Launch) (D : va_G) (g : Nat → ClassId) (h : Nat) (a : Nat → Nat) (S : CS) (c : Nat) (sn : Nat) (hc : c < 4) (hs : sn < 4) (sz : Nat) : qMi l yX0_countLines (.code yX0_countLines cX0_countLines 5 (some .int) :: GW) ({ frames := 0, cells := 0, slots := 0, locals := 0 } : Room) D g [.ref h, .int (nI c), .int (nI sn)] (wC g h a S) sz (fun (r : Int32) (u : CS) => nI (pMany S c sn) = r ∧ S = u) (fun (u : CS) => (wC g h a u)) 0 0 := by
  refine q_entry (cc := cX0_countLines) (nL := 5) (ret := (some .int)) rfl (by decide) (Nat.le_of_ble_eq_true rfl) (fun pp ee ss mm bb mt kc ls C hRt hLk hin hsz hW hl => ?_)
  have hl : lv_has ls 5 [(0, .ref h), (1, .int (nI c)), (2, .int (nI sn))] := hl
  refine lv_iconst (v := nI 0) C.1 C.2.1 dX0_countLines_0 (by decide) ?_
  refine lv_istore_n (lv' := [(3, .int (nI 0)), (0, .ref h), (1, .int (nI c)), (2, .int (nI sn))]) C.1 C.2.1 dX0_countLines_1 rfl hl (by decide) rfl (fun ls hl => ?_)
  refine lv_iload_n C.1 C.2.1 dX0_countLines_2 rfl (lv_at hl 3 rfl) ?_
  refine lv_istore (lv' := [(4, .int (nI sn)), (3, .int (nI 0)), (0, .ref h), (1, .int (nI c)), (2, .int (nI sn))]) C.1 C.2.1 dX0_countLines_3 hl (by decide) rfl (fun ls hl => ?_)
  have L_5 : ∀ (nf : Nat) (i : Nat) (hi : i ≤ 16) (x3 : Int32) (e3 : x3 = nI (cnt (fun i => hasB S (c * 64 + (sn + i * 4))) i)) (x4 : Int32) (e4 : x4 = nI (sn + i * 4)) (hmu : 16 - i < nf) (ls : Array Slot) (H : Heap) (locs : List Loc), lv_has ls 5 [(0, .ref h), (1, .int (nI c)), (2, .int (nI sn)), (3, .int x3), (4, .int x4)] → qW D g (va_A (wC g h a S) sz) ss.heap ss (wC g h a S) H locs → W pp l ee ({ frames := 0, cells := 0, slots := 0, locals := 0 } : Room) ss mm [.ref h, .int (nI c), .int (nI sn)].toArray bb mt kc H locs 0 0 (MQ bb (va_Qi (fun (r : Int32) (u : CS) => nI (pMany S c sn) = r ∧ S = u) (qB D g (wC g h a S) sz (fun (u : CS) => (wC g h a u))) (va_A (wC g h a S) sz)) [.ref h, .int (nI c), .int (nI sn)].toArray ss 0 0 (va_A (wC g h a S) sz)) (F0 mm 5 ls []) := by
    intro nf
    induction nf with
    | zero =>
      intro i hi x3 e3 x4 e4 hmu ls H locs hl hW
      exact absurd hmu (by omega)
    | succ nf ih =>
      intro i hi x3 e3 x4 e4 hmu ls H locs hl hW
      subst e3
      subst e4
      refine lv_iload C.1 C.2.1 dX0_countLines_5 (lv_at hl 4 rfl) ?_
      refine lv_bipush (v := nI 64) C.1 C.2.1 dX0_countLines_7 (by decide) ?_
      refine q_ge (tgt := 38) C (by omega) (by omega) dX0_countLines_9 (by decide) (fun c_9 => ?_) (fun c_9 => ?_)
      · refine lv_iload_n C.1 C.2.1 dX0_countLines_38 rfl (lv_at hl 3 rfl) ?_
        exact q_iret C hRt hLk hW rfl S ⟨(Eq.symm (by obtain rfl : i = 16 := (by omega); rfl)), rfl⟩  rfl (Nat.le_of_ble_eq_true rfl) (Nat.le_of_ble_eq_true rfl) dX0_countLines_39
      refine lv_aload_n C.1 C.2.1 dX0_countLines_12 rfl (lv_at hl 0 rfl) ?_
      refine q_get (v := .ref (a 0)) C hW 0 rfl rfl 0 (by decide) gu_X0 (C.2.2.2.2 _ fl_X0_11) rfl rfl dX0_countLines_13 ?_
      refine lv_iload_n C.1 C.2.1 dX0_countLines_16 rfl (lv_at hl 1 rfl) ?_
      refine lv_bipush (v := nI 64) C.1 C.2.1 dX0_countLines_17 (by decide) ?_
      refine q_imul C dX0_countLines_19 ?_
      refine lv_iload C.1 C.2.1 dX0_countLines_20 (lv_at hl 4 rfl) ?_
      refine q_iadd C dX0_countLines_22 ?_
      refine q_caldC (f := cSt S) C hW 1 rfl (k := c * 64 + (sn + i * 4)) (by omega) (by decide) dX0_countLines_23 ?_
      refine lv_bipush (v := nI 45) C.1 C.2.1 dX0_countLines_24 (by decide) ?_
      refine q_ceq (tgt := 32) (y := 45) C (by decide) dX0_countLines_26 (by decide) (fun c_26 => ?_) (fun c_26 => ?_)
      · refine q_iinc (d := 4) (lv' := [(4, .int (nI (sn + i * 4 + 4))), (0, .ref h), (1, .int (nI c)), (2, .int (nI sn)), (3, .int (nI (cnt (fun i => hasB S (c * 64 + (sn + i * 4))) i)))]) C dX0_countLines_32 (by decide) hl (k := 4) rfl (by decide) rfl (fun ls hl => ?_)
        refine lv_goto (tgt := 5) C.1 C.2.1 dX0_countLines_35 (by decide) ?_
        exact ih (i + 1) (by omega) _ (by rw [cnt, if_neg (by rw [hasB_f c_26]; decide)]; rfl) _ (by rw [show sn + (i + 1) * 4 = sn + i * 4 + 4 by omega]) (by omega) ls _ _ (lv_sub hl [1, 2, 3, 4, 0] rfl) hW
      refine q_iinc (d := 1) (lv' := [(3, .int (nI (cnt (fun i => hasB S (c * 64 + (sn + i * 4))) i + 1))), (0, .ref h), (1, .int (nI c)), (2, .int (nI sn)), (4, .int (nI (sn + i * 4)))]) C dX0_countLines_29 (by decide) hl (k := 3) rfl (by decide) rfl (fun ls hl => ?_)
      refine q_iinc (d := 4) (lv' := [(4, .int (nI (sn + i * 4 + 4))), (3, .int (nI (cnt (fun i => hasB S (c * 64 + (sn + i * 4))) i + 1))), (0, .ref h), (1, .int (nI c)), (2, .int (nI sn))]) C dX0_countLines_32 (by decide) hl (k := 4) rfl (by decide) rfl (fun ls hl => ?_)
      refine lv_goto (tgt := 5) C.1 C.2.1 dX0_countLines_35 (by decide) ?_
      exact ih (i + 1) (by omega) _ (by rw [cnt, if_pos (hasB_t c_26)]) _ (by rw [show sn + (i + 1) * 4 = sn + i * 4 + 4 by omega]) (by omega) ls _ _ (lv_sub hl [2, 3, 4, 1, 0] rfl) hW
  exact L_5 (16 - 0 + 1) 0 (by omega) _ rfl _ (by rw [show sn + 0 * 4 = sn by omega]) (by omega) ls _ _ (lv_sub hl [2, 3, 4, 1, 0] rfl) hW

theorem hd_X0_oldestOf : yX0_oldestOf.cls = RX0 ∧ yX0_oldestOf.cls ≠ "java/lang/invoke/MethodHandle" ∧ yX0_oldestOf.cls ≠ "java/lang/invoke/VarHandle" ∧ (parseMethodDescriptor yX0_oldestOf.desc).map (fun d => d.parameters.length) = some 2 := by decide +kernel
set_option maxHeartbeats 4000000 in
set_option maxRecDepth 100000 in
theorem c_X0_oldestOf (l : Launch) (D : va_G) (g : Nat → ClassId) (h : Nat) (a : Nat → Nat) (S : CS) (c : Nat) (sn : Nat) (hc : c < 4) (hs : sn < 4) (sz : Nat) : qMi l yX0_oldestOf (.code yX0_oldestOf cX0_oldestOf 7 (some .int) :: GW) ({ frames := 0, cells := 0, slots := 0, locals := 0 } : Room) D g [.ref h, .int (nI c), .int (nI sn)] (wC g h a S) sz (fun (r : Int32) (u : CS) => oI (pOldest S c sn) = r ∧ S = u) (fun (u : CS) => (wC g h a u)) 0 0 := by
  refine q_entry (cc := cX0_oldestOf) (nL := 7) (ret := (some .int)) rfl (by decide) (Nat.le_of_ble_eq_true rfl) (fun pp ee ss mm bb mt kc ls C hRt hLk hin hsz hW hl => ?_)
  have hl : lv_has ls 7 [(0, .ref h), (1, .int (nI c)), (2, .int (nI sn))] := hl
  refine lv_iconst (v := (-1)) C.1 C.2.1 dX0_oldestOf_0 (by decide) ?_
  refine lv_istore_n (lv' := [(3, .int (-1)), (0, .ref h), (1, .int (nI c)), (2, .int (nI sn))]) C.1 C.2.1 dX0_oldestOf_1 rfl hl (by decide) rfl (fun ls hl => ?_)
  refine lv_iconst (v := nI 0) C.1 C.2.1 dX0_oldestOf_2 (by decide) ?_
  refine lv_istore (lv' := [(4, .int (nI 0)), (3, .int (-1)), (0, .ref h), (1, .int (nI c)), (2, .int (nI sn))]) C.1 C.2.1 dX0_oldestOf_3 hl (by decide) rfl (fun ls hl => ?_)
  refine lv_iload_n C.1 C.2.1 dX0_oldestOf_5 rfl (lv_at hl 4 rfl) ?_
  refine lv_istore (lv' := [(5, .int (nI sn)), (4, .int (nI 0)), (3, .int (-1)), (0, .ref h), (1, .int (nI c)), (2, .int (nI sn))]) C.1 C.2.1 dX0_oldestOf_6 hl (by decide) rfl (fun ls hl => ?_)
  have L_8 : ∀ (nf : Nat) (i : Nat) (hi : i ≤ 16) (x3 : Int32) (e3 : x3 = oI ((pOldI S c sn i).map (fun i => sn + i * 4))) (x4 : Int32) (e4 : x4 = oUse S c sn (pOldI S c sn i)) (x5 : Int32) (e5 : x5 = nI (sn + i * 4)) (hmu : 16 - i < nf) (ls : Array Slot) (H : Heap) (locs : List Loc), lv_has ls 7 [(0, .ref h), (1, .int (nI c)), (2, .int (nI sn)), (3, .int x3), (4, .int x4), (5, .int x5)] → qW D g (va_A (wC g h a S) sz) ss.heap ss (wC g h a S) H locs → W pp l ee ({ frames := 0, cells := 0, slots := 0, locals := 0 } : Room) ss mm [.ref h, .int (nI c), .int (nI sn)].toArray bb mt kc H locs 0 0 (MQ bb (va_Qi (fun (r : Int32) (u : CS) => oI (pOldest S c sn) = r ∧ S = u) (qB D g (wC g h a S) sz (fun (u : CS) => (wC g h a u))) (va_A (wC g h a S) sz)) [.ref h, .int (nI c), .int (nI sn)].toArray ss 0 0 (va_A (wC g h a S) sz)) (F0 mm 8 ls []) := by
    intro nf
    induction nf with
    | zero =>
      intro i hi x3 e3 x4 e4 x5 e5 hmu ls H locs hl hW
      exact absurd hmu (by omega)
    | succ nf ih =>
      intro i hi x3 e3 x4 e4 x5 e5 hmu ls H locs hl hW
      subst e3
      subst e4
      subst e5
      refine lv_iload C.1 C.2.1 dX0_oldestOf_8 (lv_at hl 5 rfl) ?_
      refine lv_bipush (v := nI 64) C.1 C.2.1 dX0_oldestOf_10 (by decide) ?_
      refine q_ge (tgt := 71) C (by omega) (by omega) dX0_oldestOf_12 (by decide) (fun c_12 => ?_) (fun c_12 => ?_)
      · refine lv_iload_n C.1 C.2.1 dX0_oldestOf_71 rfl (lv_at hl 3 rfl) ?_
        exact q_iret C hRt hLk hW rfl S ⟨(Eq.symm (by obtain rfl : i = 16 := (by omega); rfl)), rfl⟩  rfl (Nat.le_of_ble_eq_true rfl) (Nat.le_of_ble_eq_true rfl) dX0_oldestOf_72
      refine lv_iload_n C.1 C.2.1 dX0_oldestOf_15 rfl (lv_at hl 1 rfl) ?_
      refine lv_bipush (v := nI 64) C.1 C.2.1 dX0_oldestOf_16 (by decide) ?_
      refine q_imul C dX0_oldestOf_18 ?_
      refine lv_iload C.1 C.2.1 dX0_oldestOf_19 (lv_at hl 5 rfl) ?_
      refine q_iadd C dX0_oldestOf_21 ?_
      refine lv_istore (lv' := [(6, .int (nI (c * 64 + (sn + i * 4)))), (0, .ref h), (1, .int (nI c)), (2, .int (nI sn)), (3, .int (oI ((pOldI S c sn i).map (fun i => sn + i * 4)))), (4, .int (oUse S c sn (pOldI S c sn i))), (5, .int (nI (sn + i * 4)))]) C.1 C.2.1 dX0_oldestOf_22 hl (by decide) rfl (fun ls hl => ?_)
      refine lv_aload_n C.1 C.2.1 dX0_oldestOf_24 rfl (lv_at hl 1 rfl) ?_
      refine q_get (v := .ref (a 0)) C hW 0 rfl rfl 0 (by decide) gu_X0 (C.2.2.2.2 _ fl_X0_11) rfl rfl dX0_oldestOf_25 ?_
      refine lv_iload C.1 C.2.1 dX0_oldestOf_28 (lv_at hl 0 rfl) ?_
      refine q_caldC (f := cSt S) C hW 1 rfl (k := c * 64 + (sn + i * 4)) (by omega) (by decide) dX0_oldestOf_30 ?_
      refine lv_bipush (v := nI 45) C.1 C.2.1 dX0_oldestOf_31 (by decide) ?_
      refine q_ceq (tgt := 65) (y := 45) C (by decide) dX0_oldestOf_33 (by decide) (fun c_33 => ?_) (fun c_33 => ?_)
      · refine q_iinc (d := 4) (lv' := [(5, .int (nI (sn + i * 4 + 4))), (6, .int (nI (c * 64 + (sn + i * 4)))), (0, .ref h), (1, .int (nI c)), (2, .int (nI sn)), (3, .int (oI ((pOldI S c sn i).map (fun i => sn + i * 4)))), (4, .int (oUse S c sn (pOldI S c sn i)))]) C dX0_oldestOf_65 (by decide) hl (k := 6) rfl (by decide) rfl (fun ls hl => ?_)
        refine lv_goto (tgt := 8) C.1 C.2.1 dX0_oldestOf_68 (by decide) ?_
        exact ih (i + 1) (by omega) _ (by rw [oldS_h (hasB_f c_33)]; try rfl) _ (by rw [oldS_h (hasB_f c_33)]; try rfl) _ (by rw [show sn + (i + 1) * 4 = sn + i * 4 + 4 by omega]) (by omega) ls _ _ (lv_sub hl [2, 3, 4, 5, 6, 0] rfl) hW
      rcases ho : pOldI S c sn i with _ | j
      · rw [ho] at hl
        have hl : lv_has ls 7 [(6, .int (nI (c * 64 + (sn + i * 4)))), (0, .ref h), (1, .int (nI c)), (2, .int (nI sn)), (3, .int (-1)), (4, .int (nI 0)), (5, .int (nI (sn + i * 4)))] := hl
        refine lv_iload_n C.1 C.2.1 dX0_oldestOf_36 rfl (lv_at hl 4 rfl) ?_
        refine lv_iconst (v := (-1)) C.1 C.2.1 dX0_oldestOf_37 (by decide) ?_
        refine lv_icmp_eq (tgt := 53) C.1 C.2.1 dX0_oldestOf_38 (by decide) (fun c_38 => ?_) (fun c_38 => absurd rfl c_38)
        refine lv_iload C.1 C.2.1 dX0_oldestOf_53 (lv_at hl 6 rfl) ?_
        refine lv_istore_n (lv' := [(3, .int (nI (sn + i * 4))), (6, .int (nI (c * 64 + (sn + i * 4)))), (0, .ref h), (1, .int (nI c)), (2, .int (nI sn)), (4, .int (nI 0)), (5, .int (nI (sn + i * 4)))]) C.1 C.2.1 dX0_oldestOf_55 rfl hl (by decide) rfl (fun ls hl => ?_)
        refine lv_aload_n C.1 C.2.1 dX0_oldestOf_56 rfl (lv_at hl 2 rfl) ?_
        refine q_get (v := .ref (a 1)) C hW 0 rfl rfl 1 (by decide) gu_X0 (C.2.2.2.2 _ fl_X0_15) rfl rfl dX0_oldestOf_57 ?_
        refine lv_iload C.1 C.2.1 dX0_oldestOf_60 (lv_at hl 1 rfl) ?_
        refine q_iald (f := cUs S) C hW 2 rfl (k := c * 64 + (sn + i * 4)) (by omega) (by decide) dX0_oldestOf_62 ?_
        refine lv_istore (lv' := [(4, .int ((cUs S) (c * 64 + (sn + i * 4)))), (3, .int (nI (sn + i * 4))), (6, .int (nI (c * 64 + (sn + i * 4)))), (0, .ref h), (1, .int (nI c)), (2, .int (nI sn)), (5, .int (nI (sn + i * 4)))]) C.1 C.2.1 dX0_oldestOf_63 hl (by decide) rfl (fun ls hl => ?_)
        refine q_iinc (d := 4) (lv' := [(5, .int (nI (sn + i * 4 + 4))), (4, .int ((cUs S) (c * 64 + (sn + i * 4)))), (3, .int (nI (sn + i * 4))), (6, .int (nI (c * 64 + (sn + i * 4)))), (0, .ref h), (1, .int (nI c)), (2, .int (nI sn))]) C dX0_oldestOf_65 (by decide) hl (k := 6) rfl (by decide) rfl (fun ls hl => ?_)
        refine lv_goto (tgt := 8) C.1 C.2.1 dX0_oldestOf_68 (by decide) ?_
        exact ih (i + 1) (by omega) _ (by rw [oldS_n ho (hasB_t c_33)]; try rfl) _ (by rw [oldS_n ho (hasB_t c_33)]; try rfl) _ (by rw [show sn + (i + 1) * 4 = sn + i * 4 + 4 by omega]) (by omega) ls _ _ (lv_sub hl [4, 5, 6, 2, 1, 0] rfl) hW
      have hj := (oldI_spec ho).1
      rw [ho] at hl
      have hl : lv_has ls 7 [(6, .int (nI (c * 64 + (sn + i * 4)))), (0, .ref h), (1, .int (nI c)), (2, .int (nI sn)), (3, .int (nI (sn + j * 4))), (4, .int (cUs S (c * 64 + (sn + j * 4)))), (5, .int (nI (sn + i * 4)))] := hl
      refine lv_iload_n C.1 C.2.1 dX0_oldestOf_36 rfl (lv_at hl 4 rfl) ?_
      refine lv_iconst (v := (-1)) C.1 C.2.1 dX0_oldestOf_37 (by decide) ?_
      refine lv_icmp_eq (tgt := 53) C.1 C.2.1 dX0_oldestOf_38 (by decide) (fun c_38 => absurd c_38 (nI_m1 (by omega))) (fun c_38 => ?_)
      refine lv_aload_n C.1 C.2.1 dX0_oldestOf_41 rfl (lv_at hl 1 rfl) ?_
      refine q_get (v := .ref (a 1)) C hW 0 rfl rfl 1 (by decide) gu_X0 (C.2.2.2.2 _ fl_X0_15) rfl rfl dX0_oldestOf_42 ?_
      refine lv_iload C.1 C.2.1 dX0_oldestOf_45 (lv_at hl 0 rfl) ?_
      refine q_iald (f := cUs S) C hW 2 rfl (k := c * 64 + (sn + i * 4)) (by omega) (by decide) dX0_oldestOf_47 ?_
      refine lv_iload C.1 C.2.1 dX0_oldestOf_48 (lv_at hl 5 rfl) ?_
      refine lv_icmp_ge (tgt := 65) C.1 C.2.1 dX0_oldestOf_50 (by decide) (fun c_50 => ?_) (fun c_50 => ?_)
      · refine q_iinc (d := 4) (lv' := [(5, .int (nI (sn + i * 4 + 4))), (6, .int (nI (c * 64 + (sn + i * 4)))), (0, .ref h), (1, .int (nI c)), (2, .int (nI sn)), (3, .int (nI (sn + j * 4))), (4, .int (cUs S (c * 64 + (sn + j * 4))))]) C dX0_oldestOf_65 (by decide) hl (k := 6) rfl (by decide) rfl (fun ls hl => ?_)
        refine lv_goto (tgt := 8) C.1 C.2.1 dX0_oldestOf_68 (by decide) ?_
        exact ih (i + 1) (by omega) _ (by rw [oldS_k ho (Int32.not_lt.mpr c_50)]; try rfl) _ (by rw [oldS_k ho (Int32.not_lt.mpr c_50)]; try rfl) _ (by rw [show sn + (i + 1) * 4 = sn + i * 4 + 4 by omega]) (by omega) ls _ _ (lv_sub hl [2, 3, 4, 5, 6, 0] rfl) hW
      refine lv_iload C.1 C.2.1 dX0_oldestOf_53 (lv_at hl 6 rfl) ?_
      refine lv_istore_n (lv' := [(3, .int (nI (sn + i * 4))), (6, .int (nI (c * 64 + (sn + i * 4)))), (0, .ref h), (1, .int (nI c)), (2, .int (nI sn)), (4, .int (cUs S (c * 64 + (sn + j * 4)))), (5, .int (nI (sn + i * 4)))]) C.1 C.2.1 dX0_oldestOf_55 rfl hl (by decide) rfl (fun ls hl => ?_)
      refine lv_aload_n C.1 C.2.1 dX0_oldestOf_56 rfl (lv_at hl 2 rfl) ?_
      refine q_get (v := .ref (a 1)) C hW 0 rfl rfl 1 (by decide) gu_X0 (C.2.2.2.2 _ fl_X0_15) rfl rfl dX0_oldestOf_57 ?_
      refine lv_iload C.1 C.2.1 dX0_oldestOf_60 (lv_at hl 1 rfl) ?_
      refine q_iald (f := cUs S) C hW 2 rfl (k := c * 64 + (sn + i * 4)) (by omega) (by decide) dX0_oldestOf_62 ?_
      refine lv_istore (lv' := [(4, .int ((cUs S) (c * 64 + (sn + i * 4)))), (3, .int (nI (sn + i * 4))), (6, .int (nI (c * 64 + (sn + i * 4)))), (0, .ref h), (1, .int (nI c)), (2, .int (nI sn)), (5, .int (nI (sn + i * 4)))]) C.1 C.2.1 dX0_oldestOf_63 hl (by decide) rfl (fun ls hl => ?_)
      refine q_iinc (d := 4) (lv' := [(5, .int (nI (sn + i * 4 + 4))), (4, .int ((cUs S) (c * 64 + (sn + i * 4)))), (3, .int (nI (sn + i * 4))), (6, .int (nI (c * 64 + (sn + i * 4)))), (0, .ref h), (1, .int (nI c)), (2, .int (nI sn))]) C dX0_oldestOf_65 (by decide) hl (k := 6) rfl (by decide) rfl (fun ls hl => ?_)
      refine lv_goto (tgt := 8) C.1 C.2.1 dX0_oldestOf_68 (by decide) ?_
      exact ih (i + 1) (by omega) _ (by rw [oldS_s ho (hasB_t c_33) (Int32.not_le.mp c_50)]; try rfl) _ (by rw [oldS_s ho (hasB_t c_33) (Int32.not_le.mp c_50)]; try rfl) _ (by rw [show sn + (i + 1) * 4 = sn + i * 4 + 4 by omega]) (by omega) ls _ _ (lv_sub hl [4, 5, 6, 2, 1, 0] rfl) hW
  exact L_8 (16 - 0 + 1) 0 (by omega) _ rfl _ rfl _ (by rw [show sn + 0 * 4 = sn by omega]) (by omega) ls _ _ (lv_sub hl [3, 4, 5, 2, 1, 0] rfl) hW

theorem hd_X0_hasLoneOwners : yX0_hasLoneOwners.cls = RX0 ∧ yX0_hasLoneOwners.cls ≠ "java/lang/invoke/MethodHandle" ∧ yX0_hasLoneOwners.cls ≠ "java/lang/invoke/VarHandle" ∧ (parseMethodDescriptor yX0_hasLoneOwners.desc).map (fun d => d.parameters.length) = some 0 := by decide +kernel
set_option maxHeartbeats 4000000 in
set_option maxRecDepth 100000 in
theorem c_X0_hasLoneOwners (l : Launch) (D : va_G) (g : Nat → ClassId) (h : Nat) (a : Nat → Nat) (S : CS) (sz : Nat) : qMi l yX0_hasLoneOwners (.code yX0_hasLoneOwners cX0_hasLoneOwners 2 (some .boolean) :: GW) ({ frames := 1, cells := 0, slots := 0, locals := 23 } : Room) D g [.ref h] (wC g h a S) sz (fun (r : Int32) (u : CS) => bI (pLone S) = r ∧ S = u) (fun (u : CS) => (wC g h a u)) 0 0 := by
  refine q_entry (cc := cX0_hasLoneOwners) (nL := 2) (ret := (some .boolean)) rfl (by decide) (Nat.le_of_ble_eq_true rfl) (fun pp ee ss mm bb mt kc ls C hRt hLk hin hsz hW hl => ?_)
  have hl : lv_has ls 2 [(0, .ref h)] := hl
  refine lv_iconst (v := nI 0) C.1 C.2.1 dX0_hasLoneOwners_0 (by decide) ?_
  refine lv_istore_n (lv' := [(1, .int (nI 0)), (0, .ref h)]) C.1 C.2.1 dX0_hasLoneOwners_1 rfl hl (by decide) rfl (fun ls hl => ?_)
  have L_2 : ∀ (nf : Nat) (i : Nat) (hi : i ≤ 64) (hj : ∀ j, j < i → (fun k => !((pOwner S k).isSome && decide (1 < pHold S k))) j = true) (x1 : Int32) (e1 : x1 = nI i) (hmu : 64 - i < nf) (ls : Array Slot) (H : Heap) (locs : List Loc), lv_has ls 2 [(0, .ref h), (1, .int x1)] → qW D g (va_A (wC g h a S) sz) ss.heap ss (wC g h a S) H locs → W pp l ee ({ frames := 1, cells := 0, slots := 0, locals := 23 } : Room) ss mm [.ref h].toArray bb mt kc H locs 0 0 (MQ bb (va_Qi (fun (r : Int32) (u : CS) => bI (pLone S) = r ∧ S = u) (qB D g (wC g h a S) sz (fun (u : CS) => (wC g h a u))) (va_A (wC g h a S) sz)) [.ref h].toArray ss 0 0 (va_A (wC g h a S) sz)) (F0 mm 2 ls []) := by
    intro nf
    induction nf with
    | zero =>
      intro i hi hj x1 e1 hmu ls H locs hl hW
      exact absurd hmu (by omega)
    | succ nf ih =>
      intro i hi hj x1 e1 hmu ls H locs hl hW
      subst e1
      refine lv_iload_n C.1 C.2.1 dX0_hasLoneOwners_2 rfl (lv_at hl 1 rfl) ?_
      refine lv_bipush (v := nI 64) C.1 C.2.1 dX0_hasLoneOwners_3 (by decide) ?_
      refine q_ge (tgt := 34) C (by omega) (by omega) dX0_hasLoneOwners_5 (by decide) (fun c_5 => ?_) (fun c_5 => ?_)
      · refine lv_iconst (v := nI 1) C.1 C.2.1 dX0_hasLoneOwners_34 (by decide) ?_
        exact q_iret C hRt hLk hW (by decide) S ⟨(Eq.symm (by unfold pLone; rw [allB_t (fun j hj9 => hj j (by omega))]; rfl)), rfl⟩  rfl (Nat.le_of_ble_eq_true rfl) (Nat.le_of_ble_eq_true rfl) dX0_hasLoneOwners_35
      refine lv_aload_n C.1 C.2.1 dX0_hasLoneOwners_8 rfl (lv_at hl 0 rfl) ?_
      refine lv_iload_n C.1 C.2.1 dX0_hasLoneOwners_9 rfl (lv_at hl 1 rfl) ?_
      refine q_callVi (rest := []) C (c_X0_ownerOf l D g h a S i (by omega) _) (gw_V ml_X0_55 im_X0_ownerOf se_X0_X0_ownerOf ini_X0 cd_X0_ownerOf rfl) rfl rfl rfl hd_X0_ownerOf ⟨Nat.le_of_ble_eq_true rfl, Nat.le_of_ble_eq_true rfl⟩ hW pm_all (fun u_1 => (wC g h a u_1)) (fun _ => pm_all) rfl rfl hl.1 rfl (Nat.le_of_ble_eq_true rfl) ⟨Nat.le_of_ble_eq_true rfl, Nat.le_of_ble_eq_true rfl⟩ dX0_hasLoneOwners_10 (fun r_1 u_1 H locs e_1 hW => ?_)
      obtain ⟨rfl, rfl⟩ := e_1
      refine q_osplit (fun ho => ?_) (fun j ho => ?_)
      · refine lv_iconst (v := (-1)) C.1 C.2.1 dX0_hasLoneOwners_13 (by decide) ?_
        refine lv_icmp_eq (tgt := 28) C.1 C.2.1 dX0_hasLoneOwners_14 (by decide) (fun c_14 => ?_) (fun c_14 => absurd rfl c_14)
        refine q_iinc (d := 1) (lv' := [(1, .int (nI (i + 1))), (0, .ref h)]) C dX0_hasLoneOwners_28 (by decide) hl (k := 1) rfl (by decide) rfl (fun ls hl => ?_)
        refine lv_goto (tgt := 2) C.1 C.2.1 dX0_hasLoneOwners_31 (by decide) ?_
        exact ih (i + 1) (by omega) (fun j hj9 => (Nat.lt_succ_iff_lt_or_eq.mp hj9).elim (hj j) (fun e9 => by rw [e9]; simp [ho])) _ rfl (by omega) ls _ _ (lv_sub hl [1, 0] rfl) hW
      have hj4 := (srch_spec ho).1
      refine lv_iconst (v := (-1)) C.1 C.2.1 dX0_hasLoneOwners_13 (by decide) ?_
      refine lv_icmp_eq (tgt := 28) C.1 C.2.1 dX0_hasLoneOwners_14 (by decide) (fun c_14 => absurd c_14 (nI_m1 (by omega))) (fun c_14 => ?_)
      refine lv_aload_n C.1 C.2.1 dX0_hasLoneOwners_17 rfl (lv_at hl 0 rfl) ?_
      refine lv_iload_n C.1 C.2.1 dX0_hasLoneOwners_18 rfl (lv_at hl 1 rfl) ?_
      refine q_callVi (rest := []) C (c_X0_countHolders l D g h a S i (by omega) _) (gw_V ml_X0_59 im_X0_countHolders se_X0_X0_countHolders ini_X0 cd_X0_countHolders rfl) rfl rfl rfl hd_X0_countHolders ⟨Nat.le_of_ble_eq_true rfl, Nat.le_of_ble_eq_true rfl⟩ hW pm_all (fun u_2 => (wC g h a u_2)) (fun _ => pm_all) rfl rfl hl.1 rfl (Nat.le_of_ble_eq_true rfl) ⟨Nat.le_of_ble_eq_true rfl, Nat.le_of_ble_eq_true rfl⟩ dX0_hasLoneOwners_19 (fun r_2 u_2 H locs e_2 hW => ?_)
      obtain ⟨rfl, rfl⟩ := e_2
      have hh9 := pHold_le S i
      refine lv_iconst (v := nI 1) C.1 C.2.1 dX0_hasLoneOwners_22 (by decide) ?_
      refine q_le (tgt := 28) C (by omega) (by omega) dX0_hasLoneOwners_23 (by decide) (fun c_23 => ?_) (fun c_23 => ?_)
      · refine q_iinc (d := 1) (lv' := [(1, .int (nI (i + 1))), (0, .ref h)]) C dX0_hasLoneOwners_28 (by decide) hl (k := 1) rfl (by decide) rfl (fun ls hl => ?_)
        refine lv_goto (tgt := 2) C.1 C.2.1 dX0_hasLoneOwners_31 (by decide) ?_
        exact ih (i + 1) (by omega) (fun j hj9 => (Nat.lt_succ_iff_lt_or_eq.mp hj9).elim (hj j) (fun e9 => by rw [e9]; simp [ho, c_23])) _ rfl (by omega) ls _ _ (lv_sub hl [1, 0] rfl) hW
      refine lv_iconst (v := nI 0) C.1 C.2.1 dX0_hasLoneOwners_26 (by decide) ?_
      exact q_iret C hRt hLk hW (by decide) S ⟨(Eq.symm (by unfold pLone; rw [allB_f (i := i) (by omega) (by simp [ho, c_23])]; rfl)), rfl⟩  rfl (Nat.le_of_ble_eq_true rfl) (Nat.le_of_ble_eq_true rfl) dX0_hasLoneOwners_27
  exact L_2 (64 - 0 + 1) 0 (by omega) (fun j hj9 => absurd hj9 (by omega)) _ rfl (by omega) ls _ _ (lv_sub hl [1, 0] rfl) hW
