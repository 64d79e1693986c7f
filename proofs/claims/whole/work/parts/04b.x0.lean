theorem hd_X0_hasStatesOf : yX0_hasStatesOf.cls = RX0 ∧ yX0_hasStatesOf.cls ≠ "java/lang/invoke/MethodHandle" ∧ yX0_hasStatesOf.cls ≠ "java/lang/invoke/VarHandle" ∧ (parseMethodDescriptor yX0_hasStatesOf.desc).map (fun d => d.parameters.length) = some 1 := by decide +kernel
set_option maxHeartbeats 4000000 in
set_option maxRecDepth 100000 in
theorem c_X0_hasStatesOf (l : Launch) (D : va_G) (g : Nat → ClassId) (h : Nat) (a : Nat → Nat) (S : CS) (h2 : Nat) (a2 : Nat → Nat) (U : CS) (sz : Nat) : qMi l yX0_hasStatesOf (.code yX0_hasStatesOf cX0_hasStatesOf 3 (some .boolean) :: GW) ({ frames := 0, cells := 0, slots := 0, locals := 0 } : Room) D g [.ref h, .ref h2] ((wC g h a S) ++ (wC g h2 a2 U)) sz (fun (r : Int32) (u : CS) => bI (pSame S U) = r ∧ S = u) (fun (u : CS) => (wC g h a u ++ wC g h2 a2 U)) 0 0 := by
  refine q_entry (cc := cX0_hasStatesOf) (nL := 3) (ret := (some .boolean)) rfl (by decide) (Nat.le_of_ble_eq_true rfl) (fun pp ee ss mm bb mt kc ls C hRt hLk hin hsz hW hl => ?_)
  have hl : lv_has ls 3 [(0, .ref h), (1, .ref h2)] := hl
  refine lv_iconst (v := nI 0) C.1 C.2.1 dX0_hasStatesOf_0 (by decide) ?_
  refine lv_istore_n (lv' := [(2, .int (nI 0)), (0, .ref h), (1, .ref h2)]) C.1 C.2.1 dX0_hasStatesOf_1 rfl hl (by decide) rfl (fun ls hl => ?_)
  have L_2 : ∀ (nf : Nat) (i : Nat) (hi : i ≤ 256) (hj : ∀ j, j < i → (fun i => decide (cSt S i = cSt U i)) j = true) (x2 : Int32) (e2 : x2 = nI i) (hmu : 256 - i < nf) (ls : Array Slot) (H : Heap) (locs : List Loc), lv_has ls 3 [(0, .ref h), (1, .ref h2), (2, .int x2)] → qW D g (va_A ((wC g h a S) ++ (wC g h2 a2 U)) sz) ss.heap ss ((wC g h a S) ++ (wC g h2 a2 U)) H locs → W pp l ee ({ frames := 0, cells := 0, slots := 0, locals := 0 } : Room) ss mm [.ref h, .ref h2].toArray bb mt kc H locs 0 0 (MQ bb (va_Qi (fun (r : Int32) (u : CS) => bI (pSame S U) = r ∧ S = u) (qB D g ((wC g h a S) ++ (wC g h2 a2 U)) sz (fun (u : CS) => (wC g h a u ++ wC g h2 a2 U))) (va_A ((wC g h a S) ++ (wC g h2 a2 U)) sz)) [.ref h, .ref h2].toArray ss 0 0 (va_A ((wC g h a S) ++ (wC g h2 a2 U)) sz)) (F0 mm 2 ls []) := by
    intro nf
    induction nf with
    | zero =>
      intro i hi hj x2 e2 hmu ls H locs hl hW
      exact absurd hmu (by omega)
    | succ nf ih =>
      intro i hi hj x2 e2 hmu ls H locs hl hW
      subst e2
      refine lv_iload_n C.1 C.2.1 dX0_hasStatesOf_2 rfl (lv_at hl 2 rfl) ?_
      refine lv_sipush (v := nI 256) C.1 C.2.1 dX0_hasStatesOf_3 (by decide) ?_
      refine q_ge (tgt := 32) C (by omega) (by omega) dX0_hasStatesOf_6 (by decide) (fun c_6 => ?_) (fun c_6 => ?_)
      · refine lv_iconst (v := nI 1) C.1 C.2.1 dX0_hasStatesOf_32 (by decide) ?_
        exact q_iret C hRt hLk hW (by decide) S ⟨(Eq.symm (by unfold pSame; rw [allB_t (fun j hj9 => hj j (by omega))]; rfl)), rfl⟩  rfl (Nat.le_of_ble_eq_true rfl) (Nat.le_of_ble_eq_true rfl) dX0_hasStatesOf_33
      refine lv_aload_n C.1 C.2.1 dX0_hasStatesOf_9 rfl (lv_at hl 0 rfl) ?_
      refine q_get (v := .ref (a 0)) C hW 0 rfl rfl 0 (by decide) gu_X0 (C.2.2.2.2 _ fl_X0_11) rfl rfl dX0_hasStatesOf_10 ?_
      refine lv_iload_n C.1 C.2.1 dX0_hasStatesOf_13 rfl (lv_at hl 2 rfl) ?_
      refine q_caldC (f := cSt S) C hW 1 rfl (k := i) (by omega) (by decide) dX0_hasStatesOf_14 ?_
      refine lv_aload_n C.1 C.2.1 dX0_hasStatesOf_15 rfl (lv_at hl 1 rfl) ?_
      refine q_get (v := .ref (a2 0)) C hW 11 rfl rfl 0 (by decide) gu_X0 (C.2.2.2.2 _ fl_X0_11) rfl rfl dX0_hasStatesOf_16 ?_
      refine lv_iload_n C.1 C.2.1 dX0_hasStatesOf_19 rfl (lv_at hl 2 rfl) ?_
      refine q_caldC (f := cSt U) C hW 12 rfl (k := i) (by omega) (by decide) dX0_hasStatesOf_20 ?_
      refine q_cceq (tgt := 26) C dX0_hasStatesOf_21 (by decide) (fun c_21 => ?_) (fun c_21 => ?_)
      · refine q_iinc (d := 1) (lv' := [(2, .int (nI (i + 1))), (0, .ref h), (1, .ref h2)]) C dX0_hasStatesOf_26 (by decide) hl (k := 2) rfl (by decide) rfl (fun ls hl => ?_)
        refine lv_goto (tgt := 2) C.1 C.2.1 dX0_hasStatesOf_29 (by decide) ?_
        exact ih (i + 1) (by omega) (fun j hj9 => (Nat.lt_succ_iff_lt_or_eq.mp hj9).elim (hj j) (fun e9 => by rw [e9]; exact decide_eq_true c_21)) _ rfl (by omega) ls _ _ (lv_sub hl [1, 2, 0] rfl) hW
      refine lv_iconst (v := nI 0) C.1 C.2.1 dX0_hasStatesOf_24 (by decide) ?_
      exact q_iret C hRt hLk hW (by decide) S ⟨(Eq.symm (by unfold pSame; rw [allB_f (i := i) (by omega) (decide_eq_false c_21)]; rfl)), rfl⟩  rfl (Nat.le_of_ble_eq_true rfl) (Nat.le_of_ble_eq_true rfl) dX0_hasStatesOf_25
  exact L_2 (256 - 0 + 1) 0 (by omega) (fun j hj9 => absurd hj9 (by omega)) _ rfl (by omega) ls _ _ (lv_sub hl [1, 2, 0] rfl) hW

theorem hd_X0_causeOfNext : yX0_causeOfNext.cls = RX0 ∧ yX0_causeOfNext.cls ≠ "java/lang/invoke/MethodHandle" ∧ yX0_causeOfNext.cls ≠ "java/lang/invoke/VarHandle" ∧ (parseMethodDescriptor yX0_causeOfNext.desc).map (fun d => d.parameters.length) = some 4 := by decide +kernel
set_option maxHeartbeats 4000000 in
set_option maxRecDepth 100000 in
theorem c_X0_causeOfNext (l : Launch) (D : va_G) (g : Nat → ClassId) (h : Nat) (a : Nat → Nat) (S : CS) (c : Nat) (v : Int32) (k : Nat) (wb : Bool) (hc : c < 4) (hk : k < 64) (sz : Nat) : qMi l yX0_causeOfNext (.code yX0_causeOfNext cX0_causeOfNext 7 (some .char) :: GW) ({ frames := 0, cells := 0, slots := 0, locals := 0 } : Room) D g [.ref h, .int (nI c), .int v, .int (nI k), .int (bI wb)] (wC g h a S) sz (fun (r : Int32) (u : CS) => cI (pCause S c v k wb) = r ∧ S = u) (fun (u : CS) => (wC g h a u)) 0 0 := by
  refine q_entry (cc := cX0_causeOfNext) (nL := 7) (ret := (some .char)) rfl (by decide) (Nat.le_of_ble_eq_true rfl) (fun pp ee ss mm bb mt kc ls C hRt hLk hin hsz hW hl => ?_)
  have hl : lv_has ls 7 [(0, .ref h), (1, .int (nI c)), (2, .int v), (3, .int (nI k)), (4, .int (bI wb))] := hl
  refine lv_iload_n C.1 C.2.1 dX0_causeOfNext_0 rfl (lv_at hl 1 rfl) ?_
  refine lv_bipush (v := nI 64) C.1 C.2.1 dX0_causeOfNext_1 (by decide) ?_
  refine q_imul C dX0_causeOfNext_3 ?_
  refine lv_iload_n C.1 C.2.1 dX0_causeOfNext_4 rfl (lv_at hl 3 rfl) ?_
  refine q_iadd C dX0_causeOfNext_5 ?_
  refine lv_istore (lv' := [(5, .int (nI (c * 64 + k))), (0, .ref h), (1, .int (nI c)), (2, .int v), (3, .int (nI k)), (4, .int (bI wb))]) C.1 C.2.1 dX0_causeOfNext_6 hl (by decide) rfl (fun ls hl => ?_)
  refine lv_aload_n C.1 C.2.1 dX0_causeOfNext_8 rfl (lv_at hl 1 rfl) ?_
  refine q_get (v := .ref (a 0)) C hW 0 rfl rfl 0 (by decide) gu_X0 (C.2.2.2.2 _ fl_X0_11) rfl rfl dX0_causeOfNext_9 ?_
  refine lv_iload C.1 C.2.1 dX0_causeOfNext_12 (lv_at hl 0 rfl) ?_
  refine q_caldC (f := cSt S) C hW 1 rfl (k := c * 64 + k) (by omega) (by decide) dX0_causeOfNext_14 ?_
  refine lv_bipush (v := nI 45) C.1 C.2.1 dX0_causeOfNext_15 (by decide) ?_
  refine q_ceq (tgt := 45) (y := 45) C (by decide) dX0_causeOfNext_17 (by decide) (fun c_17 => ?_) (fun c_17 => ?_)
  · refine lv_aload_n C.1 C.2.1 dX0_causeOfNext_45 rfl (lv_at hl 1 rfl) ?_
    refine q_get (v := .ref (a 2)) C hW 0 rfl rfl 2 (by decide) gu_X0 (C.2.2.2.2 _ fl_X0_19) rfl rfl dX0_causeOfNext_46 ?_
    refine lv_iload C.1 C.2.1 dX0_causeOfNext_49 (lv_at hl 0 rfl) ?_
    refine q_iald (f := cLv S) C hW 3 rfl (k := c * 64 + k) (by omega) (by decide) dX0_causeOfNext_51 ?_
    refine lv_istore (lv' := [(6, .int ((cLv S) (c * 64 + k))), (5, .int (nI (c * 64 + k))), (0, .ref h), (1, .int (nI c)), (2, .int v), (3, .int (nI k)), (4, .int (bI wb))]) C.1 C.2.1 dX0_causeOfNext_52 hl (by decide) rfl (fun ls hl => ?_)
    refine lv_iload C.1 C.2.1 dX0_causeOfNext_54 (lv_at hl 0 rfl) ?_
    refine lv_bipush (v := (-2)) C.1 C.2.1 dX0_causeOfNext_56 (by decide) ?_
    refine lv_icmp_ne (tgt := 64) C.1 C.2.1 dX0_causeOfNext_58 (by decide) (fun c_58 => ?_) (fun c_58 => ?_)
    · refine lv_iload C.1 C.2.1 dX0_causeOfNext_64 (lv_at hl 0 rfl) ?_
      refine lv_iconst (v := (-1)) C.1 C.2.1 dX0_causeOfNext_66 (by decide) ?_
      refine lv_icmp_ne (tgt := 73) C.1 C.2.1 dX0_causeOfNext_67 (by decide) (fun c_67 => ?_) (fun c_67 => ?_)
      · refine lv_iload C.1 C.2.1 dX0_causeOfNext_73 (lv_at hl 0 rfl) ?_
        refine lv_iload_n C.1 C.2.1 dX0_causeOfNext_75 rfl (lv_at hl 4 rfl) ?_
        refine lv_icmp_ne (tgt := 84) C.1 C.2.1 dX0_causeOfNext_76 (by decide) (fun c_76 => ?_) (fun c_76 => ?_)
        · refine lv_bipush (v := nI 102) C.1 C.2.1 dX0_causeOfNext_84 (by decide) ?_
          exact q_iret C hRt hLk hW (by decide) S ⟨(Eq.symm (by unfold pCause; rw [if_pos c_17, if_neg c_58, if_neg c_67, if_neg c_76]; rfl)), rfl⟩  rfl (Nat.le_of_ble_eq_true rfl) (Nat.le_of_ble_eq_true rfl) dX0_causeOfNext_86
        refine lv_bipush (v := nI 116) C.1 C.2.1 dX0_causeOfNext_79 (by decide) ?_
        refine lv_goto (tgt := 86) C.1 C.2.1 dX0_causeOfNext_81 (by decide) ?_
        exact q_iret C hRt hLk hW (by decide) S ⟨(Eq.symm (by unfold pCause; rw [if_pos c_17, if_neg c_58, if_neg c_67, if_pos c_76]; rfl)), rfl⟩  rfl (Nat.le_of_ble_eq_true rfl) (Nat.le_of_ble_eq_true rfl) dX0_causeOfNext_86
      refine lv_bipush (v := nI 101) C.1 C.2.1 dX0_causeOfNext_70 (by decide) ?_
      exact q_iret C hRt hLk hW (by decide) S ⟨(Eq.symm (by unfold pCause; rw [if_pos c_17, if_neg c_58, if_pos c_67]; rfl)), rfl⟩  rfl (Nat.le_of_ble_eq_true rfl) (Nat.le_of_ble_eq_true rfl) dX0_causeOfNext_72
    refine lv_bipush (v := nI 99) C.1 C.2.1 dX0_causeOfNext_61 (by decide) ?_
    exact q_iret C hRt hLk hW (by decide) S ⟨(Eq.symm (by unfold pCause; rw [if_pos c_17, if_pos c_58]; rfl)), rfl⟩  rfl (Nat.le_of_ble_eq_true rfl) (Nat.le_of_ble_eq_true rfl) dX0_causeOfNext_63
  refine lv_iload C.1 C.2.1 dX0_causeOfNext_20 (lv_at hl 5 rfl) ?_
  refine q_bt (b := wb) (tgt := 42) C dX0_causeOfNext_22 (by decide) (fun c_22 => ?_) (fun c_22 => ?_)
  · refine lv_bipush (v := nI 104) C.1 C.2.1 dX0_causeOfNext_42 (by decide) ?_
    exact q_iret C hRt hLk hW (by decide) S ⟨(Eq.symm (by unfold pCause; rw [if_neg c_17, if_neg (by rw [c_22]; decide)]; rfl)), rfl⟩  rfl (Nat.le_of_ble_eq_true rfl) (Nat.le_of_ble_eq_true rfl) dX0_causeOfNext_44
  refine lv_aload_n C.1 C.2.1 dX0_causeOfNext_25 rfl (lv_at hl 1 rfl) ?_
  refine q_get (v := .ref (a 0)) C hW 0 rfl rfl 0 (by decide) gu_X0 (C.2.2.2.2 _ fl_X0_11) rfl rfl dX0_causeOfNext_26 ?_
  refine lv_iload C.1 C.2.1 dX0_causeOfNext_29 (lv_at hl 0 rfl) ?_
  refine q_caldC (f := cSt S) C hW 1 rfl (k := c * 64 + k) (by omega) (by decide) dX0_causeOfNext_31 ?_
  refine lv_bipush (v := nI 115) C.1 C.2.1 dX0_causeOfNext_32 (by decide) ?_
  refine q_cne (tgt := 42) (y := 115) C (by decide) dX0_causeOfNext_34 (by decide) (fun c_34 => ?_) (fun c_34 => ?_)
  · refine lv_bipush (v := nI 104) C.1 C.2.1 dX0_causeOfNext_42 (by decide) ?_
    exact q_iret C hRt hLk hW (by decide) S ⟨(Eq.symm (by unfold pCause; rw [if_neg c_17, if_pos c_22, if_neg c_34]; rfl)), rfl⟩  rfl (Nat.le_of_ble_eq_true rfl) (Nat.le_of_ble_eq_true rfl) dX0_causeOfNext_44
  refine lv_bipush (v := nI 117) C.1 C.2.1 dX0_causeOfNext_37 (by decide) ?_
  refine lv_goto (tgt := 44) C.1 C.2.1 dX0_causeOfNext_39 (by decide) ?_
  exact q_iret C hRt hLk hW (by decide) S ⟨(Eq.symm (by unfold pCause; rw [if_neg c_17, if_pos c_22, if_pos c_34]; rfl)), rfl⟩  rfl (Nat.le_of_ble_eq_true rfl) (Nat.le_of_ble_eq_true rfl) dX0_causeOfNext_44

theorem hd_X0_costOfNext : yX0_costOfNext.cls = RX0 ∧ yX0_costOfNext.cls ≠ "java/lang/invoke/MethodHandle" ∧ yX0_costOfNext.cls ≠ "java/lang/invoke/VarHandle" ∧ (parseMethodDescriptor yX0_costOfNext.desc).map (fun d => d.parameters.length) = some 3 := by decide +kernel
set_option maxHeartbeats 4000000 in
set_option maxRecDepth 100000 in
theorem c_X0_costOfNext (l : Launch) (D : va_G) (g : Nat → ClassId) (h : Nat) (a : Nat → Nat) (S : CS) (c : Nat) (k : Nat) (hc : c < 4) (hk : k < 64) (wb : Bool) (sz : Nat) : qMi l yX0_costOfNext (.code yX0_costOfNext cX0_costOfNext 5 (some .int) :: GW) ({ frames := 1, cells := 0, slots := 0, locals := 23 } : Room) D g [.ref h, .int (nI c), .int (nI k), .int (bI wb)] (wC g h a S) sz (fun (r : Int32) (u : CS) => nI (pCost S c k wb) = r ∧ S = u) (fun (u : CS) => (wC g h a u)) 0 0 := by
  refine q_entry (cc := cX0_costOfNext) (nL := 5) (ret := (some .int)) rfl (by decide) (Nat.le_of_ble_eq_true rfl) (fun pp ee ss mm bb mt kc ls C hRt hLk hin hsz hW hl => ?_)
  have hl : lv_has ls 5 [(0, .ref h), (1, .int (nI c)), (2, .int (nI k)), (3, .int (bI wb))] := hl
  refine lv_aload_n C.1 C.2.1 dX0_costOfNext_0 rfl (lv_at hl 0 rfl) ?_
  refine q_get (v := .ref (a 0)) C hW 0 rfl rfl 0 (by decide) gu_X0 (C.2.2.2.2 _ fl_X0_11) rfl rfl dX0_costOfNext_1 ?_
  refine lv_iload_n C.1 C.2.1 dX0_costOfNext_4 rfl (lv_at hl 1 rfl) ?_
  refine lv_bipush (v := nI 64) C.1 C.2.1 dX0_costOfNext_5 (by decide) ?_
  refine q_imul C dX0_costOfNext_7 ?_
  refine lv_iload_n C.1 C.2.1 dX0_costOfNext_8 rfl (lv_at hl 2 rfl) ?_
  refine q_iadd C dX0_costOfNext_9 ?_
  refine q_caldC (f := cSt S) C hW 1 rfl (k := c * 64 + k) (by omega) (by decide) dX0_costOfNext_10 ?_
  refine lv_istore (lv' := [(4, .int (cI ((cSt S) (c * 64 + k)))), (0, .ref h), (1, .int (nI c)), (2, .int (nI k)), (3, .int (bI wb))]) C.1 C.2.1 dX0_costOfNext_11 hl (by decide) rfl (fun ls hl => ?_)
  refine lv_iload C.1 C.2.1 dX0_costOfNext_13 (lv_at hl 0 rfl) ?_
  refine lv_bipush (v := nI 45) C.1 C.2.1 dX0_costOfNext_15 (by decide) ?_
  refine q_cne (tgt := 36) (y := 45) C (by decide) dX0_costOfNext_17 (by decide) (fun c_17 => ?_) (fun c_17 => ?_)
  · refine lv_iload_n C.1 C.2.1 dX0_costOfNext_36 rfl (lv_at hl 4 rfl) ?_
    refine q_bt (b := wb) (tgt := 52) C dX0_costOfNext_37 (by decide) (fun c_37 => ?_) (fun c_37 => ?_)
    · refine lv_iconst (v := nI 1) C.1 C.2.1 dX0_costOfNext_52 (by decide) ?_
      exact q_iret C hRt hLk hW rfl S ⟨(Eq.symm (by unfold pCost; rw [if_neg c_17, if_neg (by rw [c_37]; decide)])), rfl⟩  rfl (Nat.le_of_ble_eq_true rfl) (Nat.le_of_ble_eq_true rfl) dX0_costOfNext_53
    refine lv_iload C.1 C.2.1 dX0_costOfNext_40 (lv_at hl 0 rfl) ?_
    refine lv_bipush (v := nI 115) C.1 C.2.1 dX0_costOfNext_42 (by decide) ?_
    refine q_cne (tgt := 52) (y := 115) C (by decide) dX0_costOfNext_44 (by decide) (fun c_44 => ?_) (fun c_44 => ?_)
    · refine lv_iconst (v := nI 1) C.1 C.2.1 dX0_costOfNext_52 (by decide) ?_
      exact q_iret C hRt hLk hW rfl S ⟨(Eq.symm (by unfold pCost; rw [if_neg c_17, if_pos c_37, if_neg c_44])), rfl⟩  rfl (Nat.le_of_ble_eq_true rfl) (Nat.le_of_ble_eq_true rfl) dX0_costOfNext_53
    refine lv_bipush (v := nI 8) C.1 C.2.1 dX0_costOfNext_47 (by decide) ?_
    refine lv_goto (tgt := 53) C.1 C.2.1 dX0_costOfNext_49 (by decide) ?_
    exact q_iret C hRt hLk hW rfl S ⟨(Eq.symm (by unfold pCost; rw [if_neg c_17, if_pos c_37, if_pos c_44])), rfl⟩  rfl (Nat.le_of_ble_eq_true rfl) (Nat.le_of_ble_eq_true rfl) dX0_costOfNext_53
  refine lv_aload_n C.1 C.2.1 dX0_costOfNext_20 rfl (lv_at hl 1 rfl) ?_
  refine lv_iload_n C.1 C.2.1 dX0_costOfNext_21 rfl (lv_at hl 3 rfl) ?_
  refine q_callVi (rest := []) C (c_X0_countHolders l D g h a S k (by omega) _) (gw_V ml_X0_59 im_X0_countHolders se_X0_X0_countHolders ini_X0 cd_X0_countHolders rfl) rfl rfl rfl hd_X0_countHolders ⟨Nat.le_of_ble_eq_true rfl, Nat.le_of_ble_eq_true rfl⟩ hW pm_all (fun u_1 => (wC g h a u_1)) (fun _ => pm_all) rfl rfl hl.1 rfl (Nat.le_of_ble_eq_true rfl) ⟨Nat.le_of_ble_eq_true rfl, Nat.le_of_ble_eq_true rfl⟩ dX0_costOfNext_22 (fun r_1 u_1 H locs e_1 hW => ?_)
  obtain ⟨rfl, rfl⟩ := e_1
  have hh9 := pHold_le S k
  refine q_zle (tgt := 33) C (by omega) dX0_costOfNext_25 (by decide) (fun c_25 => ?_) (fun c_25 => ?_)
  · refine lv_bipush (v := nI 40) C.1 C.2.1 dX0_costOfNext_33 (by decide) ?_
    exact q_iret C hRt hLk hW rfl S ⟨(Eq.symm (by unfold pCost; rw [if_pos c_17, if_neg (by omega)])), rfl⟩  rfl (Nat.le_of_ble_eq_true rfl) (Nat.le_of_ble_eq_true rfl) dX0_costOfNext_35
  refine lv_bipush (v := nI 12) C.1 C.2.1 dX0_costOfNext_28 (by decide) ?_
  refine lv_goto (tgt := 35) C.1 C.2.1 dX0_costOfNext_30 (by decide) ?_
  exact q_iret C hRt hLk hW rfl S ⟨(Eq.symm (by unfold pCost; rw [if_pos c_17, if_pos (by omega)])), rfl⟩  rfl (Nat.le_of_ble_eq_true rfl) (Nat.le_of_ble_eq_true rfl) dX0_costOfNext_35

theorem hd_X0_makeRoom : yX0_makeRoom.cls = RX0 ∧ yX0_makeRoom.cls ≠ "java/lang/invoke/MethodHandle" ∧ yX0_makeRoom.cls ≠ "java/lang/invoke/VarHandle" ∧ (parseMethodDescriptor yX0_makeRoom.desc).map (fun d => d.parameters.length) = some 2 := by decide +kernel
set_option maxHeartbeats 4000000 in
set_option maxRecDepth 100000 in
theorem c_X0_makeRoom (l : Launch) (D : va_G) (g : Nat → ClassId) (h : Nat) (a : Nat → Nat) (S : CS) (c : Nat) (k : Nat) (hc : c < 4) (hk : k < 64) (sz : Nat) : qMi l yX0_makeRoom (.code yX0_makeRoom cX0_makeRoom 6 (some .boolean) :: GW) ({ frames := 1, cells := 0, slots := 0, locals := 26 } : Room) D g [.ref h, .int (nI c), .int (nI k)] (wC g h a S) sz (fun (r : Int32) (u : CS) => bI ((pMakeRoom S c k).1) = r ∧ ((pMakeRoom S c k).2) = u) (fun (u : CS) => (wC g h a u)) 0 0 := by
  refine q_entry (cc := cX0_makeRoom) (nL := 6) (ret := (some .boolean)) rfl (by decide) (Nat.le_of_ble_eq_true rfl) (fun pp ee ss mm bb mt kc ls C hRt hLk hin hsz hW hl => ?_)
  have hl : lv_has ls 6 [(0, .ref h), (1, .int (nI c)), (2, .int (nI k))] := hl
  refine lv_iload_n C.1 C.2.1 dX0_makeRoom_0 rfl (lv_at hl 2 rfl) ?_
  refine lv_iconst (v := nI 4) C.1 C.2.1 dX0_makeRoom_1 (by decide) ?_
  refine q_irem C (by omega) (by omega) (by omega) dX0_makeRoom_2 ?_
  refine lv_istore_n (lv' := [(3, .int (nI (k % 4))), (0, .ref h), (1, .int (nI c)), (2, .int (nI k))]) C.1 C.2.1 dX0_makeRoom_3 rfl hl (by decide) rfl (fun ls hl => ?_)
  refine lv_aload_n C.1 C.2.1 dX0_makeRoom_4 rfl (lv_at hl 1 rfl) ?_
  refine lv_iload_n C.1 C.2.1 dX0_makeRoom_5 rfl (lv_at hl 2 rfl) ?_
  refine lv_iload_n C.1 C.2.1 dX0_makeRoom_6 rfl (lv_at hl 0 rfl) ?_
  refine q_callVi (rest := []) C (c_X0_oldestOf l D g h a S c (k % 4) (by omega) (by omega) _) (gw_V ml_X0_98 im_X0_oldestOf se_X0_X0_oldestOf ini_X0 cd_X0_oldestOf rfl) rfl rfl rfl hd_X0_oldestOf ⟨Nat.le_of_ble_eq_true rfl, Nat.le_of_ble_eq_true rfl⟩ hW pm_all (fun u_1 => (wC g h a u_1)) (fun _ => pm_all) rfl rfl hl.1 rfl (Nat.le_of_ble_eq_true rfl) ⟨Nat.le_of_ble_eq_true rfl, Nat.le_of_ble_eq_true rfl⟩ dX0_makeRoom_7 (fun r_1 u_1 H locs e_1 hW => ?_)
  obtain ⟨rfl, rfl⟩ := e_1
  refine q_osplit (fun ho => ?_) (fun j ho => ?_)
  · refine lv_istore (lv' := [(4, .int (-1)), (3, .int (nI (k % 4))), (0, .ref h), (1, .int (nI c)), (2, .int (nI k))]) C.1 C.2.1 dX0_makeRoom_10 hl (by decide) rfl (fun ls hl => ?_)
    refine lv_iload C.1 C.2.1 dX0_makeRoom_12 (lv_at hl 0 rfl) ?_
    refine lv_iconst (v := (-1)) C.1 C.2.1 dX0_makeRoom_14 (by decide) ?_
    refine lv_icmp_eq (tgt := 28) C.1 C.2.1 dX0_makeRoom_15 (by decide) (fun c_15 => ?_) (fun c_15 => absurd rfl c_15)
    refine lv_iconst (v := nI 0) C.1 C.2.1 dX0_makeRoom_28 (by decide) ?_
    exact q_iret C hRt hLk hW (by decide) S ⟨(Eq.symm (by unfold pMakeRoom; rw [ho]; rfl)), (Eq.symm (by unfold pMakeRoom; rw [ho]))⟩  rfl (Nat.le_of_ble_eq_true rfl) (Nat.le_of_ble_eq_true rfl) dX0_makeRoom_29
  have hj4 := (pOldest_spec ho (by omega)).1
  refine lv_istore (lv' := [(4, .int (nI j)), (3, .int (nI (k % 4))), (0, .ref h), (1, .int (nI c)), (2, .int (nI k))]) C.1 C.2.1 dX0_makeRoom_10 hl (by decide) rfl (fun ls hl => ?_)
  refine lv_iload C.1 C.2.1 dX0_makeRoom_12 (lv_at hl 0 rfl) ?_
  refine lv_iconst (v := (-1)) C.1 C.2.1 dX0_makeRoom_14 (by decide) ?_
  refine lv_icmp_eq (tgt := 28) C.1 C.2.1 dX0_makeRoom_15 (by decide) (fun c_15 => absurd c_15 (nI_m1 (by omega))) (fun c_15 => ?_)
  refine lv_aload_n C.1 C.2.1 dX0_makeRoom_18 rfl (lv_at hl 2 rfl) ?_
  refine lv_iload_n C.1 C.2.1 dX0_makeRoom_19 rfl (lv_at hl 3 rfl) ?_
  refine lv_iload_n C.1 C.2.1 dX0_makeRoom_20 rfl (lv_at hl 1 rfl) ?_
  refine q_callVi (rest := []) C (c_X0_countLines l D g h a S c (k % 4) (by omega) (by omega) _) (gw_V ml_X0_101 im_X0_countLines se_X0_X0_countLines ini_X0 cd_X0_countLines rfl) rfl rfl rfl hd_X0_countLines ⟨Nat.le_of_ble_eq_true rfl, Nat.le_of_ble_eq_true rfl⟩ hW pm_all (fun u_2 => (wC g h a u_2)) (fun _ => pm_all) rfl rfl hl.1 rfl (Nat.le_of_ble_eq_true rfl) ⟨Nat.le_of_ble_eq_true rfl, Nat.le_of_ble_eq_true rfl⟩ dX0_makeRoom_21 (fun r_2 u_2 H locs e_2 hW => ?_)
  obtain ⟨rfl, rfl⟩ := e_2
  have hh9 := cnt_le (fun i => hasB S (c * 64 + (k % 4 + i * 4))) 16; have hh9 : pMany S c (k % 4) ≤ 16 := hh9
  refine lv_iconst (v := nI 2) C.1 C.2.1 dX0_makeRoom_24 (by decide) ?_
  refine q_ge (tgt := 30) C (by omega) (by omega) dX0_makeRoom_25 (by decide) (fun c_25 => ?_) (fun c_25 => ?_)
  · refine lv_aload_n C.1 C.2.1 dX0_makeRoom_30 rfl (lv_at hl 2 rfl) ?_
    refine q_get (v := .ref (a 0)) C hW 0 rfl rfl 0 (by decide) gu_X0 (C.2.2.2.2 _ fl_X0_11) rfl rfl dX0_makeRoom_31 ?_
    refine lv_iload_n C.1 C.2.1 dX0_makeRoom_34 rfl (lv_at hl 3 rfl) ?_
    refine lv_bipush (v := nI 64) C.1 C.2.1 dX0_makeRoom_35 (by decide) ?_
    refine q_imul C dX0_makeRoom_37 ?_
    refine lv_iload C.1 C.2.1 dX0_makeRoom_38 (lv_at hl 0 rfl) ?_
    refine q_iadd C dX0_makeRoom_40 ?_
    refine q_caldC (f := cSt S) C hW 1 rfl (k := c * 64 + j) (by omega) (by decide) dX0_makeRoom_41 ?_
    refine lv_bipush (v := nI 109) C.1 C.2.1 dX0_makeRoom_42 (by decide) ?_
    refine q_cne (tgt := 51) (y := 109) C (by decide) dX0_makeRoom_44 (by decide) (fun c_44 => ?_) (fun c_44 => ?_)
    · refine lv_iconst (v := nI 0) C.1 C.2.1 dX0_makeRoom_51 (by decide) ?_
      refine lv_istore (lv' := [(5, .int (nI 0)), (4, .int (nI j)), (3, .int (nI (k % 4))), (0, .ref h), (1, .int (nI c)), (2, .int (nI k))]) C.1 C.2.1 dX0_makeRoom_52 hl (by decide) rfl (fun ls hl => ?_)
      refine lv_aload_n C.1 C.2.1 dX0_makeRoom_54 rfl (lv_at hl 3 rfl) ?_
      refine lv_iload_n C.1 C.2.1 dX0_makeRoom_55 rfl (lv_at hl 4 rfl) ?_
      refine lv_iload C.1 C.2.1 dX0_makeRoom_56 (lv_at hl 1 rfl) ?_
      refine lv_iconst (v := (-1)) C.1 C.2.1 dX0_makeRoom_58 (by decide) ?_
      refine q_callVv (rest := []) C (c_X0_drop l D g h a S c j (by omega) (by omega) (-1) _) (gw_V ml_X0_95 im_X0_drop se_X0_X0_drop ini_X0 cd_X0_drop rfl) rfl rfl rfl hd_X0_drop ⟨Nat.le_of_ble_eq_true rfl, Nat.le_of_ble_eq_true rfl⟩ hW pm_all (fun u_3 => (wC g h a u_3)) (fun _ => pm_all) rfl rfl hl.1 rfl (Nat.le_of_ble_eq_true rfl) ⟨Nat.le_of_ble_eq_true rfl, Nat.le_of_ble_eq_true rfl⟩ dX0_makeRoom_59 (fun u_3 H locs e_3 hW => ?_)
      skip
      refine lv_iload C.1 C.2.1 dX0_makeRoom_62 (lv_at hl 0 rfl) ?_
      exact q_iret C hRt hLk hW (by decide) u_3 ⟨(Eq.symm (by unfold pMakeRoom; rw [ho]; dsimp only; rw [if_neg (by omega)]; dsimp only; rw [decide_eq_false c_44]; rfl)), (Eq.symm (by unfold pMakeRoom; rw [ho]; dsimp only; rw [if_neg (by omega)]; exact e_3.symm))⟩  rfl (Nat.le_of_ble_eq_true rfl) (Nat.le_of_ble_eq_true rfl) dX0_makeRoom_64
    refine lv_iconst (v := nI 1) C.1 C.2.1 dX0_makeRoom_47 (by decide) ?_
    refine lv_goto (tgt := 52) C.1 C.2.1 dX0_makeRoom_48 (by decide) ?_
    refine lv_istore (lv' := [(5, .int (nI 1)), (4, .int (nI j)), (3, .int (nI (k % 4))), (0, .ref h), (1, .int (nI c)), (2, .int (nI k))]) C.1 C.2.1 dX0_makeRoom_52 hl (by decide) rfl (fun ls hl => ?_)
    refine lv_aload_n C.1 C.2.1 dX0_makeRoom_54 rfl (lv_at hl 3 rfl) ?_
    refine lv_iload_n C.1 C.2.1 dX0_makeRoom_55 rfl (lv_at hl 4 rfl) ?_
    refine lv_iload C.1 C.2.1 dX0_makeRoom_56 (lv_at hl 1 rfl) ?_
    refine lv_iconst (v := (-1)) C.1 C.2.1 dX0_makeRoom_58 (by decide) ?_
    refine q_callVv (rest := []) C (c_X0_drop l D g h a S c j (by omega) (by omega) (-1) _) (gw_V ml_X0_95 im_X0_drop se_X0_X0_drop ini_X0 cd_X0_drop rfl) rfl rfl rfl hd_X0_drop ⟨Nat.le_of_ble_eq_true rfl, Nat.le_of_ble_eq_true rfl⟩ hW pm_all (fun u_4 => (wC g h a u_4)) (fun _ => pm_all) rfl rfl hl.1 rfl (Nat.le_of_ble_eq_true rfl) ⟨Nat.le_of_ble_eq_true rfl, Nat.le_of_ble_eq_true rfl⟩ dX0_makeRoom_59 (fun u_4 H locs e_4 hW => ?_)
    skip
    refine lv_iload C.1 C.2.1 dX0_makeRoom_62 (lv_at hl 0 rfl) ?_
    exact q_iret C hRt hLk hW (by decide) u_4 ⟨(Eq.symm (by unfold pMakeRoom; rw [ho]; dsimp only; rw [if_neg (by omega)]; dsimp only; rw [decide_eq_true c_44]; rfl)), (Eq.symm (by unfold pMakeRoom; rw [ho]; dsimp only; rw [if_neg (by omega)]; exact e_4.symm))⟩  rfl (Nat.le_of_ble_eq_true rfl) (Nat.le_of_ble_eq_true rfl) dX0_makeRoom_64
  refine lv_iconst (v := nI 0) C.1 C.2.1 dX0_makeRoom_28 (by decide) ?_
  exact q_iret C hRt hLk hW (by decide) S ⟨(Eq.symm (by unfold pMakeRoom; rw [ho]; dsimp only; rw [if_pos c_25]; rfl)), (Eq.symm (by unfold pMakeRoom; rw [ho]; dsimp only; rw [if_pos c_25]))⟩  rfl (Nat.le_of_ble_eq_true rfl) (Nat.le_of_ble_eq_true rfl) dX0_makeRoom_29

theorem hd_X0_shareAll : yX0_shareAll.cls = RX0 ∧ yX0_shareAll.cls ≠ "java/lang/invoke/MethodHandle" ∧ yX0_shareAll.cls ≠ "java/lang/invoke/VarHandle" ∧ (parseMethodDescriptor yX0_shareAll.desc).map (fun d => d.parameters.length) = some 1 := by decide +kernel
set_option maxHeartbeats 4000000 in
set_option maxRecDepth 100000 in
theorem c_X0_shareAll (l : Launch) (D : va_G) (g : Nat → ClassId) (h : Nat) (a : Nat → Nat) (S : CS) (k : Nat) (hk : k < 64) (sz : Nat) : qMv l yX0_shareAll (.code yX0_shareAll cX0_shareAll 4 none :: GW) ({ frames := 0, cells := 0, slots := 0, locals := 0 } : Room) D g [.ref h, .int (nI k)] (wC g h a S) sz (fun (u : CS) => (pShare S k) = u) (fun (u : CS) => (wC g h a u)) 0 0 := by
  refine q_entry (cc := cX0_shareAll) (nL := 4) (ret := none) rfl (by decide) (Nat.le_of_ble_eq_true rfl) (fun pp ee ss mm bb mt kc ls C hRt hLk hin hsz hW hl => ?_)
  have hl : lv_has ls 4 [(0, .ref h), (1, .int (nI k))] := hl
  refine lv_iconst (v := nI 0) C.1 C.2.1 dX0_shareAll_0 (by decide) ?_
  refine lv_istore_n (lv' := [(2, .int (nI 0)), (0, .ref h), (1, .int (nI k))]) C.1 C.2.1 dX0_shareAll_1 rfl hl (by decide) rfl (fun ls hl => ?_)
  have L_2 : ∀ (nf : Nat) (i : Nat) (hi : i ≤ 4) (x2 : Int32) (e2 : x2 = nI i) (S2 : CS) (eS2 : S2 = (shrN (cSt S) k i, cUs S, cLv S, cUn S, cAh S, cMl S, cSp S, cFe S, cUf S, cWr S, cNw S)) (hmu : 4 - i < nf) (ls : Array Slot) (H : Heap) (locs : List Loc), lv_has ls 4 [(0, .ref h), (1, .int (nI k)), (2, .int x2)] → qW D g (va_A (wC g h a S) sz) ss.heap ss (wC g h a S2) H locs → W pp l ee ({ frames := 0, cells := 0, slots := 0, locals := 0 } : Room) ss mm [.ref h, .int (nI k)].toArray bb mt kc H locs 0 0 (MQ bb (va_Qv (fun (u : CS) => (pShare S k) = u) (qB D g (wC g h a S) sz (fun (u : CS) => (wC g h a u))) (va_A (wC g h a S) sz)) [.ref h, .int (nI k)].toArray ss 0 0 (va_A (wC g h a S) sz)) (F0 mm 2 ls []) := by
    intro nf
    induction nf with
    | zero =>
      intro i hi x2 e2 S2 eS2 hmu ls H locs hl hW
      exact absurd hmu (by omega)
    | succ nf ih =>
      intro i hi x2 e2 S2 eS2 hmu ls H locs hl hW
      subst e2
      subst eS2
      refine lv_iload_n C.1 C.2.1 dX0_shareAll_2 rfl (lv_at hl 2 rfl) ?_
      refine lv_iconst (v := nI 4) C.1 C.2.1 dX0_shareAll_3 (by decide) ?_
      refine q_ge (tgt := 39) C (by omega) (by omega) dX0_shareAll_4 (by decide) (fun c_4 => ?_) (fun c_4 => ?_)
      · exact q_vret C hRt hLk hW (shrN (cSt S) k i, cUs S, cLv S, cUn S, cAh S, cMl S, cSp S, cFe S, cUf S, cWr S, cNw S) (Eq.symm (by obtain rfl : i = 4 := (by omega); rfl))  rfl (Nat.le_of_ble_eq_true rfl) (Nat.le_of_ble_eq_true rfl) dX0_shareAll_39
      refine lv_iload_n C.1 C.2.1 dX0_shareAll_7 rfl (lv_at hl 2 rfl) ?_
      refine lv_bipush (v := nI 64) C.1 C.2.1 dX0_shareAll_8 (by decide) ?_
      refine q_imul C dX0_shareAll_10 ?_
      refine lv_iload_n C.1 C.2.1 dX0_shareAll_11 rfl (lv_at hl 1 rfl) ?_
      refine q_iadd C dX0_shareAll_12 ?_
      refine lv_istore_n (lv' := [(3, .int (nI (i * 64 + k))), (0, .ref h), (1, .int (nI k)), (2, .int (nI i))]) C.1 C.2.1 dX0_shareAll_13 rfl hl (by decide) rfl (fun ls hl => ?_)
      refine lv_aload_n C.1 C.2.1 dX0_shareAll_14 rfl (lv_at hl 1 rfl) ?_
      refine q_get (v := .ref (a 0)) C hW 0 rfl rfl 0 (by decide) gu_X0 (C.2.2.2.2 _ fl_X0_11) rfl rfl dX0_shareAll_15 ?_
      refine lv_iload_n C.1 C.2.1 dX0_shareAll_18 rfl (lv_at hl 0 rfl) ?_
      refine q_caldC (f := shrN (cSt S) k i) C hW 1 rfl (k := i * 64 + k) (by omega) (by decide) dX0_shareAll_19 ?_
      refine lv_bipush (v := nI 45) C.1 C.2.1 dX0_shareAll_20 (by decide) ?_
      refine q_ceq (tgt := 33) (y := 45) C (by decide) dX0_shareAll_22 (by decide) (fun c_22 => ?_) (fun c_22 => ?_)
      · refine q_iinc (d := 1) (lv' := [(2, .int (nI (i + 1))), (3, .int (nI (i * 64 + k))), (0, .ref h), (1, .int (nI k))]) C dX0_shareAll_33 (by decide) hl (k := 3) rfl (by decide) rfl (fun ls hl => ?_)
        refine lv_goto (tgt := 2) C.1 C.2.1 dX0_shareAll_36 (by decide) ?_
        exact ih (i + 1) (by omega) _ rfl (shrN (cSt S) k i, cUs S, cLv S, cUn S, cAh S, cMl S, cSp S, cFe S, cUf S, cWr S, cNw S) (by rw [shrN, if_pos c_22]) (by omega) ls _ _ (lv_sub hl [2, 3, 0] rfl) hW
      refine lv_aload_n C.1 C.2.1 dX0_shareAll_25 rfl (lv_at hl 1 rfl) ?_
      refine q_get (v := .ref (a 0)) C hW 0 rfl rfl 0 (by decide) gu_X0 (C.2.2.2.2 _ fl_X0_11) rfl rfl dX0_shareAll_26 ?_
      refine lv_iload_n C.1 C.2.1 dX0_shareAll_29 rfl (lv_at hl 0 rfl) ?_
      refine lv_bipush (v := nI 115) C.1 C.2.1 dX0_shareAll_30 (by decide) ?_
      refine q_castC C hW 1 rfl (k := i * 64 + k) (by omega) (by decide) (v := (UInt16.ofNat 115)) (wC g h a (va_up (shrN (cSt S) k i) (i * 64 + k) (UInt16.ofNat 115), cUs S, cLv S, cUn S, cAh S, cMl S, cSp S, cFe S, cUf S, cWr S, cNw S)) rfl dX0_shareAll_32 (fun H locs hW => ?_)
      refine q_iinc (d := 1) (lv' := [(2, .int (nI (i + 1))), (3, .int (nI (i * 64 + k))), (0, .ref h), (1, .int (nI k))]) C dX0_shareAll_33 (by decide) hl (k := 3) rfl (by decide) rfl (fun ls hl => ?_)
      refine lv_goto (tgt := 2) C.1 C.2.1 dX0_shareAll_36 (by decide) ?_
      exact ih (i + 1) (by omega) _ rfl (va_up (shrN (cSt S) k i) (i * 64 + k) (UInt16.ofNat 115), cUs S, cLv S, cUn S, cAh S, cMl S, cSp S, cFe S, cUf S, cWr S, cNw S) (by rw [shrN, if_neg c_22]) (by omega) ls _ _ (lv_sub hl [2, 3, 0] rfl) hW
  exact L_2 (4 - 0 + 1) 0 (by omega) _ rfl S rfl (by omega) ls _ _ (lv_sub hl [1, 2, 0] rfl) hW

theorem hd_X0_bring : yX0_bring.cls = RX0 ∧ yX0_bring.cls ≠ "java/lang/invoke/MethodHandle" ∧ yX0_bring.cls ≠ "java/lang/invoke/VarHandle" ∧ (parseMethodDescriptor yX0_bring.desc).map (fun d => d.parameters.length) = some 2 := by decide +kernel
set_option maxHeartbeats 4000000 in
set_option maxRecDepth 100000 in
theorem c_X0_bring (l : Launch) (D : va_G) (g : Nat → ClassId) (h : Nat) (a : Nat → Nat) (S : CS) (c : Nat) (k : Nat) (hc : c < 4) (hk : k < 64) (sz : Nat) : qMv l yX0_bring (.code yX0_bring cX0_bring 4 none :: GW) ({ frames := 1, cells := 0, slots := 0, locals := 23 } : Room) D g [.ref h, .int (nI c), .int (nI k)] (wC g h a S) sz (fun (u : CS) => (pBring S c k) = u) (fun (u : CS) => (wC g h a u)) 0 0 := by
  refine q_entry (cc := cX0_bring) (nL := 4) (ret := none) rfl (by decide) (Nat.le_of_ble_eq_true rfl) (fun pp ee ss mm bb mt kc ls C hRt hLk hin hsz hW hl => ?_)
  have hl : lv_has ls 4 [(0, .ref h), (1, .int (nI c)), (2, .int (nI k))] := hl
  refine lv_iload_n C.1 C.2.1 dX0_bring_0 rfl (lv_at hl 1 rfl) ?_
  refine lv_bipush (v := nI 64) C.1 C.2.1 dX0_bring_1 (by decide) ?_
  refine q_imul C dX0_bring_3 ?_
  refine lv_iload_n C.1 C.2.1 dX0_bring_4 rfl (lv_at hl 2 rfl) ?_
  refine q_iadd C dX0_bring_5 ?_
  refine lv_istore_n (lv' := [(3, .int (nI (c * 64 + k))), (0, .ref h), (1, .int (nI c)), (2, .int (nI k))]) C.1 C.2.1 dX0_bring_6 rfl hl (by decide) rfl (fun ls hl => ?_)
  refine lv_aload_n C.1 C.2.1 dX0_bring_7 rfl (lv_at hl 1 rfl) ?_
  refine q_get (v := .ref (a 0)) C hW 0 rfl rfl 0 (by decide) gu_X0 (C.2.2.2.2 _ fl_X0_11) rfl rfl dX0_bring_8 ?_
  refine lv_iload_n C.1 C.2.1 dX0_bring_11 rfl (lv_at hl 0 rfl) ?_
  refine lv_aload_n C.1 C.2.1 dX0_bring_12 rfl (lv_at hl 1 rfl) ?_
  refine lv_iload_n C.1 C.2.1 dX0_bring_13 rfl (lv_at hl 3 rfl) ?_
  refine q_callVi (rest := [.int (nI (c * 64 + k)), .ref (a 0)]) C (c_X0_countHolders l D g h a S k (by omega) _) (gw_V ml_X0_59 im_X0_countHolders se_X0_X0_countHolders ini_X0 cd_X0_countHolders rfl) rfl rfl rfl hd_X0_countHolders ⟨Nat.le_of_ble_eq_true rfl, Nat.le_of_ble_eq_true rfl⟩ hW pm_all (fun u_1 => (wC g h a u_1)) (fun _ => pm_all) rfl rfl hl.1 rfl (Nat.le_of_ble_eq_true rfl) ⟨Nat.le_of_ble_eq_true rfl, Nat.le_of_ble_eq_true rfl⟩ dX0_bring_14 (fun r_1 u_1 H locs e_1 hW => ?_)
  obtain ⟨rfl, rfl⟩ := e_1
  have hh9 := pHold_le S k
  refine q_zle (tgt := 25) C (by omega) dX0_bring_17 (by decide) (fun c_17 => ?_) (fun c_17 => ?_)
  · refine lv_bipush (v := nI 101) C.1 C.2.1 dX0_bring_25 (by decide) ?_
    refine q_castC C hW 1 rfl (k := c * 64 + k) (by omega) (by decide) (v := (UInt16.ofNat 101)) (wC g h a (va_up (cSt S) (c * 64 + k) (UInt16.ofNat 101), cUs S, cLv S, cUn S, cAh S, cMl S, cSp S, cFe S, cUf S, cWr S, cNw S)) rfl dX0_bring_27 (fun H locs hW => ?_)
    refine lv_aload_n C.1 C.2.1 dX0_bring_28 rfl (lv_at hl 1 rfl) ?_
    refine lv_dup C.1 C.2.1 dX0_bring_29 rfl ?_
    refine q_get (v := .int (cNw S)) C hW 0 rfl rfl 10 (by decide) gu_X0 (C.2.2.2.2 _ fl_X0_44) rfl rfl dX0_bring_30 ?_
    refine lv_iconst (v := nI 1) C.1 C.2.1 dX0_bring_33 (by decide) ?_
    refine lv_iadd C.1 C.2.1 dX0_bring_34 ?_
    refine q_put C hW 0 rfl rfl 10 (by decide) gu_X0 tyX0_ok nmX0 (C.2.2.2.2 _ fl_X0_44) rfl rfl rfl rfl (Nat.le_of_ble_eq_true rfl) (wC g h a (va_up (cSt S) (c * 64 + k) (UInt16.ofNat 101), cUs S, cLv S, cUn S, cAh S, cMl S, cSp S, cFe S, cUf S, cWr S, (cNw S) + (nI 1))) rfl dX0_bring_35 (fun H locs hW => ?_)
    refine lv_aload_n C.1 C.2.1 dX0_bring_38 rfl (lv_at hl 1 rfl) ?_
    refine q_get (v := .ref (a 1)) C hW 0 rfl rfl 1 (by decide) gu_X0 (C.2.2.2.2 _ fl_X0_15) rfl rfl dX0_bring_39 ?_
    refine lv_iload_n C.1 C.2.1 dX0_bring_42 rfl (lv_at hl 0 rfl) ?_
    refine lv_aload_n C.1 C.2.1 dX0_bring_43 rfl (lv_at hl 1 rfl) ?_
    refine q_get (v := .int ((cNw S) + (nI 1))) C hW 0 rfl rfl 10 (by decide) gu_X0 (C.2.2.2.2 _ fl_X0_44) rfl rfl dX0_bring_44 ?_
    refine q_iast C hW 2 rfl (k := c * 64 + k) (by omega) (by decide) (wC g h a (va_up (cSt S) (c * 64 + k) (UInt16.ofNat 101), upd (cUs S) (c * 64 + k) ((cNw S) + (nI 1)), cLv S, cUn S, cAh S, cMl S, cSp S, cFe S, cUf S, cWr S, (cNw S) + (nI 1))) rfl dX0_bring_47 (fun H locs hW => ?_)
    exact q_vret C hRt hLk hW (va_up (cSt S) (c * 64 + k) (UInt16.ofNat 101), upd (cUs S) (c * 64 + k) ((cNw S) + (nI 1)), cLv S, cUn S, cAh S, cMl S, cSp S, cFe S, cUf S, cWr S, (cNw S) + (nI 1)) (Eq.symm (by unfold pBring; rw [if_neg (by omega)]))  rfl (Nat.le_of_ble_eq_true rfl) (Nat.le_of_ble_eq_true rfl) dX0_bring_48
  refine lv_bipush (v := nI 115) C.1 C.2.1 dX0_bring_20 (by decide) ?_
  refine lv_goto (tgt := 27) C.1 C.2.1 dX0_bring_22 (by decide) ?_
  refine q_castC C hW 1 rfl (k := c * 64 + k) (by omega) (by decide) (v := (UInt16.ofNat 115)) (wC g h a (va_up (cSt S) (c * 64 + k) (UInt16.ofNat 115), cUs S, cLv S, cUn S, cAh S, cMl S, cSp S, cFe S, cUf S, cWr S, cNw S)) rfl dX0_bring_27 (fun H locs hW => ?_)
  refine lv_aload_n C.1 C.2.1 dX0_bring_28 rfl (lv_at hl 1 rfl) ?_
  refine lv_dup C.1 C.2.1 dX0_bring_29 rfl ?_
  refine q_get (v := .int (cNw S)) C hW 0 rfl rfl 10 (by decide) gu_X0 (C.2.2.2.2 _ fl_X0_44) rfl rfl dX0_bring_30 ?_
  refine lv_iconst (v := nI 1) C.1 C.2.1 dX0_bring_33 (by decide) ?_
  refine lv_iadd C.1 C.2.1 dX0_bring_34 ?_
  refine q_put C hW 0 rfl rfl 10 (by decide) gu_X0 tyX0_ok nmX0 (C.2.2.2.2 _ fl_X0_44) rfl rfl rfl rfl (Nat.le_of_ble_eq_true rfl) (wC g h a (va_up (cSt S) (c * 64 + k) (UInt16.ofNat 115), cUs S, cLv S, cUn S, cAh S, cMl S, cSp S, cFe S, cUf S, cWr S, (cNw S) + (nI 1))) rfl dX0_bring_35 (fun H locs hW => ?_)
  refine lv_aload_n C.1 C.2.1 dX0_bring_38 rfl (lv_at hl 1 rfl) ?_
  refine q_get (v := .ref (a 1)) C hW 0 rfl rfl 1 (by decide) gu_X0 (C.2.2.2.2 _ fl_X0_15) rfl rfl dX0_bring_39 ?_
  refine lv_iload_n C.1 C.2.1 dX0_bring_42 rfl (lv_at hl 0 rfl) ?_
  refine lv_aload_n C.1 C.2.1 dX0_bring_43 rfl (lv_at hl 1 rfl) ?_
  refine q_get (v := .int ((cNw S) + (nI 1))) C hW 0 rfl rfl 10 (by decide) gu_X0 (C.2.2.2.2 _ fl_X0_44) rfl rfl dX0_bring_44 ?_
  refine q_iast C hW 2 rfl (k := c * 64 + k) (by omega) (by decide) (wC g h a (va_up (cSt S) (c * 64 + k) (UInt16.ofNat 115), upd (cUs S) (c * 64 + k) ((cNw S) + (nI 1)), cLv S, cUn S, cAh S, cMl S, cSp S, cFe S, cUf S, cWr S, (cNw S) + (nI 1))) rfl dX0_bring_47 (fun H locs hW => ?_)
  exact q_vret C hRt hLk hW (va_up (cSt S) (c * 64 + k) (UInt16.ofNat 115), upd (cUs S) (c * 64 + k) ((cNw S) + (nI 1)), cLv S, cUn S, cAh S, cMl S, cSp S, cFe S, cUf S, cWr S, (cNw S) + (nI 1)) (Eq.symm (by unfold pBring; rw [if_pos (by omega)]))  rfl (Nat.le_of_ble_eq_true rfl) (Nat.le_of_ble_eq_true rfl) dX0_bring_48

theorem hd_X0_use : yX0_use.cls = RX0 ∧ yX0_use.cls ≠ "java/lang/invoke/MethodHandle" ∧ yX0_use.cls ≠ "java/lang/invoke/VarHandle" ∧ (parseMethodDescriptor yX0_use.desc).map (fun d => d.parameters.length) = some 2 := by decide +kernel
set_option maxHeartbeats 4000000 in
set_option maxRecDepth 100000 in
theorem c_X0_use (l : Launch) (D : va_G) (g : Nat → ClassId) (h : Nat) (a : Nat → Nat) (S : CS) (c : Nat) (k : Nat) (hc : c < 4) (hk : k < 64) (sz : Nat) : qMv l yX0_use (.code yX0_use cX0_use 4 none :: GW) ({ frames := 0, cells := 0, slots := 0, locals := 0 } : Room) D g [.ref h, .int (nI c), .int (nI k)] (wC g h a S) sz (fun (u : CS) => (pUse S c k) = u) (fun (u : CS) => (wC g h a u)) 0 0 := by
  refine q_entry (cc := cX0_use) (nL := 4) (ret := none) rfl (by decide) (Nat.le_of_ble_eq_true rfl) (fun pp ee ss mm bb mt kc ls C hRt hLk hin hsz hW hl => ?_)
  have hl : lv_has ls 4 [(0, .ref h), (1, .int (nI c)), (2, .int (nI k))] := hl
  refine lv_iload_n C.1 C.2.1 dX0_use_0 rfl (lv_at hl 1 rfl) ?_
  refine lv_bipush (v := nI 64) C.1 C.2.1 dX0_use_1 (by decide) ?_
  refine q_imul C dX0_use_3 ?_
  refine lv_iload_n C.1 C.2.1 dX0_use_4 rfl (lv_at hl 2 rfl) ?_
  refine q_iadd C dX0_use_5 ?_
  refine lv_istore_n (lv' := [(3, .int (nI (c * 64 + k))), (0, .ref h), (1, .int (nI c)), (2, .int (nI k))]) C.1 C.2.1 dX0_use_6 rfl hl (by decide) rfl (fun ls hl => ?_)
  refine lv_aload_n C.1 C.2.1 dX0_use_7 rfl (lv_at hl 1 rfl) ?_
  refine lv_dup C.1 C.2.1 dX0_use_8 rfl ?_
  refine q_get (v := .int (cNw S)) C hW 0 rfl rfl 10 (by decide) gu_X0 (C.2.2.2.2 _ fl_X0_44) rfl rfl dX0_use_9 ?_
  refine lv_iconst (v := nI 1) C.1 C.2.1 dX0_use_12 (by decide) ?_
  refine lv_iadd C.1 C.2.1 dX0_use_13 ?_
  refine q_put C hW 0 rfl rfl 10 (by decide) gu_X0 tyX0_ok nmX0 (C.2.2.2.2 _ fl_X0_44) rfl rfl rfl rfl (Nat.le_of_ble_eq_true rfl) (wC g h a (cSt S, cUs S, cLv S, cUn S, cAh S, cMl S, cSp S, cFe S, cUf S, cWr S, (cNw S) + (nI 1))) rfl dX0_use_14 (fun H locs hW => ?_)
  refine lv_aload_n C.1 C.2.1 dX0_use_17 rfl (lv_at hl 1 rfl) ?_
  refine q_get (v := .ref (a 1)) C hW 0 rfl rfl 1 (by decide) gu_X0 (C.2.2.2.2 _ fl_X0_15) rfl rfl dX0_use_18 ?_
  refine lv_iload_n C.1 C.2.1 dX0_use_21 rfl (lv_at hl 0 rfl) ?_
  refine lv_aload_n C.1 C.2.1 dX0_use_22 rfl (lv_at hl 1 rfl) ?_
  refine q_get (v := .int ((cNw S) + (nI 1))) C hW 0 rfl rfl 10 (by decide) gu_X0 (C.2.2.2.2 _ fl_X0_44) rfl rfl dX0_use_23 ?_
  refine q_iast C hW 2 rfl (k := c * 64 + k) (by omega) (by decide) (wC g h a (cSt S, upd (cUs S) (c * 64 + k) ((cNw S) + (nI 1)), cLv S, cUn S, cAh S, cMl S, cSp S, cFe S, cUf S, cWr S, (cNw S) + (nI 1))) rfl dX0_use_26 (fun H locs hW => ?_)
  refine lv_aload_n C.1 C.2.1 dX0_use_27 rfl (lv_at hl 1 rfl) ?_
  refine q_get (v := .ref (a 3)) C hW 0 rfl rfl 3 (by decide) gu_X0 (C.2.2.2.2 _ fl_X0_22) rfl rfl dX0_use_28 ?_
  refine lv_iload_n C.1 C.2.1 dX0_use_31 rfl (lv_at hl 0 rfl) ?_
  refine q_zaldB (f := cUn S) C hW 4 rfl (k := c * 64 + k) (by omega) (by decide) dX0_use_32 ?_
  refine q_bt (b := (cUn S) (c * 64 + k)) (tgt := 53) C dX0_use_33 (by decide) (fun c_33 => ?_) (fun c_33 => ?_)
  · exact q_vret C hRt hLk hW (cSt S, upd (cUs S) (c * 64 + k) ((cNw S) + (nI 1)), cLv S, cUn S, cAh S, cMl S, cSp S, cFe S, cUf S, cWr S, (cNw S) + (nI 1)) (Eq.symm (by unfold pUse; rw [if_pos c_33]))  rfl (Nat.le_of_ble_eq_true rfl) (Nat.le_of_ble_eq_true rfl) dX0_use_53
  refine lv_aload_n C.1 C.2.1 dX0_use_36 rfl (lv_at hl 1 rfl) ?_
  refine q_get (v := .ref (a 3)) C hW 0 rfl rfl 3 (by decide) gu_X0 (C.2.2.2.2 _ fl_X0_22) rfl rfl dX0_use_37 ?_
  refine lv_iload_n C.1 C.2.1 dX0_use_40 rfl (lv_at hl 0 rfl) ?_
  refine lv_iconst (v := nI 0) C.1 C.2.1 dX0_use_41 (by decide) ?_
  refine q_zastB C hW 4 rfl (k := c * 64 + k) (by omega) (by decide) (v := false) (wC g h a (cSt S, upd (cUs S) (c * 64 + k) ((cNw S) + (nI 1)), cLv S, va_up (cUn S) (c * 64 + k) false, cAh S, cMl S, cSp S, cFe S, cUf S, cWr S, (cNw S) + (nI 1))) rfl dX0_use_42 (fun H locs hW => ?_)
  refine lv_aload_n C.1 C.2.1 dX0_use_43 rfl (lv_at hl 1 rfl) ?_
  refine q_get (v := .ref (a 8)) C hW 0 rfl rfl 8 (by decide) gu_X0 (C.2.2.2.2 _ fl_X0_38) rfl rfl dX0_use_44 ?_
  refine lv_iload_n C.1 C.2.1 dX0_use_47 rfl (lv_at hl 2 rfl) ?_
  refine lv_dup2_11 C.1 C.2.1 dX0_use_48 rfl rfl ?_
  refine q_iald (f := cUf S) C hW 9 rfl (k := c) (by omega) (by decide) dX0_use_49 ?_
  refine lv_iconst (v := nI 1) C.1 C.2.1 dX0_use_50 (by decide) ?_
  refine lv_iadd C.1 C.2.1 dX0_use_51 ?_
  refine q_iast C hW 9 rfl (k := c) (by omega) (by decide) (wC g h a (cSt S, upd (cUs S) (c * 64 + k) ((cNw S) + (nI 1)), cLv S, va_up (cUn S) (c * 64 + k) false, cAh S, cMl S, cSp S, cFe S, upd (cUf S) c (((cUf S) c) + (nI 1)), cWr S, (cNw S) + (nI 1))) rfl dX0_use_52 (fun H locs hW => ?_)
  exact q_vret C hRt hLk hW (cSt S, upd (cUs S) (c * 64 + k) ((cNw S) + (nI 1)), cLv S, va_up (cUn S) (c * 64 + k) false, cAh S, cMl S, cSp S, cFe S, upd (cUf S) c (((cUf S) c) + (nI 1)), cWr S, (cNw S) + (nI 1)) (Eq.symm (by unfold pUse; rw [if_neg (by rw [c_33]; decide)]))  rfl (Nat.le_of_ble_eq_true rfl) (Nat.le_of_ble_eq_true rfl) dX0_use_53

theorem hd_X0_dropElsewhere : yX0_dropElsewhere.cls = RX0 ∧ yX0_dropElsewhere.cls ≠ "java/lang/invoke/MethodHandle" ∧ yX0_dropElsewhere.cls ≠ "java/lang/invoke/VarHandle" ∧ (parseMethodDescriptor yX0_dropElsewhere.desc).map (fun d => d.parameters.length) = some 3 := by decide +kernel
set_option maxHeartbeats 4000000 in
set_option maxRecDepth 100000 in
theorem c_X0_dropElsewhere (l : Launch) (D : va_G) (g : Nat → ClassId) (h : Nat) (a : Nat → Nat) (S : CS) (c : Nat) (v : Int32) (k : Nat) (hc : c < 4) (hk : k < 64) (sz : Nat) : qMv l yX0_dropElsewhere (.code yX0_dropElsewhere cX0_dropElsewhere 5 none :: GW) ({ frames := 1, cells := 0, slots := 0, locals := 24 } : Room) D g [.ref h, .int (nI c), .int v, .int (nI k)] (wC g h a S) sz (fun (u : CS) => (pElse S c v k) = u) (fun (u : CS) => (wC g h a u)) 0 0 := by
  refine q_entry (cc := cX0_dropElsewhere) (nL := 5) (ret := none) rfl (by decide) (Nat.le_of_ble_eq_true rfl) (fun pp ee ss mm bb mt kc ls C hRt hLk hin hsz hW hl => ?_)
  have hl : lv_has ls 5 [(0, .ref h), (1, .int (nI c)), (2, .int v), (3, .int (nI k))] := hl
  refine lv_iconst (v := nI 0) C.1 C.2.1 dX0_dropElsewhere_0 (by decide) ?_
  refine lv_istore (lv' := [(4, .int (nI 0)), (0, .ref h), (1, .int (nI c)), (2, .int v), (3, .int (nI k))]) C.1 C.2.1 dX0_dropElsewhere_1 hl (by decide) rfl (fun ls hl => ?_)
  have L_3 : ∀ (nf : Nat) (i : Nat) (hi : i ≤ 4) (x4 : Int32) (e4 : x4 = nI i) (S2 : CS) (eS2 : S2 = pElseN S c v k i) (hmu : 4 - i < nf) (ls : Array Slot) (H : Heap) (locs : List Loc), lv_has ls 5 [(0, .ref h), (1, .int (nI c)), (2, .int v), (3, .int (nI k)), (4, .int x4)] → qW D g (va_A (wC g h a S) sz) ss.heap ss (wC g h a S2) H locs → W pp l ee ({ frames := 1, cells := 0, slots := 0, locals := 24 } : Room) ss mm [.ref h, .int (nI c), .int v, .int (nI k)].toArray bb mt kc H locs 0 0 (MQ bb (va_Qv (fun (u : CS) => (pElse S c v k) = u) (qB D g (wC g h a S) sz (fun (u : CS) => (wC g h a u))) (va_A (wC g h a S) sz)) [.ref h, .int (nI c), .int v, .int (nI k)].toArray ss 0 0 (va_A (wC g h a S) sz)) (F0 mm 3 ls []) := by
    intro nf
    induction nf with
    | zero =>
      intro i hi x4 e4 S2 eS2 hmu ls H locs hl hW
      exact absurd hmu (by omega)
    | succ nf ih =>
      intro i hi x4 e4 S2 eS2 hmu ls H locs hl hW
      subst e4
      refine lv_iload C.1 C.2.1 dX0_dropElsewhere_3 (lv_at hl 4 rfl) ?_
      refine lv_iconst (v := nI 4) C.1 C.2.1 dX0_dropElsewhere_5 (by decide) ?_
      refine q_ge (tgt := 29) C (by omega) (by omega) dX0_dropElsewhere_6 (by decide) (fun c_6 => ?_) (fun c_6 => ?_)
      · exact q_vret C hRt hLk hW S2 (Eq.symm (by obtain rfl : i = 4 := (by omega); exact eS2))  rfl (Nat.le_of_ble_eq_true rfl) (Nat.le_of_ble_eq_true rfl) dX0_dropElsewhere_29
      refine lv_iload C.1 C.2.1 dX0_dropElsewhere_9 (lv_at hl 4 rfl) ?_
      refine lv_iload_n C.1 C.2.1 dX0_dropElsewhere_11 rfl (lv_at hl 1 rfl) ?_
      refine q_eq (tgt := 23) C (by omega) (by omega) dX0_dropElsewhere_12 (by decide) (fun c_12 => ?_) (fun c_12 => ?_)
      · refine q_iinc (d := 1) (lv' := [(4, .int (nI (i + 1))), (0, .ref h), (1, .int (nI c)), (2, .int v), (3, .int (nI k))]) C dX0_dropElsewhere_23 (by decide) hl (k := 4) rfl (by decide) rfl (fun ls hl => ?_)
        refine lv_goto (tgt := 3) C.1 C.2.1 dX0_dropElsewhere_26 (by decide) ?_
        exact ih (i + 1) (by omega) _ rfl S2 (by rw [pElseN, if_pos c_12, ← eS2]) (by omega) ls _ _ (lv_sub hl [1, 2, 3, 4, 0] rfl) hW
      refine lv_aload_n C.1 C.2.1 dX0_dropElsewhere_15 rfl (lv_at hl 0 rfl) ?_
      refine lv_iload C.1 C.2.1 dX0_dropElsewhere_16 (lv_at hl 4 rfl) ?_
      refine lv_iload_n C.1 C.2.1 dX0_dropElsewhere_18 rfl (lv_at hl 3 rfl) ?_
      refine lv_iload_n C.1 C.2.1 dX0_dropElsewhere_19 rfl (lv_at hl 2 rfl) ?_
      refine q_callVv (rest := []) C (c_X0_drop l D g h a S2 i k (by omega) (by omega) v _) (gw_V ml_X0_95 im_X0_drop se_X0_X0_drop ini_X0 cd_X0_drop rfl) rfl rfl rfl hd_X0_drop ⟨Nat.le_of_ble_eq_true rfl, Nat.le_of_ble_eq_true rfl⟩ hW pm_all (fun u_1 => (wC g h a u_1)) (fun _ => pm_all) rfl rfl hl.1 rfl (Nat.le_of_ble_eq_true rfl) ⟨Nat.le_of_ble_eq_true rfl, Nat.le_of_ble_eq_true rfl⟩ dX0_dropElsewhere_20 (fun u_1 H locs e_1 hW => ?_)
      skip
      refine q_iinc (d := 1) (lv' := [(4, .int (nI (i + 1))), (0, .ref h), (1, .int (nI c)), (2, .int v), (3, .int (nI k))]) C dX0_dropElsewhere_23 (by decide) hl (k := 4) rfl (by decide) rfl (fun ls hl => ?_)
      refine lv_goto (tgt := 3) C.1 C.2.1 dX0_dropElsewhere_26 (by decide) ?_
      exact ih (i + 1) (by omega) _ rfl u_1 (by rw [pElseN, if_neg c_12, ← eS2]; exact e_1.symm) (by omega) ls _ _ (lv_sub hl [1, 2, 3, 4, 0] rfl) hW
  exact L_3 (4 - 0 + 1) 0 (by omega) _ rfl S rfl (by omega) ls _ _ (lv_sub hl [1, 2, 3, 4, 0] rfl) hW

theorem hd_X0_dropAll : yX0_dropAll.cls = RX0 ∧ yX0_dropAll.cls ≠ "java/lang/invoke/MethodHandle" ∧ yX0_dropAll.cls ≠ "java/lang/invoke/VarHandle" ∧ (parseMethodDescriptor yX0_dropAll.desc).map (fun d => d.parameters.length) = some 1 := by decide +kernel
set_option maxHeartbeats 4000000 in
set_option maxRecDepth 100000 in
theorem c_X0_dropAll (l : Launch) (D : va_G) (g : Nat → ClassId) (h : Nat) (a : Nat → Nat) (S : CS) (c : Nat) (hc : c < 4) (sz : Nat) : qMi l yX0_dropAll (.code yX0_dropAll cX0_dropAll 4 (some .int) :: GW) ({ frames := 1, cells := 0, slots := 0, locals := 24 } : Room) D g [.ref h, .int (nI c)] (wC g h a S) sz (fun (r : Int32) (u : CS) => nI ((pDropAll S c).1) = r ∧ ((pDropAll S c).2) = u) (fun (u : CS) => (wC g h a u)) 0 0 := by
  refine q_entry (cc := cX0_dropAll) (nL := 4) (ret := (some .int)) rfl (by decide) (Nat.le_of_ble_eq_true rfl) (fun pp ee ss mm bb mt kc ls C hRt hLk hin hsz hW hl => ?_)
  have hl : lv_has ls 4 [(0, .ref h), (1, .int (nI c))] := hl
  refine lv_iconst (v := nI 0) C.1 C.2.1 dX0_dropAll_0 (by decide) ?_
  refine lv_istore_n (lv' := [(2, .int (nI 0)), (0, .ref h), (1, .int (nI c))]) C.1 C.2.1 dX0_dropAll_1 rfl hl (by decide) rfl (fun ls hl => ?_)
  refine lv_iconst (v := nI 0) C.1 C.2.1 dX0_dropAll_2 (by decide) ?_
  refine lv_istore_n (lv' := [(3, .int (nI 0)), (2, .int (nI 0)), (0, .ref h), (1, .int (nI c))]) C.1 C.2.1 dX0_dropAll_3 rfl hl (by decide) rfl (fun ls hl => ?_)
  have L_4 : ∀ (nf : Nat) (i : Nat) (hi : i ≤ 64) (x2 : Int32) (e2 : x2 = nI ((pDropAllN S c i).1)) (x3 : Int32) (e3 : x3 = nI i) (S2 : CS) (eS2 : S2 = (pDropAllN S c i).2) (hmu : 64 - i < nf) (ls : Array Slot) (H : Heap) (locs : List Loc), lv_has ls 4 [(0, .ref h), (1, .int (nI c)), (2, .int x2), (3, .int x3)] → qW D g (va_A (wC g h a S) sz) ss.heap ss (wC g h a S2) H locs → W pp l ee ({ frames := 1, cells := 0, slots := 0, locals := 24 } : Room) ss mm [.ref h, .int (nI c)].toArray bb mt kc H locs 0 0 (MQ bb (va_Qi (fun (r : Int32) (u : CS) => nI ((pDropAll S c).1) = r ∧ ((pDropAll S c).2) = u) (qB D g (wC g h a S) sz (fun (u : CS) => (wC g h a u))) (va_A (wC g h a S) sz)) [.ref h, .int (nI c)].toArray ss 0 0 (va_A (wC g h a S) sz)) (F0 mm 4 ls []) := by
    intro nf
    induction nf with
    | zero =>
      intro i hi x2 e2 x3 e3 S2 eS2 hmu ls H locs hl hW
      exact absurd hmu (by omega)
    | succ nf ih =>
      intro i hi x2 e2 x3 e3 S2 eS2 hmu ls H locs hl hW
      subst e2
      subst e3
      refine lv_iload_n C.1 C.2.1 dX0_dropAll_4 rfl (lv_at hl 3 rfl) ?_
      refine lv_bipush (v := nI 64) C.1 C.2.1 dX0_dropAll_5 (by decide) ?_
      refine q_ge (tgt := 42) C (by omega) (by omega) dX0_dropAll_7 (by decide) (fun c_7 => ?_) (fun c_7 => ?_)
      · refine lv_iload_n C.1 C.2.1 dX0_dropAll_42 rfl (lv_at hl 2 rfl) ?_
        exact q_iret C hRt hLk hW rfl S2 ⟨(Eq.symm (by obtain rfl : i = 64 := (by omega); rfl)), (Eq.symm (by obtain rfl : i = 64 := (by omega); exact eS2))⟩  rfl (Nat.le_of_ble_eq_true rfl) (Nat.le_of_ble_eq_true rfl) dX0_dropAll_43
      refine lv_aload_n C.1 C.2.1 dX0_dropAll_10 rfl (lv_at hl 0 rfl) ?_
      refine q_get (v := .ref (a 0)) C hW 0 rfl rfl 0 (by decide) gu_X0 (C.2.2.2.2 _ fl_X0_11) rfl rfl dX0_dropAll_11 ?_
      refine lv_iload_n C.1 C.2.1 dX0_dropAll_14 rfl (lv_at hl 1 rfl) ?_
      refine lv_bipush (v := nI 64) C.1 C.2.1 dX0_dropAll_15 (by decide) ?_
      refine q_imul C dX0_dropAll_17 ?_
      refine lv_iload_n C.1 C.2.1 dX0_dropAll_18 rfl (lv_at hl 3 rfl) ?_
      refine q_iadd C dX0_dropAll_19 ?_
      refine q_caldC (f := cSt S2) C hW 1 rfl (k := c * 64 + i) (by omega) (by decide) dX0_dropAll_20 ?_
      refine lv_bipush (v := nI 109) C.1 C.2.1 dX0_dropAll_21 (by decide) ?_
      refine q_cne (tgt := 29) (y := 109) C (by decide) dX0_dropAll_23 (by decide) (fun c_23 => ?_) (fun c_23 => ?_)
      · refine lv_aload_n C.1 C.2.1 dX0_dropAll_29 rfl (lv_at hl 0 rfl) ?_
        refine lv_iload_n C.1 C.2.1 dX0_dropAll_30 rfl (lv_at hl 1 rfl) ?_
        refine lv_iload_n C.1 C.2.1 dX0_dropAll_31 rfl (lv_at hl 3 rfl) ?_
        refine lv_iconst (v := (-1)) C.1 C.2.1 dX0_dropAll_32 (by decide) ?_
        refine q_callVv (rest := []) C (c_X0_drop l D g h a S2 c i (by omega) (by omega) (-1) _) (gw_V ml_X0_95 im_X0_drop se_X0_X0_drop ini_X0 cd_X0_drop rfl) rfl rfl rfl hd_X0_drop ⟨Nat.le_of_ble_eq_true rfl, Nat.le_of_ble_eq_true rfl⟩ hW pm_all (fun u_1 => (wC g h a u_1)) (fun _ => pm_all) rfl rfl hl.1 rfl (Nat.le_of_ble_eq_true rfl) ⟨Nat.le_of_ble_eq_true rfl, Nat.le_of_ble_eq_true rfl⟩ dX0_dropAll_33 (fun u_1 H locs e_1 hW => ?_)
        skip
        refine q_iinc (d := 1) (lv' := [(3, .int (nI (i + 1))), (0, .ref h), (1, .int (nI c)), (2, .int (nI ((pDropAllN S c i).1)))]) C dX0_dropAll_36 (by decide) hl (k := 3) rfl (by decide) rfl (fun ls hl => ?_)
        refine lv_goto (tgt := 4) C.1 C.2.1 dX0_dropAll_39 (by decide) ?_
        exact ih (i + 1) (by omega) _ (by rw [pDropAllN, ← eS2]; dsimp only; rw [if_neg c_23]; try rfl) _ rfl u_1 (by rw [pDropAllN, ← eS2]; exact e_1.symm) (by omega) ls _ _ (lv_sub hl [1, 2, 3, 0] rfl) hW
      refine q_iinc (d := 1) (lv' := [(2, .int (nI ((pDropAllN S c i).1 + 1))), (0, .ref h), (1, .int (nI c)), (3, .int (nI i))]) C dX0_dropAll_26 (by decide) hl (k := 2) rfl (by decide) rfl (fun ls hl => ?_)
      refine lv_aload_n C.1 C.2.1 dX0_dropAll_29 rfl (lv_at hl 1 rfl) ?_
      refine lv_iload_n C.1 C.2.1 dX0_dropAll_30 rfl (lv_at hl 2 rfl) ?_
      refine lv_iload_n C.1 C.2.1 dX0_dropAll_31 rfl (lv_at hl 3 rfl) ?_
      refine lv_iconst (v := (-1)) C.1 C.2.1 dX0_dropAll_32 (by decide) ?_
      refine q_callVv (rest := []) C (c_X0_drop l D g h a S2 c i (by omega) (by omega) (-1) _) (gw_V ml_X0_95 im_X0_drop se_X0_X0_drop ini_X0 cd_X0_drop rfl) rfl rfl rfl hd_X0_drop ⟨Nat.le_of_ble_eq_true rfl, Nat.le_of_ble_eq_true rfl⟩ hW pm_all (fun u_2 => (wC g h a u_2)) (fun _ => pm_all) rfl rfl hl.1 rfl (Nat.le_of_ble_eq_true rfl) ⟨Nat.le_of_ble_eq_true rfl, Nat.le_of_ble_eq_true rfl⟩ dX0_dropAll_33 (fun u_2 H locs e_2 hW => ?_)
      skip
      refine q_iinc (d := 1) (lv' := [(3, .int (nI (i + 1))), (2, .int (nI ((pDropAllN S c i).1 + 1))), (0, .ref h), (1, .int (nI c))]) C dX0_dropAll_36 (by decide) hl (k := 3) rfl (by decide) rfl (fun ls hl => ?_)
      refine lv_goto (tgt := 4) C.1 C.2.1 dX0_dropAll_39 (by decide) ?_
      exact ih (i + 1) (by omega) _ (by rw [pDropAllN, ← eS2]; dsimp only; rw [if_pos c_23]; try rfl) _ rfl u_2 (by rw [pDropAllN, ← eS2]; exact e_2.symm) (by omega) ls _ _ (lv_sub hl [2, 3, 1, 0] rfl) hW
  exact L_4 (64 - 0 + 1) 0 (by omega) _ rfl _ rfl S rfl (by omega) ls _ _ (lv_sub hl [2, 3, 1, 0] rfl) hW

theorem hd_X0_learn : yX0_learn.cls = RX0 ∧ yX0_learn.cls ≠ "java/lang/invoke/MethodHandle" ∧ yX0_learn.cls ≠ "java/lang/invoke/VarHandle" ∧ (parseMethodDescriptor yX0_learn.desc).map (fun d => d.parameters.length) = some 2 := by decide +kernel
set_option maxHeartbeats 4000000 in
set_option maxRecDepth 100000 in
theorem c_X0_learn (l : Launch) (D : va_G) (g : Nat → ClassId) (h : Nat) (a : Nat → Nat) (S : CS) (c : Nat) (k : Nat) (hc : c < 4) (hk : k < 64) (sz : Nat) : qMi l yX0_learn (.code yX0_learn cX0_learn 6 (some .int) :: GW) ({ frames := 0, cells := 0, slots := 0, locals := 0 } : Room) D g [.ref h, .int (nI c), .int (nI k)] (wC g h a S) sz (fun (r : Int32) (u : CS) => (pLearn S c k).1 = r ∧ ((pLearn S c k).2) = u) (fun (u : CS) => (wC g h a u)) 0 0 := by
  refine q_entry (cc := cX0_learn) (nL := 6) (ret := (some .int)) rfl (by decide) (Nat.le_of_ble_eq_true rfl) (fun pp ee ss mm bb mt kc ls C hRt hLk hin hsz hW hl => ?_)
  have hl : lv_has ls 6 [(0, .ref h), (1, .int (nI c)), (2, .int (nI k))] := hl
  refine lv_aload_n C.1 C.2.1 dX0_learn_0 rfl (lv_at hl 0 rfl) ?_
  refine q_get (v := .ref (a 5)) C hW 0 rfl rfl 5 (by decide) gu_X0 (C.2.2.2.2 _ fl_X0_29) rfl rfl dX0_learn_1 ?_
  refine lv_iload_n C.1 C.2.1 dX0_learn_4 rfl (lv_at hl 1 rfl) ?_
  refine q_iald (f := cMl S) C hW 6 rfl (k := c) (by omega) (by decide) dX0_learn_5 ?_
  refine lv_istore_n (lv' := [(3, .int ((cMl S) c)), (0, .ref h), (1, .int (nI c)), (2, .int (nI k))]) C.1 C.2.1 dX0_learn_6 rfl hl (by decide) rfl (fun ls hl => ?_)
  refine lv_iload_n C.1 C.2.1 dX0_learn_7 rfl (lv_at hl 0 rfl) ?_
  refine lv_iconst (v := (-1)) C.1 C.2.1 dX0_learn_8 (by decide) ?_
  refine lv_icmp_ne (tgt := 16) C.1 C.2.1 dX0_learn_9 (by decide) (fun c_9 => ?_) (fun c_9 => ?_)
  · refine lv_iload_n C.1 C.2.1 dX0_learn_16 rfl (lv_at hl 3 rfl) ?_
    refine lv_iload_n C.1 C.2.1 dX0_learn_17 rfl (lv_at hl 0 rfl) ?_
    refine lv_isub C.1 C.2.1 dX0_learn_18 ?_
    refine lv_istore (lv' := [(4, .int ((nI k) - ((cMl S) c))), (3, .int ((cMl S) c)), (0, .ref h), (1, .int (nI c)), (2, .int (nI k))]) C.1 C.2.1 dX0_learn_19 hl (by decide) rfl (fun ls hl => ?_)
    refine lv_iload C.1 C.2.1 dX0_learn_21 (lv_at hl 0 rfl) ?_
    refine lv_if_eq (tgt := 41) C.1 C.2.1 dX0_learn_23 (by decide) (fun c_23 => ?_) (fun c_23 => ?_)
    · refine lv_iconst (v := nI 0) C.1 C.2.1 dX0_learn_41 (by decide) ?_
      refine lv_istore (lv' := [(5, .int (nI 0)), (4, .int ((nI k) - ((cMl S) c))), (3, .int ((cMl S) c)), (0, .ref h), (1, .int (nI c)), (2, .int (nI k))]) C.1 C.2.1 dX0_learn_42 hl (by decide) rfl (fun ls hl => ?_)
      refine lv_aload_n C.1 C.2.1 dX0_learn_44 rfl (lv_at hl 3 rfl) ?_
      refine q_get (v := .ref (a 5)) C hW 0 rfl rfl 5 (by decide) gu_X0 (C.2.2.2.2 _ fl_X0_29) rfl rfl dX0_learn_45 ?_
      refine lv_iload_n C.1 C.2.1 dX0_learn_48 rfl (lv_at hl 4 rfl) ?_
      refine lv_iload_n C.1 C.2.1 dX0_learn_49 rfl (lv_at hl 5 rfl) ?_
      refine q_iast C hW 6 rfl (k := c) (by omega) (by decide) (wC g h a (cSt S, cUs S, cLv S, cUn S, cAh S, upd (cMl S) c (nI k), cSp S, cFe S, cUf S, cWr S, cNw S)) rfl dX0_learn_50 (fun H locs hW => ?_)
      refine lv_aload_n C.1 C.2.1 dX0_learn_51 rfl (lv_at hl 3 rfl) ?_
      refine q_get (v := .ref (a 6)) C hW 0 rfl rfl 6 (by decide) gu_X0 (C.2.2.2.2 _ fl_X0_32) rfl rfl dX0_learn_52 ?_
      refine lv_iload_n C.1 C.2.1 dX0_learn_55 rfl (lv_at hl 4 rfl) ?_
      refine lv_iload C.1 C.2.1 dX0_learn_56 (lv_at hl 1 rfl) ?_
      refine q_iast C hW 7 rfl (k := c) (by omega) (by decide) (wC g h a (cSt S, cUs S, cLv S, cUn S, cAh S, upd (cMl S) c (nI k), upd (cSp S) c ((nI k) - ((cMl S) c)), cFe S, cUf S, cWr S, cNw S)) rfl dX0_learn_58 (fun H locs hW => ?_)
      refine lv_iload C.1 C.2.1 dX0_learn_59 (lv_at hl 0 rfl) ?_
      refine q_zeq (tgt := 71) C (by omega) dX0_learn_61 (by decide) (fun c_61 => ?_) (fun c_61 => absurd c_61 (by decide))
      refine lv_iconst (v := (-1)) C.1 C.2.1 dX0_learn_71 (by decide) ?_
      exact q_iret C hRt hLk hW rfl (cSt S, cUs S, cLv S, cUn S, cAh S, upd (cMl S) c (nI k), upd (cSp S) c ((nI k) - ((cMl S) c)), cFe S, cUf S, cWr S, cNw S) ⟨(Eq.symm (by have hps : pStep S c k = nI k - cMl S c := (by unfold pStep; rw [if_neg c_9]); unfold pLearn; dsimp only; rw [hps, if_pos c_23])), (Eq.symm (by have hps : pStep S c k = nI k - cMl S c := (by unfold pStep; rw [if_neg c_9]); unfold pLearn; dsimp only; rw [hps]))⟩  rfl (Nat.le_of_ble_eq_true rfl) (Nat.le_of_ble_eq_true rfl) dX0_learn_72
    refine lv_iload C.1 C.2.1 dX0_learn_26 (lv_at hl 0 rfl) ?_
    refine lv_aload_n C.1 C.2.1 dX0_learn_28 rfl (lv_at hl 2 rfl) ?_
    refine q_get (v := .ref (a 6)) C hW 0 rfl rfl 6 (by decide) gu_X0 (C.2.2.2.2 _ fl_X0_32) rfl rfl dX0_learn_29 ?_
    refine lv_iload_n C.1 C.2.1 dX0_learn_32 rfl (lv_at hl 3 rfl) ?_
    refine q_iald (f := cSp S) C hW 7 rfl (k := c) (by omega) (by decide) dX0_learn_33 ?_
    refine lv_icmp_ne (tgt := 41) C.1 C.2.1 dX0_learn_34 (by decide) (fun c_34 => ?_) (fun c_34 => ?_)
    · refine lv_iconst (v := nI 0) C.1 C.2.1 dX0_learn_41 (by decide) ?_
      refine lv_istore (lv' := [(5, .int (nI 0)), (4, .int ((nI k) - ((cMl S) c))), (3, .int ((cMl S) c)), (0, .ref h), (1, .int (nI c)), (2, .int (nI k))]) C.1 C.2.1 dX0_learn_42 hl (by decide) rfl (fun ls hl => ?_)
      refine lv_aload_n C.1 C.2.1 dX0_learn_44 rfl (lv_at hl 3 rfl) ?_
      refine q_get (v := .ref (a 5)) C hW 0 rfl rfl 5 (by decide) gu_X0 (C.2.2.2.2 _ fl_X0_29) rfl rfl dX0_learn_45 ?_
      refine lv_iload_n C.1 C.2.1 dX0_learn_48 rfl (lv_at hl 4 rfl) ?_
      refine lv_iload_n C.1 C.2.1 dX0_learn_49 rfl (lv_at hl 5 rfl) ?_
      refine q_iast C hW 6 rfl (k := c) (by omega) (by decide) (wC g h a (cSt S, cUs S, cLv S, cUn S, cAh S, upd (cMl S) c (nI k), cSp S, cFe S, cUf S, cWr S, cNw S)) rfl dX0_learn_50 (fun H locs hW => ?_)
      refine lv_aload_n C.1 C.2.1 dX0_learn_51 rfl (lv_at hl 3 rfl) ?_
      refine q_get (v := .ref (a 6)) C hW 0 rfl rfl 6 (by decide) gu_X0 (C.2.2.2.2 _ fl_X0_32) rfl rfl dX0_learn_52 ?_
      refine lv_iload_n C.1 C.2.1 dX0_learn_55 rfl (lv_at hl 4 rfl) ?_
      refine lv_iload C.1 C.2.1 dX0_learn_56 (lv_at hl 1 rfl) ?_
      refine q_iast C hW 7 rfl (k := c) (by omega) (by decide) (wC g h a (cSt S, cUs S, cLv S, cUn S, cAh S, upd (cMl S) c (nI k), upd (cSp S) c ((nI k) - ((cMl S) c)), cFe S, cUf S, cWr S, cNw S)) rfl dX0_learn_58 (fun H locs hW => ?_)
      refine lv_iload C.1 C.2.1 dX0_learn_59 (lv_at hl 0 rfl) ?_
      refine q_zeq (tgt := 71) C (by omega) dX0_learn_61 (by decide) (fun c_61 => ?_) (fun c_61 => absurd c_61 (by decide))
      refine lv_iconst (v := (-1)) C.1 C.2.1 dX0_learn_71 (by decide) ?_
      exact q_iret C hRt hLk hW rfl (cSt S, cUs S, cLv S, cUn S, cAh S, upd (cMl S) c (nI k), upd (cSp S) c ((nI k) - ((cMl S) c)), cFe S, cUf S, cWr S, cNw S) ⟨(Eq.symm (by have hps : pStep S c k = nI k - cMl S c := (by unfold pStep; rw [if_neg c_9]); unfold pLearn; dsimp only; rw [hps, if_neg c_23, if_neg c_34])), (Eq.symm (by have hps : pStep S c k = nI k - cMl S c := (by unfold pStep; rw [if_neg c_9]); unfold pLearn; dsimp only; rw [hps]))⟩  rfl (Nat.le_of_ble_eq_true rfl) (Nat.le_of_ble_eq_true rfl) dX0_learn_72
    refine lv_iconst (v := nI 1) C.1 C.2.1 dX0_learn_37 (by decide) ?_
    refine lv_goto (tgt := 42) C.1 C.2.1 dX0_learn_38 (by decide) ?_
    refine lv_istore (lv' := [(5, .int (nI 1)), (4, .int ((nI k) - ((cMl S) c))), (3, .int ((cMl S) c)), (0, .ref h), (1, .int (nI c)), (2, .int (nI k))]) C.1 C.2.1 dX0_learn_42 hl (by decide) rfl (fun ls hl => ?_)
    refine lv_aload_n C.1 C.2.1 dX0_learn_44 rfl (lv_at hl 3 rfl) ?_
    refine q_get (v := .ref (a 5)) C hW 0 rfl rfl 5 (by decide) gu_X0 (C.2.2.2.2 _ fl_X0_29) rfl rfl dX0_learn_45 ?_
    refine lv_iload_n C.1 C.2.1 dX0_learn_48 rfl (lv_at hl 4 rfl) ?_
    refine lv_iload_n C.1 C.2.1 dX0_learn_49 rfl (lv_at hl 5 rfl) ?_
    refine q_iast C hW 6 rfl (k := c) (by omega) (by decide) (wC g h a (cSt S, cUs S, cLv S, cUn S, cAh S, upd (cMl S) c (nI k), cSp S, cFe S, cUf S, cWr S, cNw S)) rfl dX0_learn_50 (fun H locs hW => ?_)
    refine lv_aload_n C.1 C.2.1 dX0_learn_51 rfl (lv_at hl 3 rfl) ?_
    refine q_get (v := .ref (a 6)) C hW 0 rfl rfl 6 (by decide) gu_X0 (C.2.2.2.2 _ fl_X0_32) rfl rfl dX0_learn_52 ?_
    refine lv_iload_n C.1 C.2.1 dX0_learn_55 rfl (lv_at hl 4 rfl) ?_
    refine lv_iload C.1 C.2.1 dX0_learn_56 (lv_at hl 1 rfl) ?_
    refine q_iast C hW 7 rfl (k := c) (by omega) (by decide) (wC g h a (cSt S, cUs S, cLv S, cUn S, cAh S, upd (cMl S) c (nI k), upd (cSp S) c ((nI k) - ((cMl S) c)), cFe S, cUf S, cWr S, cNw S)) rfl dX0_learn_58 (fun H locs hW => ?_)
    refine lv_iload C.1 C.2.1 dX0_learn_59 (lv_at hl 0 rfl) ?_
    refine q_zeq (tgt := 71) C (by omega) dX0_learn_61 (by decide) (fun c_61 => absurd c_61 (by decide)) (fun c_61 => ?_)
    refine lv_iload_n C.1 C.2.1 dX0_learn_64 rfl (lv_at hl 5 rfl) ?_
    refine lv_iload C.1 C.2.1 dX0_learn_65 (lv_at hl 1 rfl) ?_
    refine lv_iadd C.1 C.2.1 dX0_learn_67 ?_
    refine lv_goto (tgt := 72) C.1 C.2.1 dX0_learn_68 (by decide) ?_
    exact q_iret C hRt hLk hW rfl (cSt S, cUs S, cLv S, cUn S, cAh S, upd (cMl S) c (nI k), upd (cSp S) c ((nI k) - ((cMl S) c)), cFe S, cUf S, cWr S, cNw S) ⟨(Eq.symm (by have hps : pStep S c k = nI k - cMl S c := (by unfold pStep; rw [if_neg c_9]); unfold pLearn; dsimp only; rw [hps, if_neg c_23, if_pos c_34])), (Eq.symm (by have hps : pStep S c k = nI k - cMl S c := (by unfold pStep; rw [if_neg c_9]); unfold pLearn; dsimp only; rw [hps]))⟩  rfl (Nat.le_of_ble_eq_true rfl) (Nat.le_of_ble_eq_true rfl) dX0_learn_72
  refine lv_iconst (v := nI 0) C.1 C.2.1 dX0_learn_12 (by decide) ?_
  refine lv_goto (tgt := 19) C.1 C.2.1 dX0_learn_13 (by decide) ?_
  refine lv_istore (lv' := [(4, .int (nI 0)), (3, .int ((cMl S) c)), (0, .ref h), (1, .int (nI c)), (2, .int (nI k))]) C.1 C.2.1 dX0_learn_19 hl (by decide) rfl (fun ls hl => ?_)
  refine lv_iload C.1 C.2.1 dX0_learn_21 (lv_at hl 0 rfl) ?_
  refine q_zeq (tgt := 41) C (by omega) dX0_learn_23 (by decide) (fun c_23 => ?_) (fun c_23 => absurd c_23 (by decide))
  refine lv_iconst (v := nI 0) C.1 C.2.1 dX0_learn_41 (by decide) ?_
  refine lv_istore (lv' := [(5, .int (nI 0)), (4, .int (nI 0)), (3, .int ((cMl S) c)), (0, .ref h), (1, .int (nI c)), (2, .int (nI k))]) C.1 C.2.1 dX0_learn_42 hl (by decide) rfl (fun ls hl => ?_)
  refine lv_aload_n C.1 C.2.1 dX0_learn_44 rfl (lv_at hl 3 rfl) ?_
  refine q_get (v := .ref (a 5)) C hW 0 rfl rfl 5 (by decide) gu_X0 (C.2.2.2.2 _ fl_X0_29) rfl rfl dX0_learn_45 ?_
  refine lv_iload_n C.1 C.2.1 dX0_learn_48 rfl (lv_at hl 4 rfl) ?_
  refine lv_iload_n C.1 C.2.1 dX0_learn_49 rfl (lv_at hl 5 rfl) ?_
  refine q_iast C hW 6 rfl (k := c) (by omega) (by decide) (wC g h a (cSt S, cUs S, cLv S, cUn S, cAh S, upd (cMl S) c (nI k), cSp S, cFe S, cUf S, cWr S, cNw S)) rfl dX0_learn_50 (fun H locs hW => ?_)
  refine lv_aload_n C.1 C.2.1 dX0_learn_51 rfl (lv_at hl 3 rfl) ?_
  refine q_get (v := .ref (a 6)) C hW 0 rfl rfl 6 (by decide) gu_X0 (C.2.2.2.2 _ fl_X0_32) rfl rfl dX0_learn_52 ?_
  refine lv_iload_n C.1 C.2.1 dX0_learn_55 rfl (lv_at hl 4 rfl) ?_
  refine lv_iload C.1 C.2.1 dX0_learn_56 (lv_at hl 1 rfl) ?_
  refine q_iast C hW 7 rfl (k := c) (by omega) (by decide) (wC g h a (cSt S, cUs S, cLv S, cUn S, cAh S, upd (cMl S) c (nI k), upd (cSp S) c (nI 0), cFe S, cUf S, cWr S, cNw S)) rfl dX0_learn_58 (fun H locs hW => ?_)
  refine lv_iload C.1 C.2.1 dX0_learn_59 (lv_at hl 0 rfl) ?_
  refine q_zeq (tgt := 71) C (by omega) dX0_learn_61 (by decide) (fun c_61 => ?_) (fun c_61 => absurd c_61 (by decide))
  refine lv_iconst (v := (-1)) C.1 C.2.1 dX0_learn_71 (by decide) ?_
  exact q_iret C hRt hLk hW rfl (cSt S, cUs S, cLv S, cUn S, cAh S, upd (cMl S) c (nI k), upd (cSp S) c (nI 0), cFe S, cUf S, cWr S, cNw S) ⟨(Eq.symm (by have hps : pStep S c k = nI 0 := (by unfold pStep; rw [if_pos c_9]); unfold pLearn; dsimp only; rw [hps, if_pos nI_0])), (Eq.symm (by have hps : pStep S c k = nI 0 := (by unfold pStep; rw [if_pos c_9]); unfold pLearn; dsimp only; rw [hps]))⟩  rfl (Nat.le_of_ble_eq_true rfl) (Nat.le_of_ble_eq_true rfl) dX0_learn_72

theorem hd_X0_canFetch : yX0_canFetch.cls = RX0 ∧ yX0_canFetch.cls ≠ "java/lang/invoke/MethodHandle" ∧ yX0_canFetch.cls ≠ "java/lang/invoke/VarHandle" ∧ (parseMethodDescriptor yX0_canFetch.desc).map (fun d => d.parameters.length) = some 2 := by decide +kernel
set_option maxHeartbeats 4000000 in
set_option maxRecDepth 100000 in
theorem c_X0_canFetch (l : Launch) (D : va_G) (g : Nat → ClassId) (h : Nat) (a : Nat → Nat) (S : CS) (c : Nat) (v : Int32) (hc : c < 4) (sz : Nat) : qMi l yX0_canFetch (.code yX0_canFetch cX0_canFetch 3 (some .boolean) :: GW) ({ frames := 1, cells := 0, slots := 0, locals := 23 } : Room) D g [.ref h, .int (nI c), .int v] (wC g h a S) sz (fun (r : Int32) (u : CS) => bI (pCan S c v) = r ∧ S = u) (fun (u : CS) => (wC g h a u)) 0 0 := by
  refine q_entry (cc := cX0_canFetch) (nL := 3) (ret := (some .boolean)) rfl (by decide) (Nat.le_of_ble_eq_true rfl) (fun pp ee ss mm bb mt kc ls C hRt hLk hin hsz hW hl => ?_)
  have hl : lv_has ls 3 [(0, .ref h), (1, .int (nI c)), (2, .int v)] := hl
  refine lv_iload_n C.1 C.2.1 dX0_canFetch_0 rfl (lv_at hl 2 rfl) ?_
  refine lv_if_lt (tgt := 39) C.1 C.2.1 dX0_canFetch_1 (by decide) (fun c_1 => ?_) (fun c_1 => ?_)
  · refine lv_iconst (v := nI 0) C.1 C.2.1 dX0_canFetch_39 (by decide) ?_
    exact q_iret C hRt hLk hW (by decide) S ⟨(Eq.symm (by unfold pCan ln64; rw [if_pos c_1]; rfl)), rfl⟩  rfl (Nat.le_of_ble_eq_true rfl) (Nat.le_of_ble_eq_true rfl) dX0_canFetch_40
  refine lv_iload_n C.1 C.2.1 dX0_canFetch_4 rfl (lv_at hl 2 rfl) ?_
  refine lv_bipush (v := nI 64) C.1 C.2.1 dX0_canFetch_5 (by decide) ?_
  refine lv_icmp_ge (tgt := 39) C.1 C.2.1 dX0_canFetch_7 (by decide) (fun c_7 => ?_) (fun c_7 => ?_)
  · refine lv_iconst (v := nI 0) C.1 C.2.1 dX0_canFetch_39 (by decide) ?_
    exact q_iret C hRt hLk hW (by decide) S ⟨(Eq.symm (by unfold pCan ln64; rw [if_neg c_1, if_pos c_7]; rfl)), rfl⟩  rfl (Nat.le_of_ble_eq_true rfl) (Nat.le_of_ble_eq_true rfl) dX0_canFetch_40
  obtain ⟨j, hj4, rfl⟩ := i_in (by decide) c_1 c_7
  refine lv_aload_n C.1 C.2.1 dX0_canFetch_10 rfl (lv_at hl 0 rfl) ?_
  refine q_get (v := .ref (a 0)) C hW 0 rfl rfl 0 (by decide) gu_X0 (C.2.2.2.2 _ fl_X0_11) rfl rfl dX0_canFetch_11 ?_
  refine lv_iload_n C.1 C.2.1 dX0_canFetch_14 rfl (lv_at hl 1 rfl) ?_
  refine lv_bipush (v := nI 64) C.1 C.2.1 dX0_canFetch_15 (by decide) ?_
  refine q_imul C dX0_canFetch_17 ?_
  refine lv_iload_n C.1 C.2.1 dX0_canFetch_18 rfl (lv_at hl 2 rfl) ?_
  refine q_iadd C dX0_canFetch_19 ?_
  refine q_caldC (f := cSt S) C hW 1 rfl (k := c * 64 + j) (by omega) (by decide) dX0_canFetch_20 ?_
  refine lv_bipush (v := nI 45) C.1 C.2.1 dX0_canFetch_21 (by decide) ?_
  refine q_cne (tgt := 39) (y := 45) C (by decide) dX0_canFetch_23 (by decide) (fun c_23 => ?_) (fun c_23 => ?_)
  · refine lv_iconst (v := nI 0) C.1 C.2.1 dX0_canFetch_39 (by decide) ?_
    exact q_iret C hRt hLk hW (by decide) S ⟨(Eq.symm (by unfold pCan; rw [ln64_nI hj4]; dsimp only; rw [decide_eq_false c_23]; rfl)), rfl⟩  rfl (Nat.le_of_ble_eq_true rfl) (Nat.le_of_ble_eq_true rfl) dX0_canFetch_40
  refine lv_aload_n C.1 C.2.1 dX0_canFetch_26 rfl (lv_at hl 0 rfl) ?_
  refine lv_iload_n C.1 C.2.1 dX0_canFetch_27 rfl (lv_at hl 2 rfl) ?_
  refine q_callVi (rest := []) C (c_X0_ownerOf l D g h a S j (by omega) _) (gw_V ml_X0_55 im_X0_ownerOf se_X0_X0_ownerOf ini_X0 cd_X0_ownerOf rfl) rfl rfl rfl hd_X0_ownerOf ⟨Nat.le_of_ble_eq_true rfl, Nat.le_of_ble_eq_true rfl⟩ hW pm_all (fun u_1 => (wC g h a u_1)) (fun _ => pm_all) rfl rfl hl.1 rfl (Nat.le_of_ble_eq_true rfl) ⟨Nat.le_of_ble_eq_true rfl, Nat.le_of_ble_eq_true rfl⟩ dX0_canFetch_28 (fun r_1 u_1 H locs e_1 hW => ?_)
  obtain ⟨rfl, rfl⟩ := e_1
  refine q_osplit (fun ho => ?_) (fun j2 ho => ?_)
  · refine lv_iconst (v := (-1)) C.1 C.2.1 dX0_canFetch_31 (by decide) ?_
    refine lv_icmp_ne (tgt := 39) C.1 C.2.1 dX0_canFetch_32 (by decide) (fun c_32 => absurd rfl c_32) (fun c_32 => ?_)
    refine lv_iconst (v := nI 1) C.1 C.2.1 dX0_canFetch_35 (by decide) ?_
    refine lv_goto (tgt := 40) C.1 C.2.1 dX0_canFetch_36 (by decide) ?_
    exact q_iret C hRt hLk hW (by decide) S ⟨(Eq.symm (by unfold pCan; rw [ln64_nI hj4]; dsimp only; rw [decide_eq_true c_23, ho]; rfl)), rfl⟩  rfl (Nat.le_of_ble_eq_true rfl) (Nat.le_of_ble_eq_true rfl) dX0_canFetch_40
  have hj5 := (srch_spec ho).1
  refine lv_iconst (v := (-1)) C.1 C.2.1 dX0_canFetch_31 (by decide) ?_
  refine lv_icmp_ne (tgt := 39) C.1 C.2.1 dX0_canFetch_32 (by decide) (fun c_32 => ?_) (fun c_32 => absurd c_32 (nI_m1 (by omega)))
  refine lv_iconst (v := nI 0) C.1 C.2.1 dX0_canFetch_39 (by decide) ?_
  exact q_iret C hRt hLk hW (by decide) S ⟨(Eq.symm (by unfold pCan; rw [ln64_nI hj4]; dsimp only; rw [decide_eq_true c_23, ho]; rfl)), rfl⟩  rfl (Nat.le_of_ble_eq_true rfl) (Nat.le_of_ble_eq_true rfl) dX0_canFetch_40

theorem hd_X0_fetch : yX0_fetch.cls = RX0 ∧ yX0_fetch.cls ≠ "java/lang/invoke/MethodHandle" ∧ yX0_fetch.cls ≠ "java/lang/invoke/VarHandle" ∧ (parseMethodDescriptor yX0_fetch.desc).map (fun d => d.parameters.length) = some 2 := by decide +kernel
set_option maxHeartbeats 4000000 in
set_option maxRecDepth 100000 in
theorem c_X0_fetch (l : Launch) (D : va_G) (g : Nat → ClassId) (h : Nat) (a : Nat → Nat) (S : CS) (c : Nat) (k : Nat) (hc : c < 4) (hk : k < 64) (sz : Nat) : qMv l yX0_fetch (.code yX0_fetch cX0_fetch 3 none :: GW) ({ frames := 2, cells := 0, slots := 0, locals := 51 } : Room) D g [.ref h, .int (nI c), .int (nI k)] (wC g h a S) sz (fun (u : CS) => (pFetch S c k) = u) (fun (u : CS) => (wC g h a u)) 0 0 := by
  refine q_entry (cc := cX0_fetch) (nL := 3) (ret := none) rfl (by decide) (Nat.le_of_ble_eq_true rfl) (fun pp ee ss mm bb mt kc ls C hRt hLk hin hsz hW hl => ?_)
  have hl : lv_has ls 3 [(0, .ref h), (1, .int (nI c)), (2, .int (nI k))] := hl
  refine lv_aload_n C.1 C.2.1 dX0_fetch_0 rfl (lv_at hl 0 rfl) ?_
  refine lv_iload_n C.1 C.2.1 dX0_fetch_1 rfl (lv_at hl 1 rfl) ?_
  refine lv_iload_n C.1 C.2.1 dX0_fetch_2 rfl (lv_at hl 2 rfl) ?_
  refine q_callVi (rest := []) C (c_X0_makeRoom l D g h a S c k (by omega) (by omega) _) (gw_V ml_X0_66 im_X0_makeRoom se_X0_X0_makeRoom ini_X0 cd_X0_makeRoom rfl) rfl rfl rfl hd_X0_makeRoom ⟨Nat.le_of_ble_eq_true rfl, Nat.le_of_ble_eq_true rfl⟩ hW pm_all (fun u_1 => (wC g h a u_1)) (fun _ => pm_all) rfl rfl hl.1 rfl (Nat.le_of_ble_eq_true rfl) ⟨Nat.le_of_ble_eq_true rfl, Nat.le_of_ble_eq_true rfl⟩ dX0_fetch_3 (fun r_1 u_1 H locs e_1 hW => ?_)
  obtain ⟨rfl, e_1⟩ := e_1
  refine lv_pop C.1 C.2.1 dX0_fetch_6 rfl ?_
  refine lv_aload_n C.1 C.2.1 dX0_fetch_7 rfl (lv_at hl 0 rfl) ?_
  refine lv_iload_n C.1 C.2.1 dX0_fetch_8 rfl (lv_at hl 1 rfl) ?_
  refine lv_iload_n C.1 C.2.1 dX0_fetch_9 rfl (lv_at hl 2 rfl) ?_
  refine q_callVv (rest := []) C (c_X0_bring l D g h a u_1 c k (by omega) (by omega) _) (gw_V ml_X0_74 im_X0_bring se_X0_X0_bring ini_X0 cd_X0_bring rfl) rfl rfl rfl hd_X0_bring ⟨Nat.le_of_ble_eq_true rfl, Nat.le_of_ble_eq_true rfl⟩ hW pm_all (fun u_2 => (wC g h a u_2)) (fun _ => pm_all) rfl rfl hl.1 rfl (Nat.le_of_ble_eq_true rfl) ⟨Nat.le_of_ble_eq_true rfl, Nat.le_of_ble_eq_true rfl⟩ dX0_fetch_10 (fun u_2 H locs e_2 hW => ?_)
  skip
  refine lv_aload_n C.1 C.2.1 dX0_fetch_13 rfl (lv_at hl 0 rfl) ?_
  refine q_get (v := .ref (a 3)) C hW 0 rfl rfl 3 (by decide) gu_X0 (C.2.2.2.2 _ fl_X0_22) rfl rfl dX0_fetch_14 ?_
  refine lv_iload_n C.1 C.2.1 dX0_fetch_17 rfl (lv_at hl 1 rfl) ?_
  refine lv_bipush (v := nI 64) C.1 C.2.1 dX0_fetch_18 (by decide) ?_
  refine q_imul C dX0_fetch_20 ?_
  refine lv_iload_n C.1 C.2.1 dX0_fetch_21 rfl (lv_at hl 2 rfl) ?_
  refine q_iadd C dX0_fetch_22 ?_
  refine lv_iconst (v := nI 1) C.1 C.2.1 dX0_fetch_23 (by decide) ?_
  refine q_zastB C hW 4 rfl (k := c * 64 + k) (by omega) (by decide) (v := true) (wC g h a (cSt u_2, cUs u_2, cLv u_2, va_up (cUn u_2) (c * 64 + k) true, cAh u_2, cMl u_2, cSp u_2, cFe u_2, cUf u_2, cWr u_2, cNw u_2)) rfl dX0_fetch_24 (fun H locs hW => ?_)
  refine lv_aload_n C.1 C.2.1 dX0_fetch_25 rfl (lv_at hl 0 rfl) ?_
  refine q_get (v := .ref (a 7)) C hW 0 rfl rfl 7 (by decide) gu_X0 (C.2.2.2.2 _ fl_X0_35) rfl rfl dX0_fetch_26 ?_
  refine lv_iload_n C.1 C.2.1 dX0_fetch_29 rfl (lv_at hl 1 rfl) ?_
  refine lv_dup2_11 C.1 C.2.1 dX0_fetch_30 rfl rfl ?_
  refine q_iald (f := cFe u_2) C hW 8 rfl (k := c) (by omega) (by decide) dX0_fetch_31 ?_
  refine lv_iconst (v := nI 1) C.1 C.2.1 dX0_fetch_32 (by decide) ?_
  refine lv_iadd C.1 C.2.1 dX0_fetch_33 ?_
  refine q_iast C hW 8 rfl (k := c) (by omega) (by decide) (wC g h a (cSt u_2, cUs u_2, cLv u_2, va_up (cUn u_2) (c * 64 + k) true, cAh u_2, cMl u_2, cSp u_2, upd (cFe u_2) c (((cFe u_2) c) + (nI 1)), cUf u_2, cWr u_2, cNw u_2)) rfl dX0_fetch_34 (fun H locs hW => ?_)
  exact q_vret C hRt hLk hW (cSt u_2, cUs u_2, cLv u_2, va_up (cUn u_2) (c * 64 + k) true, cAh u_2, cMl u_2, cSp u_2, upd (cFe u_2) c (((cFe u_2) c) + (nI 1)), cUf u_2, cWr u_2, cNw u_2) (Eq.symm (by unfold pFetch; rw [e_1, e_2]))  rfl (Nat.le_of_ble_eq_true rfl) (Nat.le_of_ble_eq_true rfl) dX0_fetch_35
