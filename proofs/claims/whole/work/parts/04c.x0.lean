theorem hd_X0_clear : yX0_clear.cls = RX0 ∧ yX0_clear.cls ≠ "java/lang/invoke/MethodHandle" ∧ yX0_clear.cls ≠ "java/lang/invoke/VarHandle" ∧ (parseMethodDescriptor yX0_clear.desc).map (fun d => d.parameters.length) = some 0 := by decide +kernel
set_option maxHeartbeats 4000000 in
set_option maxRecDepth 100000 in
theorem c_X0_clear (l : Launch) (D : va_G) (g : Nat → ClassId) (h : Nat) (a : Nat → Nat) (S : CS) (sz : Nat) : qMv l yX0_clear (.code yX0_clear cX0_clear 2 none :: GW) ({ frames := 1, cells := 0, slots := 0, locals := 22 } : Room) D g [.ref h] (wC g h a S) sz (fun (u : CS) => pInit = u) (fun (u : CS) => (wC g h a u)) 0 0 := by
  refine q_entry (cc := cX0_clear) (nL := 2) (ret := none) rfl (by decide) (Nat.le_of_ble_eq_true rfl) (fun pp ee ss mm bb mt kc ls C hRt hLk hin hsz hW hl => ?_)
  have hl : lv_has ls 2 [(0, .ref h)] := hl
  refine lv_iconst (v := nI 0) C.1 C.2.1 dX0_clear_0 (by decide) ?_
  refine lv_istore_n (lv' := [(1, .int (nI 0)), (0, .ref h)]) C.1 C.2.1 dX0_clear_1 rfl hl (by decide) rfl (fun ls hl => ?_)
  have L_2 : ∀ (nf : Nat) (i : Nat) (hi : i ≤ 256) (x1 : Int32) (e1 : x1 = nI i) (S2 : CS) (eS2 : S2 = (clr (cSt S) (UInt16.ofNat 45) i, clr (cUs S) (nI 0) i, clr (cLv S) (-2) i, clr (cUn S) false i, cAh S, cMl S, cSp S, cFe S, cUf S, cWr S, cNw S)) (hmu : 256 - i < nf) (ls : Array Slot) (H : Heap) (locs : List Loc), lv_has ls 2 [(0, .ref h), (1, .int x1)] → qW D g (va_A (wC g h a S) sz) ss.heap ss (wC g h a S2) H locs → W pp l ee ({ frames := 1, cells := 0, slots := 0, locals := 22 } : Room) ss mm [.ref h].toArray bb mt kc H locs 0 0 (MQ bb (va_Qv (fun (u : CS) => pInit = u) (qB D g (wC g h a S) sz (fun (u : CS) => (wC g h a u))) (va_A (wC g h a S) sz)) [.ref h].toArray ss 0 0 (va_A (wC g h a S) sz)) (F0 mm 2 ls []) := by
    intro nf
    induction nf with
    | zero =>
      intro i hi x1 e1 S2 eS2 hmu ls H locs hl hW
      exact absurd hmu (by omega)
    | succ nf ih =>
      intro i hi x1 e1 S2 eS2 hmu ls H locs hl hW
      subst e1
      subst eS2
      refine lv_iload_n C.1 C.2.1 dX0_clear_2 rfl (lv_at hl 1 rfl) ?_
      refine lv_sipush (v := nI 256) C.1 C.2.1 dX0_clear_3 (by decide) ?_
      refine q_ge (tgt := 45) C (by omega) (by omega) dX0_clear_6 (by decide) (fun c_6 => ?_) (fun c_6 => ?_)
      · refine lv_iconst (v := nI 0) C.1 C.2.1 dX0_clear_45 (by decide) ?_
        refine lv_istore_n (lv' := [(1, .int (nI 0)), (0, .ref h)]) C.1 C.2.1 dX0_clear_46 rfl hl (by decide) rfl (fun ls hl => ?_)
        have L_47 : ∀ (nf : Nat) (i : Nat) (hi : i ≤ 4) (x1 : Int32) (e1 : x1 = nI i) (S2 : CS) (eS2 : S2 = (clr (cSt S) (UInt16.ofNat 45) 256, clr (cUs S) (nI 0) 256, clr (cLv S) (-2) 256, clr (cUn S) false 256, clr (cAh S) false i, clr (cMl S) (-1) i, clr (cSp S) (nI 0) i, clr (cFe S) (nI 0) i, clr (cUf S) (nI 0) i, clr (cWr S) (nI 0) i, cNw S)) (hmu : 4 - i < nf) (ls : Array Slot) (H : Heap) (locs : List Loc), lv_has ls 2 [(0, .ref h), (1, .int x1)] → qW D g (va_A (wC g h a S) sz) ss.heap ss (wC g h a S2) H locs → W pp l ee ({ frames := 1, cells := 0, slots := 0, locals := 22 } : Room) ss mm [.ref h].toArray bb mt kc H locs 0 0 (MQ bb (va_Qv (fun (u : CS) => pInit = u) (qB D g (wC g h a S) sz (fun (u : CS) => (wC g h a u))) (va_A (wC g h a S) sz)) [.ref h].toArray ss 0 0 (va_A (wC g h a S) sz)) (F0 mm 47 ls []) := by
          intro nf
          induction nf with
          | zero =>
            intro i hi x1 e1 S2 eS2 hmu ls H locs hl hW
            exact absurd hmu (by omega)
          | succ nf ih =>
            intro i hi x1 e1 S2 eS2 hmu ls H locs hl hW
            subst e1
            subst eS2
            refine lv_iload_n C.1 C.2.1 dX0_clear_47 rfl (lv_at hl 1 rfl) ?_
            refine lv_iconst (v := nI 4) C.1 C.2.1 dX0_clear_48 (by decide) ?_
            refine q_ge (tgt := 85) C (by omega) (by omega) dX0_clear_49 (by decide) (fun c_49 => ?_) (fun c_49 => ?_)
            · refine lv_aload_n C.1 C.2.1 dX0_clear_85 rfl (lv_at hl 0 rfl) ?_
              refine lv_iconst (v := nI 0) C.1 C.2.1 dX0_clear_86 (by decide) ?_
              refine q_put C hW 0 rfl rfl 10 (by decide) gu_X0 tyX0_ok nmX0 (C.2.2.2.2 _ fl_X0_44) rfl rfl rfl rfl (Nat.le_of_ble_eq_true rfl) (wC g h a (clr (cSt S) (UInt16.ofNat 45) 256, clr (cUs S) (nI 0) 256, clr (cLv S) (-2) 256, clr (cUn S) false 256, clr (cAh S) false i, clr (cMl S) (-1) i, clr (cSp S) (nI 0) i, clr (cFe S) (nI 0) i, clr (cUf S) (nI 0) i, clr (cWr S) (nI 0) i, nI 0)) rfl dX0_clear_87 (fun H locs hW => ?_)
              obtain rfl : i = 4 := (by omega)
              have hW : qW D g (va_A (wC g h a S) sz) ss.heap ss (wC g h a pInit) H locs := hW.eqv (wC_eqv (fun j hj => if_pos hj) (fun j hj => if_pos hj) (fun j hj => if_pos hj) (fun j hj => if_pos hj) (fun j hj => if_pos hj) (fun j hj => if_pos hj) (fun j hj => if_pos hj) (fun j hj => if_pos hj) (fun j hj => if_pos hj) (fun j hj => if_pos hj) rfl)
              exact q_vret C hRt hLk hW pInit rfl  rfl (Nat.le_of_ble_eq_true rfl) (Nat.le_of_ble_eq_true rfl) dX0_clear_90
            refine lv_aload_n C.1 C.2.1 dX0_clear_52 rfl (lv_at hl 0 rfl) ?_
            refine lv_iload_n C.1 C.2.1 dX0_clear_53 rfl (lv_at hl 1 rfl) ?_
            refine lv_iconst (v := nI 0) C.1 C.2.1 dX0_clear_54 (by decide) ?_
            refine q_callVv (rest := []) C (c_X0_tellAhead l D g h a (clr (cSt S) (UInt16.ofNat 45) 256, clr (cUs S) (nI 0) 256, clr (cLv S) (-2) 256, clr (cUn S) false 256, clr (cAh S) false i, clr (cMl S) (-1) i, clr (cSp S) (nI 0) i, clr (cFe S) (nI 0) i, clr (cUf S) (nI 0) i, clr (cWr S) (nI 0) i, cNw S) i false (by omega) _) (gw_V ml_X0_51 im_X0_tellAhead se_X0_X0_tellAhead ini_X0 cd_X0_tellAhead rfl) rfl rfl rfl hd_X0_tellAhead ⟨Nat.le_of_ble_eq_true rfl, Nat.le_of_ble_eq_true rfl⟩ hW pm_all (fun u_1 => (wC g h a u_1)) (fun _ => pm_all) rfl rfl hl.1 rfl (Nat.le_of_ble_eq_true rfl) ⟨Nat.le_of_ble_eq_true rfl, Nat.le_of_ble_eq_true rfl⟩ dX0_clear_55 (fun u_1 H locs e_1 hW => ?_)
            skip
            refine lv_aload_n C.1 C.2.1 dX0_clear_58 rfl (lv_at hl 0 rfl) ?_
            refine q_get (v := .ref (a 7)) C hW 0 rfl rfl 7 (by decide) gu_X0 (C.2.2.2.2 _ fl_X0_35) rfl rfl dX0_clear_59 ?_
            refine lv_iload_n C.1 C.2.1 dX0_clear_62 rfl (lv_at hl 1 rfl) ?_
            refine lv_iconst (v := nI 0) C.1 C.2.1 dX0_clear_63 (by decide) ?_
            refine q_iast C hW 8 rfl (k := i) (by omega) (by decide) (wC g h a (cSt u_1, cUs u_1, cLv u_1, cUn u_1, cAh u_1, cMl u_1, cSp u_1, upd (cFe u_1) i (nI 0), cUf u_1, cWr u_1, cNw u_1)) rfl dX0_clear_64 (fun H locs hW => ?_)
            refine lv_aload_n C.1 C.2.1 dX0_clear_65 rfl (lv_at hl 0 rfl) ?_
            refine q_get (v := .ref (a 8)) C hW 0 rfl rfl 8 (by decide) gu_X0 (C.2.2.2.2 _ fl_X0_38) rfl rfl dX0_clear_66 ?_
            refine lv_iload_n C.1 C.2.1 dX0_clear_69 rfl (lv_at hl 1 rfl) ?_
            refine lv_iconst (v := nI 0) C.1 C.2.1 dX0_clear_70 (by decide) ?_
            refine q_iast C hW 9 rfl (k := i) (by omega) (by decide) (wC g h a (cSt u_1, cUs u_1, cLv u_1, cUn u_1, cAh u_1, cMl u_1, cSp u_1, upd (cFe u_1) i (nI 0), upd (cUf u_1) i (nI 0), cWr u_1, cNw u_1)) rfl dX0_clear_71 (fun H locs hW => ?_)
            refine lv_aload_n C.1 C.2.1 dX0_clear_72 rfl (lv_at hl 0 rfl) ?_
            refine q_get (v := .ref (a 9)) C hW 0 rfl rfl 9 (by decide) gu_X0 (C.2.2.2.2 _ fl_X0_41) rfl rfl dX0_clear_73 ?_
            refine lv_iload_n C.1 C.2.1 dX0_clear_76 rfl (lv_at hl 1 rfl) ?_
            refine lv_iconst (v := nI 0) C.1 C.2.1 dX0_clear_77 (by decide) ?_
            refine q_iast C hW 10 rfl (k := i) (by omega) (by decide) (wC g h a (cSt u_1, cUs u_1, cLv u_1, cUn u_1, cAh u_1, cMl u_1, cSp u_1, upd (cFe u_1) i (nI 0), upd (cUf u_1) i (nI 0), upd (cWr u_1) i (nI 0), cNw u_1)) rfl dX0_clear_78 (fun H locs hW => ?_)
            refine q_iinc (d := 1) (lv' := [(1, .int (nI (i + 1))), (0, .ref h)]) C dX0_clear_79 (by decide) hl (k := 1) rfl (by decide) rfl (fun ls hl => ?_)
            refine lv_goto (tgt := 47) C.1 C.2.1 dX0_clear_82 (by decide) ?_
            exact ih (i + 1) (by omega) _ rfl (cSt u_1, cUs u_1, cLv u_1, cUn u_1, cAh u_1, cMl u_1, cSp u_1, upd (cFe u_1) i (nI 0), upd (cUf u_1) i (nI 0), upd (cWr u_1) i (nI 0), cNw u_1) (by rw [← e_1]; unfold pTell; rw [clr_s _ _ i, clr_s _ _ i, clr_s _ _ i, clr_s _ _ i, clr_s _ _ i, clr_s _ _ i]; rfl) (by omega) ls _ _ (lv_sub hl [1, 0] rfl) hW
        exact L_47 (4 - 0 + 1) 0 (by omega) _ rfl (clr (cSt S) (UInt16.ofNat 45) i, clr (cUs S) (nI 0) i, clr (cLv S) (-2) i, clr (cUn S) false i, cAh S, cMl S, cSp S, cFe S, cUf S, cWr S, cNw S) (by obtain rfl : i = 256 := (by omega); rw [clr_0, clr_0, clr_0, clr_0, clr_0, clr_0]) (by omega) ls _ _ (lv_sub hl [1, 0] rfl) hW
      refine lv_aload_n C.1 C.2.1 dX0_clear_9 rfl (lv_at hl 0 rfl) ?_
      refine q_get (v := .ref (a 0)) C hW 0 rfl rfl 0 (by decide) gu_X0 (C.2.2.2.2 _ fl_X0_11) rfl rfl dX0_clear_10 ?_
      refine lv_iload_n C.1 C.2.1 dX0_clear_13 rfl (lv_at hl 1 rfl) ?_
      refine lv_bipush (v := nI 45) C.1 C.2.1 dX0_clear_14 (by decide) ?_
      refine q_castC C hW 1 rfl (k := i) (by omega) (by decide) (v := (UInt16.ofNat 45)) (wC g h a (va_up (clr (cSt S) (UInt16.ofNat 45) i) i (UInt16.ofNat 45), clr (cUs S) (nI 0) i, clr (cLv S) (-2) i, clr (cUn S) false i, cAh S, cMl S, cSp S, cFe S, cUf S, cWr S, cNw S)) rfl dX0_clear_16 (fun H locs hW => ?_)
      refine lv_aload_n C.1 C.2.1 dX0_clear_17 rfl (lv_at hl 0 rfl) ?_
      refine q_get (v := .ref (a 1)) C hW 0 rfl rfl 1 (by decide) gu_X0 (C.2.2.2.2 _ fl_X0_15) rfl rfl dX0_clear_18 ?_
      refine lv_iload_n C.1 C.2.1 dX0_clear_21 rfl (lv_at hl 1 rfl) ?_
      refine lv_iconst (v := nI 0) C.1 C.2.1 dX0_clear_22 (by decide) ?_
      refine q_iast C hW 2 rfl (k := i) (by omega) (by decide) (wC g h a (va_up (clr (cSt S) (UInt16.ofNat 45) i) i (UInt16.ofNat 45), upd (clr (cUs S) (nI 0) i) i (nI 0), clr (cLv S) (-2) i, clr (cUn S) false i, cAh S, cMl S, cSp S, cFe S, cUf S, cWr S, cNw S)) rfl dX0_clear_23 (fun H locs hW => ?_)
      refine lv_aload_n C.1 C.2.1 dX0_clear_24 rfl (lv_at hl 0 rfl) ?_
      refine q_get (v := .ref (a 2)) C hW 0 rfl rfl 2 (by decide) gu_X0 (C.2.2.2.2 _ fl_X0_19) rfl rfl dX0_clear_25 ?_
      refine lv_iload_n C.1 C.2.1 dX0_clear_28 rfl (lv_at hl 1 rfl) ?_
      refine lv_bipush (v := (-2)) C.1 C.2.1 dX0_clear_29 (by decide) ?_
      refine q_iast C hW 3 rfl (k := i) (by omega) (by decide) (wC g h a (va_up (clr (cSt S) (UInt16.ofNat 45) i) i (UInt16.ofNat 45), upd (clr (cUs S) (nI 0) i) i (nI 0), upd (clr (cLv S) (-2) i) i (-2), clr (cUn S) false i, cAh S, cMl S, cSp S, cFe S, cUf S, cWr S, cNw S)) rfl dX0_clear_31 (fun H locs hW => ?_)
      refine lv_aload_n C.1 C.2.1 dX0_clear_32 rfl (lv_at hl 0 rfl) ?_
      refine q_get (v := .ref (a 3)) C hW 0 rfl rfl 3 (by decide) gu_X0 (C.2.2.2.2 _ fl_X0_22) rfl rfl dX0_clear_33 ?_
      refine lv_iload_n C.1 C.2.1 dX0_clear_36 rfl (lv_at hl 1 rfl) ?_
      refine lv_iconst (v := nI 0) C.1 C.2.1 dX0_clear_37 (by decide) ?_
      refine q_zastB C hW 4 rfl (k := i) (by omega) (by decide) (v := false) (wC g h a (va_up (clr (cSt S) (UInt16.ofNat 45) i) i (UInt16.ofNat 45), upd (clr (cUs S) (nI 0) i) i (nI 0), upd (clr (cLv S) (-2) i) i (-2), va_up (clr (cUn S) false i) i false, cAh S, cMl S, cSp S, cFe S, cUf S, cWr S, cNw S)) rfl dX0_clear_38 (fun H locs hW => ?_)
      refine q_iinc (d := 1) (lv' := [(1, .int (nI (i + 1))), (0, .ref h)]) C dX0_clear_39 (by decide) hl (k := 1) rfl (by decide) rfl (fun ls hl => ?_)
      refine lv_goto (tgt := 2) C.1 C.2.1 dX0_clear_42 (by decide) ?_
      exact ih (i + 1) (by omega) _ rfl (va_up (clr (cSt S) (UInt16.ofNat 45) i) i (UInt16.ofNat 45), upd (clr (cUs S) (nI 0) i) i (nI 0), upd (clr (cLv S) (-2) i) i (-2), va_up (clr (cUn S) false i) i false, cAh S, cMl S, cSp S, cFe S, cUf S, cWr S, cNw S) (by rw [clr_s _ _ i, clr_s _ _ i, clr_s _ _ i, clr_s _ _ i]; rfl) (by omega) ls _ _ (lv_sub hl [1, 0] rfl) hW
  exact L_2 (256 - 0 + 1) 0 (by omega) _ rfl S (by rw [clr_0, clr_0, clr_0, clr_0]) (by omega) ls _ _ (lv_sub hl [1, 0] rfl) hW

theorem hd_X0_makeAccess : yX0_makeAccess.cls = RX0 ∧ yX0_makeAccess.cls ≠ "java/lang/invoke/MethodHandle" ∧ yX0_makeAccess.cls ≠ "java/lang/invoke/VarHandle" ∧ (parseMethodDescriptor yX0_makeAccess.desc).map (fun d => d.parameters.length) = some 4 := by decide +kernel
set_option maxHeartbeats 4000000 in
set_option maxRecDepth 100000 in
theorem c_X0_makeAccess (l : Launch) (D : va_G) (g : Nat → ClassId) (h : Nat) (a : Nat → Nat) (S : CS) (c : Nat) (v : Int32) (k : Nat) (wb : Bool) (hc : c < 4) (hk : k < 64) (sz : Nat) : qMi l yX0_makeAccess (.code yX0_makeAccess cX0_makeAccess 9 (some .int) :: GW) ({ frames := 3, cells := 0, slots := 0, locals := 73 } : Room) D g [.ref h, .int (nI c), .int v, .int (nI k), .int (bI wb)] (wC g h a S) sz (fun (r : Int32) (u : CS) => nI ((pMA S c v k wb).1) = r ∧ ((pMA S c v k wb).2) = u) (fun (u : CS) => (wC g h a u)) 0 0 := by
  refine q_entry (cc := cX0_makeAccess) (nL := 9) (ret := (some .int)) rfl (by decide) (Nat.le_of_ble_eq_true rfl) (fun pp ee ss mm bb mt kc ls C hRt hLk hin hsz hW hl => ?_)
  have hl : lv_has ls 9 [(0, .ref h), (1, .int (nI c)), (2, .int v), (3, .int (nI k)), (4, .int (bI wb))] := hl
  have L_143 : ∀ (S5 : CS) (eS5 : S5 = (pMA S c v k wb).2) (ls : Array Slot) (H : Heap) (locs : List Loc), lv_has ls 9 [(0, .ref h), (1, .int (nI c)), (2, .int v), (3, .int (nI k)), (4, .int (bI wb)), (5, .int (nI (c * 64 + k))), (6, .int (bI (decide (cSt S (c * 64 + k) = UInt16.ofNat 45)))), (7, .int (nI ((pMA1 S c k wb).1)))] → qW D g (va_A (wC g h a S) sz) ss.heap ss (wC g h a S5) H locs → W pp l ee ({ frames := 3, cells := 0, slots := 0, locals := 73 } : Room) ss mm [.ref h, .int (nI c), .int v, .int (nI k), .int (bI wb)].toArray bb mt kc H locs 0 0 (MQ bb (va_Qi (fun (r : Int32) (u : CS) => nI ((pMA S c v k wb).1) = r ∧ ((pMA S c v k wb).2) = u) (qB D g (wC g h a S) sz (fun (u : CS) => (wC g h a u))) (va_A (wC g h a S) sz)) [.ref h, .int (nI c), .int v, .int (nI k), .int (bI wb)].toArray ss 0 0 (va_A (wC g h a S) sz)) (F0 mm 143 ls []) := by
    intro S5 eS5 ls H locs hl hW
    refine lv_iload C.1 C.2.1 dX0_makeAccess_143 (lv_at hl 7 rfl) ?_
    exact q_iret C hRt hLk hW rfl S5 ⟨rfl, (Eq.symm eS5)⟩  rfl (Nat.le_of_ble_eq_true rfl) (Nat.le_of_ble_eq_true rfl) dX0_makeAccess_145
  have L_98 : ∀ (S4 : CS) (eS4 : S4 = pMA2 (pMA1 S c k wb).2 c v k wb) (ls : Array Slot) (H : Heap) (locs : List Loc), lv_has ls 9 [(0, .ref h), (1, .int (nI c)), (2, .int v), (3, .int (nI k)), (4, .int (bI wb)), (5, .int (nI (c * 64 + k))), (6, .int (bI (decide (cSt S (c * 64 + k) = UInt16.ofNat 45)))), (7, .int (nI ((pMA1 S c k wb).1)))] → qW D g (va_A (wC g h a S) sz) ss.heap ss (wC g h a S4) H locs → W pp l ee ({ frames := 3, cells := 0, slots := 0, locals := 73 } : Room) ss mm [.ref h, .int (nI c), .int v, .int (nI k), .int (bI wb)].toArray bb mt kc H locs 0 0 (MQ bb (va_Qi (fun (r : Int32) (u : CS) => nI ((pMA S c v k wb).1) = r ∧ ((pMA S c v k wb).2) = u) (qB D g (wC g h a S) sz (fun (u : CS) => (wC g h a u))) (va_A (wC g h a S) sz)) [.ref h, .int (nI c), .int v, .int (nI k), .int (bI wb)].toArray ss 0 0 (va_A (wC g h a S) sz)) (F0 mm 98 ls []) := by
    intro S4 eS4 ls H locs hl hW
    refine lv_aload_n C.1 C.2.1 dX0_makeAccess_98 rfl (lv_at hl 0 rfl) ?_
    refine lv_iload_n C.1 C.2.1 dX0_makeAccess_99 rfl (lv_at hl 1 rfl) ?_
    refine lv_iload_n C.1 C.2.1 dX0_makeAccess_100 rfl (lv_at hl 3 rfl) ?_
    refine q_callVv (rest := []) C (c_X0_use l D g h a S4 c k (by omega) (by omega) _) (gw_V ml_X0_82 im_X0_use se_X0_X0_use ini_X0 cd_X0_use rfl) rfl rfl rfl hd_X0_use ⟨Nat.le_of_ble_eq_true rfl, Nat.le_of_ble_eq_true rfl⟩ hW pm_all (fun u_1 => (wC g h a u_1)) (fun _ => pm_all) rfl rfl hl.1 rfl (Nat.le_of_ble_eq_true rfl) ⟨Nat.le_of_ble_eq_true rfl, Nat.le_of_ble_eq_true rfl⟩ dX0_makeAccess_101 (fun u_1 H locs e_1 hW => ?_)
    skip
    refine lv_iload C.1 C.2.1 dX0_makeAccess_104 (lv_at hl 6 rfl) ?_
    refine q_bt (b := decide (cSt S (c * 64 + k) = UInt16.ofNat 45)) (tgt := 143) C dX0_makeAccess_106 (by decide) (fun c_106 => ?_) (fun c_106 => ?_)
    · exact L_143  u_1 (by have hu : (pUse (pMA2 (pMA1 S c k wb).2 c v k wb) c k) = u_1 := (by rw [← eS4]; exact e_1); unfold pMA pMA3; dsimp only; rw [hu]; have hh : hasB S (c * 64 + k) = true := hasB_t (of_decide_eq_false c_106); rw [hh]; rw [if_pos (show (!true) = false from rfl)]) ls _ _ (lv_sub hl [0, 1, 2, 3, 4, 5, 6, 7] rfl) hW
    refine lv_aload_n C.1 C.2.1 dX0_makeAccess_109 rfl (lv_at hl 0 rfl) ?_
    refine q_get (v := .ref (a 4)) C hW 0 rfl rfl 4 (by decide) gu_X0 (C.2.2.2.2 _ fl_X0_26) rfl rfl dX0_makeAccess_110 ?_
    refine lv_iload_n C.1 C.2.1 dX0_makeAccess_113 rfl (lv_at hl 1 rfl) ?_
    refine q_zaldB (f := cAh u_1) C hW 5 rfl (k := c) (by omega) (by decide) dX0_makeAccess_114 ?_
    refine q_bt (b := (cAh u_1) c) (tgt := 143) C dX0_makeAccess_115 (by decide) (fun c_115 => ?_) (fun c_115 => ?_)
    · exact L_143  u_1 (by have hu : (pUse (pMA2 (pMA1 S c k wb).2 c v k wb) c k) = u_1 := (by rw [← eS4]; exact e_1); unfold pMA pMA3; dsimp only; rw [hu]; have hh : hasB S (c * 64 + k) = false := hasB_f (of_decide_eq_true c_106); rw [hh]; rw [if_neg (show ¬ (!false) = false from by decide)]; rw [if_pos c_115]) ls _ _ (lv_sub hl [0, 1, 2, 3, 4, 5, 6, 7] rfl) hW
    refine lv_aload_n C.1 C.2.1 dX0_makeAccess_118 rfl (lv_at hl 0 rfl) ?_
    refine lv_iload_n C.1 C.2.1 dX0_makeAccess_119 rfl (lv_at hl 1 rfl) ?_
    refine lv_iload_n C.1 C.2.1 dX0_makeAccess_120 rfl (lv_at hl 3 rfl) ?_
    refine q_callVi (rest := []) C (c_X0_learn l D g h a u_1 c k (by omega) (by omega) _) (gw_V ml_X0_85 im_X0_learn se_X0_X0_learn ini_X0 cd_X0_learn rfl) rfl rfl rfl hd_X0_learn ⟨Nat.le_of_ble_eq_true rfl, Nat.le_of_ble_eq_true rfl⟩ hW pm_all (fun u_2 => (wC g h a u_2)) (fun _ => pm_all) rfl rfl hl.1 rfl (Nat.le_of_ble_eq_true rfl) ⟨Nat.le_of_ble_eq_true rfl, Nat.le_of_ble_eq_true rfl⟩ dX0_makeAccess_121 (fun r_2 u_2 H locs e_2 hW => ?_)
    obtain ⟨rfl, e_2⟩ := e_2
    refine lv_istore (lv' := [(8, .int ((pLearn u_1 c k).1)), (0, .ref h), (1, .int (nI c)), (2, .int v), (3, .int (nI k)), (4, .int (bI wb)), (5, .int (nI (c * 64 + k))), (6, .int (bI (decide (cSt S (c * 64 + k) = UInt16.ofNat 45)))), (7, .int (nI ((pMA1 S c k wb).1)))]) C.1 C.2.1 dX0_makeAccess_124 hl (by decide) rfl (fun ls hl => ?_)
    refine lv_aload_n C.1 C.2.1 dX0_makeAccess_126 rfl (lv_at hl 1 rfl) ?_
    refine lv_iload_n C.1 C.2.1 dX0_makeAccess_127 rfl (lv_at hl 2 rfl) ?_
    refine lv_iload C.1 C.2.1 dX0_makeAccess_128 (lv_at hl 0 rfl) ?_
    refine q_callVi (rest := []) C (c_X0_canFetch l D g h a u_2 c ((pLearn u_1 c k).1) (by omega) _) (gw_V ml_X0_89 im_X0_canFetch se_X0_X0_canFetch ini_X0 cd_X0_canFetch rfl) rfl rfl rfl hd_X0_canFetch ⟨Nat.le_of_ble_eq_true rfl, Nat.le_of_ble_eq_true rfl⟩ hW pm_all (fun u_3 => (wC g h a u_3)) (fun _ => pm_all) rfl rfl hl.1 rfl (Nat.le_of_ble_eq_true rfl) ⟨Nat.le_of_ble_eq_true rfl, Nat.le_of_ble_eq_true rfl⟩ dX0_makeAccess_130 (fun r_3 u_3 H locs e_3 hW => ?_)
    obtain ⟨rfl, rfl⟩ := e_3
    refine q_bt (b := pCan u_2 c ((pLearn u_1 c k).1)) (tgt := 143) C dX0_makeAccess_133 (by decide) (fun c_133 => ?_) (fun c_133 => ?_)
    · exact L_143  u_2 (by have hu : (pUse (pMA2 (pMA1 S c k wb).2 c v k wb) c k) = u_1 := (by rw [← eS4]; exact e_1); unfold pMA pMA3; dsimp only; rw [hu]; have hh : hasB S (c * 64 + k) = false := hasB_f (of_decide_eq_true c_106); rw [hh]; rw [if_neg (show ¬ (!false) = false from by decide)]; rw [if_neg (by rw [c_115]; decide)]; rw [e_2]; split <;> first | rfl | rw [if_neg (by rw [c_133]; decide)]) ls _ _ (lv_sub hl [1, 2, 3, 4, 5, 6, 7, 8] rfl) hW
    obtain ⟨j, hj4, hj9⟩ := pCan_in c_133
    rw [hj9] at hl
    have hl : lv_has ls 9 [(8, .int (nI j)), (0, .ref h), (1, .int (nI c)), (2, .int v), (3, .int (nI k)), (4, .int (bI wb)), (5, .int (nI (c * 64 + k))), (6, .int (bI (decide (cSt S (c * 64 + k) = UInt16.ofNat 45)))), (7, .int (nI ((pMA1 S c k wb).1)))] := hl
    refine lv_aload_n C.1 C.2.1 dX0_makeAccess_136 rfl (lv_at hl 1 rfl) ?_
    refine lv_iload_n C.1 C.2.1 dX0_makeAccess_137 rfl (lv_at hl 2 rfl) ?_
    refine lv_iload C.1 C.2.1 dX0_makeAccess_138 (lv_at hl 0 rfl) ?_
    refine q_callVv (rest := []) C (c_X0_fetch l D g h a u_2 c j (by omega) (by omega) _) (gw_V ml_X0_92 im_X0_fetch se_X0_X0_fetch ini_X0 cd_X0_fetch rfl) rfl rfl rfl hd_X0_fetch ⟨Nat.le_of_ble_eq_true rfl, Nat.le_of_ble_eq_true rfl⟩ hW pm_all (fun u_4 => (wC g h a u_4)) (fun _ => pm_all) rfl rfl hl.1 rfl (Nat.le_of_ble_eq_true rfl) ⟨Nat.le_of_ble_eq_true rfl, Nat.le_of_ble_eq_true rfl⟩ dX0_makeAccess_140 (fun u_4 H locs e_4 hW => ?_)
    skip
    exact L_143  u_4 (by have h9 := (congrArg ln64 hj9).trans (ln64_nI hj4); have hu : (pUse (pMA2 (pMA1 S c k wb).2 c v k wb) c k) = u_1 := (by rw [← eS4]; exact e_1); unfold pMA pMA3; dsimp only; rw [hu]; have hh : hasB S (c * 64 + k) = false := hasB_f (of_decide_eq_true c_106); rw [hh]; rw [if_neg (show ¬ (!false) = false from by decide)]; rw [if_neg (by rw [c_115]; decide)]; rw [e_2]; rw [h9]; dsimp only; rw [if_pos c_133]; exact e_4.symm) ls _ _ (lv_sub hl [1, 2, 3, 4, 5, 6, 7, 8] rfl) hW
  have L_77 : ∀ (x7 : Int32) (e7 : x7 = nI ((pMA1 S c k wb).1)) (S3 : CS) (eS3 : S3 = (pMA1 S c k wb).2) (ls : Array Slot) (H : Heap) (locs : List Loc), lv_has ls 9 [(0, .ref h), (1, .int (nI c)), (2, .int v), (3, .int (nI k)), (4, .int (bI wb)), (5, .int (nI (c * 64 + k))), (6, .int (bI (decide (cSt S (c * 64 + k) = UInt16.ofNat 45)))), (7, .int x7)] → qW D g (va_A (wC g h a S) sz) ss.heap ss (wC g h a S3) H locs → W pp l ee ({ frames := 3, cells := 0, slots := 0, locals := 73 } : Room) ss mm [.ref h, .int (nI c), .int v, .int (nI k), .int (bI wb)].toArray bb mt kc H locs 0 0 (MQ bb (va_Qi (fun (r : Int32) (u : CS) => nI ((pMA S c v k wb).1) = r ∧ ((pMA S c v k wb).2) = u) (qB D g (wC g h a S) sz (fun (u : CS) => (wC g h a u))) (va_A (wC g h a S) sz)) [.ref h, .int (nI c), .int v, .int (nI k), .int (bI wb)].toArray ss 0 0 (va_A (wC g h a S) sz)) (F0 mm 77 ls []) := by
    intro x7 e7 S3 eS3 ls H locs hl hW
    subst e7
    refine lv_iload C.1 C.2.1 dX0_makeAccess_77 (lv_at hl 4 rfl) ?_
    refine q_bt (b := wb) (tgt := 98) C dX0_makeAccess_79 (by decide) (fun c_79 => ?_) (fun c_79 => ?_)
    · exact L_98  S3 (by unfold pMA2; rw [if_neg (by rw [c_79]; decide)]; exact eS3) ls _ _ (lv_sub hl [0, 1, 2, 3, 4, 5, 6, 7] rfl) hW
    refine lv_aload_n C.1 C.2.1 dX0_makeAccess_82 rfl (lv_at hl 0 rfl) ?_
    refine lv_iload_n C.1 C.2.1 dX0_makeAccess_83 rfl (lv_at hl 1 rfl) ?_
    refine lv_iload_n C.1 C.2.1 dX0_makeAccess_84 rfl (lv_at hl 2 rfl) ?_
    refine lv_iload_n C.1 C.2.1 dX0_makeAccess_85 rfl (lv_at hl 3 rfl) ?_
    refine q_callVv (rest := []) C (c_X0_dropElsewhere l D g h a S3 c v k (by omega) (by omega) _) (gw_V ml_X0_78 im_X0_dropElsewhere se_X0_X0_dropElsewhere ini_X0 cd_X0_dropElsewhere rfl) rfl rfl rfl hd_X0_dropElsewhere ⟨Nat.le_of_ble_eq_true rfl, Nat.le_of_ble_eq_true rfl⟩ hW pm_all (fun u_5 => (wC g h a u_5)) (fun _ => pm_all) rfl rfl hl.1 rfl (Nat.le_of_ble_eq_true rfl) ⟨Nat.le_of_ble_eq_true rfl, Nat.le_of_ble_eq_true rfl⟩ dX0_makeAccess_86 (fun u_5 H locs e_5 hW => ?_)
    skip
    refine lv_aload_n C.1 C.2.1 dX0_makeAccess_89 rfl (lv_at hl 0 rfl) ?_
    refine q_get (v := .ref (a 0)) C hW 0 rfl rfl 0 (by decide) gu_X0 (C.2.2.2.2 _ fl_X0_11) rfl rfl dX0_makeAccess_90 ?_
    refine lv_iload C.1 C.2.1 dX0_makeAccess_93 (lv_at hl 5 rfl) ?_
    refine lv_bipush (v := nI 109) C.1 C.2.1 dX0_makeAccess_95 (by decide) ?_
    refine q_castC C hW 1 rfl (k := c * 64 + k) (by omega) (by decide) (v := (UInt16.ofNat 109)) (wC g h a (va_up (cSt u_5) (c * 64 + k) (UInt16.ofNat 109), cUs u_5, cLv u_5, cUn u_5, cAh u_5, cMl u_5, cSp u_5, cFe u_5, cUf u_5, cWr u_5, cNw u_5)) rfl dX0_makeAccess_97 (fun H locs hW => ?_)
    exact L_98  (va_up (cSt u_5) (c * 64 + k) (UInt16.ofNat 109), cUs u_5, cLv u_5, cUn u_5, cAh u_5, cMl u_5, cSp u_5, cFe u_5, cUf u_5, cWr u_5, cNw u_5) (by unfold pMA2; rw [if_pos c_79, ← eS3, e_5]) ls _ _ (lv_sub hl [0, 1, 2, 3, 4, 5, 6, 7] rfl) hW
  have L_25 : ∀ (y0 : Int32) (f0 : y0 = bI (decide (cSt S (c * 64 + k) = UInt16.ofNat 45))) (ls : Array Slot) (H : Heap) (locs : List Loc), lv_has ls 9 [(0, .ref h), (1, .int (nI c)), (2, .int v), (3, .int (nI k)), (4, .int (bI wb)), (5, .int (nI (c * 64 + k)))] → qW D g (va_A (wC g h a S) sz) ss.heap ss (wC g h a S) H locs → W pp l ee ({ frames := 3, cells := 0, slots := 0, locals := 73 } : Room) ss mm [.ref h, .int (nI c), .int v, .int (nI k), .int (bI wb)].toArray bb mt kc H locs 0 0 (MQ bb (va_Qi (fun (r : Int32) (u : CS) => nI ((pMA S c v k wb).1) = r ∧ ((pMA S c v k wb).2) = u) (qB D g (wC g h a S) sz (fun (u : CS) => (wC g h a u))) (va_A (wC g h a S) sz)) [.ref h, .int (nI c), .int v, .int (nI k), .int (bI wb)].toArray ss 0 0 (va_A (wC g h a S) sz)) (F0 mm 25 ls [.int y0]) := by
    intro y0 f0 ls H locs hl hW
    subst f0
    refine lv_istore (lv' := [(6, .int (bI (decide (cSt S (c * 64 + k) = UInt16.ofNat 45)))), (0, .ref h), (1, .int (nI c)), (2, .int v), (3, .int (nI k)), (4, .int (bI wb)), (5, .int (nI (c * 64 + k)))]) C.1 C.2.1 dX0_makeAccess_25 hl (by decide) rfl (fun ls hl => ?_)
    refine lv_aload_n C.1 C.2.1 dX0_makeAccess_27 rfl (lv_at hl 1 rfl) ?_
    refine lv_iload_n C.1 C.2.1 dX0_makeAccess_28 rfl (lv_at hl 2 rfl) ?_
    refine lv_iload_n C.1 C.2.1 dX0_makeAccess_29 rfl (lv_at hl 4 rfl) ?_
    refine lv_iload C.1 C.2.1 dX0_makeAccess_30 (lv_at hl 5 rfl) ?_
    refine q_callVi (rest := []) C (c_X0_costOfNext l D g h a S c k (by omega) (by omega) wb _) (gw_V ml_X0_62 im_X0_costOfNext se_X0_X0_costOfNext ini_X0 cd_X0_costOfNext rfl) rfl rfl rfl hd_X0_costOfNext ⟨Nat.le_of_ble_eq_true rfl, Nat.le_of_ble_eq_true rfl⟩ hW pm_all (fun u_6 => (wC g h a u_6)) (fun _ => pm_all) rfl rfl hl.1 rfl (Nat.le_of_ble_eq_true rfl) ⟨Nat.le_of_ble_eq_true rfl, Nat.le_of_ble_eq_true rfl⟩ dX0_makeAccess_32 (fun r_6 u_6 H locs e_6 hW => ?_)
    obtain ⟨rfl, rfl⟩ := e_6
    refine lv_istore (lv' := [(7, .int (nI (pCost S c k wb))), (6, .int (bI (decide (cSt S (c * 64 + k) = UInt16.ofNat 45)))), (0, .ref h), (1, .int (nI c)), (2, .int v), (3, .int (nI k)), (4, .int (bI wb)), (5, .int (nI (c * 64 + k)))]) C.1 C.2.1 dX0_makeAccess_35 hl (by decide) rfl (fun ls hl => ?_)
    refine lv_iload C.1 C.2.1 dX0_makeAccess_37 (lv_at hl 1 rfl) ?_
    refine q_bt (b := decide (cSt S (c * 64 + k) = UInt16.ofNat 45)) (tgt := 77) C dX0_makeAccess_39 (by decide) (fun c_39 => ?_) (fun c_39 => ?_)
    · exact L_77  _ (by unfold pMA1; rw [if_neg (of_decide_eq_false c_39)]) S (by unfold pMA1; rw [if_neg (of_decide_eq_false c_39)]) ls _ _ (lv_sub hl [2, 3, 4, 5, 6, 7, 1, 0] rfl) hW
    refine lv_iload C.1 C.2.1 dX0_makeAccess_42 (lv_at hl 0 rfl) ?_
    refine lv_aload_n C.1 C.2.1 dX0_makeAccess_44 rfl (lv_at hl 2 rfl) ?_
    refine lv_iload_n C.1 C.2.1 dX0_makeAccess_45 rfl (lv_at hl 3 rfl) ?_
    refine lv_iload_n C.1 C.2.1 dX0_makeAccess_46 rfl (lv_at hl 5 rfl) ?_
    refine q_callVi (rest := [.int (nI (pCost S c k wb))]) C (c_X0_makeRoom l D g h a S c k (by omega) (by omega) _) (gw_V ml_X0_66 im_X0_makeRoom se_X0_X0_makeRoom ini_X0 cd_X0_makeRoom rfl) rfl rfl rfl hd_X0_makeRoom ⟨Nat.le_of_ble_eq_true rfl, Nat.le_of_ble_eq_true rfl⟩ hW pm_all (fun u_7 => (wC g h a u_7)) (fun _ => pm_all) rfl rfl hl.1 rfl (Nat.le_of_ble_eq_true rfl) ⟨Nat.le_of_ble_eq_true rfl, Nat.le_of_ble_eq_true rfl⟩ dX0_makeAccess_47 (fun r_7 u_7 H locs e_7 hW => ?_)
    obtain ⟨rfl, e_7⟩ := e_7
    refine q_bt (b := (pMakeRoom S c k).1) (tgt := 57) C dX0_makeAccess_50 (by decide) (fun c_50 => ?_) (fun c_50 => ?_)
    · refine lv_iconst (v := nI 0) C.1 C.2.1 dX0_makeAccess_57 (by decide) ?_
      refine q_iadd C dX0_makeAccess_58 ?_
      refine lv_istore (lv' := [(7, .int (nI (pCost S c k wb + 0))), (6, .int (bI (decide (cSt S (c * 64 + k) = UInt16.ofNat 45)))), (0, .ref h), (1, .int (nI c)), (2, .int v), (3, .int (nI k)), (4, .int (bI wb)), (5, .int (nI (c * 64 + k)))]) C.1 C.2.1 dX0_makeAccess_59 hl (by decide) rfl (fun ls hl => ?_)
      refine lv_iload C.1 C.2.1 dX0_makeAccess_61 (lv_at hl 6 rfl) ?_
      refine q_bf (b := wb) (tgt := 71) C dX0_makeAccess_63 (by decide) (fun c_63 => ?_) (fun c_63 => ?_)
      · refine lv_aload_n C.1 C.2.1 dX0_makeAccess_71 rfl (lv_at hl 2 rfl) ?_
        refine lv_iload_n C.1 C.2.1 dX0_makeAccess_72 rfl (lv_at hl 3 rfl) ?_
        refine lv_iload_n C.1 C.2.1 dX0_makeAccess_73 rfl (lv_at hl 5 rfl) ?_
        refine q_callVv (rest := []) C (c_X0_bring l D g h a u_7 c k (by omega) (by omega) _) (gw_V ml_X0_74 im_X0_bring se_X0_X0_bring ini_X0 cd_X0_bring rfl) rfl rfl rfl hd_X0_bring ⟨Nat.le_of_ble_eq_true rfl, Nat.le_of_ble_eq_true rfl⟩ hW pm_all (fun u_8 => (wC g h a u_8)) (fun _ => pm_all) rfl rfl hl.1 rfl (Nat.le_of_ble_eq_true rfl) ⟨Nat.le_of_ble_eq_true rfl, Nat.le_of_ble_eq_true rfl⟩ dX0_makeAccess_74 (fun u_8 H locs e_8 hW => ?_)
        skip
        exact L_77  _ (by unfold pMA1; rw [if_pos (of_decide_eq_true c_39)]; dsimp only; rw [if_neg (by rw [c_50]; decide)]) u_8 (by unfold pMA1; rw [if_pos (of_decide_eq_true c_39)]; dsimp only; rw [if_pos c_63, e_7]; exact e_8.symm) ls _ _ (lv_sub hl [2, 3, 4, 5, 6, 7, 1, 0] rfl) hW
      refine lv_aload_n C.1 C.2.1 dX0_makeAccess_66 rfl (lv_at hl 2 rfl) ?_
      refine lv_iload_n C.1 C.2.1 dX0_makeAccess_67 rfl (lv_at hl 5 rfl) ?_
      refine q_callVv (rest := []) C (c_X0_shareAll l D g h a u_7 k (by omega) _) (gw_V ml_X0_70 im_X0_shareAll se_X0_X0_shareAll ini_X0 cd_X0_shareAll rfl) rfl rfl rfl hd_X0_shareAll ⟨Nat.le_of_ble_eq_true rfl, Nat.le_of_ble_eq_true rfl⟩ hW pm_all (fun u_9 => (wC g h a u_9)) (fun _ => pm_all) rfl rfl hl.1 rfl (Nat.le_of_ble_eq_true rfl) ⟨Nat.le_of_ble_eq_true rfl, Nat.le_of_ble_eq_true rfl⟩ dX0_makeAccess_68 (fun u_9 H locs e_9 hW => ?_)
      skip
      refine lv_aload_n C.1 C.2.1 dX0_makeAccess_71 rfl (lv_at hl 2 rfl) ?_
      refine lv_iload_n C.1 C.2.1 dX0_makeAccess_72 rfl (lv_at hl 3 rfl) ?_
      refine lv_iload_n C.1 C.2.1 dX0_makeAccess_73 rfl (lv_at hl 5 rfl) ?_
      refine q_callVv (rest := []) C (c_X0_bring l D g h a u_9 c k (by omega) (by omega) _) (gw_V ml_X0_74 im_X0_bring se_X0_X0_bring ini_X0 cd_X0_bring rfl) rfl rfl rfl hd_X0_bring ⟨Nat.le_of_ble_eq_true rfl, Nat.le_of_ble_eq_true rfl⟩ hW pm_all (fun u_10 => (wC g h a u_10)) (fun _ => pm_all) rfl rfl hl.1 rfl (Nat.le_of_ble_eq_true rfl) ⟨Nat.le_of_ble_eq_true rfl, Nat.le_of_ble_eq_true rfl⟩ dX0_makeAccess_74 (fun u_10 H locs e_10 hW => ?_)
      skip
      exact L_77  _ (by unfold pMA1; rw [if_pos (of_decide_eq_true c_39)]; dsimp only; rw [if_neg (by rw [c_50]; decide)]) u_10 (by unfold pMA1; rw [if_pos (of_decide_eq_true c_39)]; dsimp only; rw [if_neg (by rw [c_63]; decide), e_7, e_9]; exact e_10.symm) ls _ _ (lv_sub hl [2, 3, 4, 5, 6, 7, 1, 0] rfl) hW
    refine lv_iconst (v := nI 5) C.1 C.2.1 dX0_makeAccess_53 (by decide) ?_
    refine lv_goto (tgt := 58) C.1 C.2.1 dX0_makeAccess_54 (by decide) ?_
    refine q_iadd C dX0_makeAccess_58 ?_
    refine lv_istore (lv' := [(7, .int (nI (pCost S c k wb + 5))), (6, .int (bI (decide (cSt S (c * 64 + k) = UInt16.ofNat 45)))), (0, .ref h), (1, .int (nI c)), (2, .int v), (3, .int (nI k)), (4, .int (bI wb)), (5, .int (nI (c * 64 + k)))]) C.1 C.2.1 dX0_makeAccess_59 hl (by decide) rfl (fun ls hl => ?_)
    refine lv_iload C.1 C.2.1 dX0_makeAccess_61 (lv_at hl 6 rfl) ?_
    refine q_bf (b := wb) (tgt := 71) C dX0_makeAccess_63 (by decide) (fun c_63 => ?_) (fun c_63 => ?_)
    · refine lv_aload_n C.1 C.2.1 dX0_makeAccess_71 rfl (lv_at hl 2 rfl) ?_
      refine lv_iload_n C.1 C.2.1 dX0_makeAccess_72 rfl (lv_at hl 3 rfl) ?_
      refine lv_iload_n C.1 C.2.1 dX0_makeAccess_73 rfl (lv_at hl 5 rfl) ?_
      refine q_callVv (rest := []) C (c_X0_bring l D g h a u_7 c k (by omega) (by omega) _) (gw_V ml_X0_74 im_X0_bring se_X0_X0_bring ini_X0 cd_X0_bring rfl) rfl rfl rfl hd_X0_bring ⟨Nat.le_of_ble_eq_true rfl, Nat.le_of_ble_eq_true rfl⟩ hW pm_all (fun u_11 => (wC g h a u_11)) (fun _ => pm_all) rfl rfl hl.1 rfl (Nat.le_of_ble_eq_true rfl) ⟨Nat.le_of_ble_eq_true rfl, Nat.le_of_ble_eq_true rfl⟩ dX0_makeAccess_74 (fun u_11 H locs e_11 hW => ?_)
      skip
      exact L_77  _ (by unfold pMA1; rw [if_pos (of_decide_eq_true c_39)]; dsimp only; rw [if_pos c_50]) u_11 (by unfold pMA1; rw [if_pos (of_decide_eq_true c_39)]; dsimp only; rw [if_pos c_63, e_7]; exact e_11.symm) ls _ _ (lv_sub hl [2, 3, 4, 5, 6, 7, 1, 0] rfl) hW
    refine lv_aload_n C.1 C.2.1 dX0_makeAccess_66 rfl (lv_at hl 2 rfl) ?_
    refine lv_iload_n C.1 C.2.1 dX0_makeAccess_67 rfl (lv_at hl 5 rfl) ?_
    refine q_callVv (rest := []) C (c_X0_shareAll l D g h a u_7 k (by omega) _) (gw_V ml_X0_70 im_X0_shareAll se_X0_X0_shareAll ini_X0 cd_X0_shareAll rfl) rfl rfl rfl hd_X0_shareAll ⟨Nat.le_of_ble_eq_true rfl, Nat.le_of_ble_eq_true rfl⟩ hW pm_all (fun u_12 => (wC g h a u_12)) (fun _ => pm_all) rfl rfl hl.1 rfl (Nat.le_of_ble_eq_true rfl) ⟨Nat.le_of_ble_eq_true rfl, Nat.le_of_ble_eq_true rfl⟩ dX0_makeAccess_68 (fun u_12 H locs e_12 hW => ?_)
    skip
    refine lv_aload_n C.1 C.2.1 dX0_makeAccess_71 rfl (lv_at hl 2 rfl) ?_
    refine lv_iload_n C.1 C.2.1 dX0_makeAccess_72 rfl (lv_at hl 3 rfl) ?_
    refine lv_iload_n C.1 C.2.1 dX0_makeAccess_73 rfl (lv_at hl 5 rfl) ?_
    refine q_callVv (rest := []) C (c_X0_bring l D g h a u_12 c k (by omega) (by omega) _) (gw_V ml_X0_74 im_X0_bring se_X0_X0_bring ini_X0 cd_X0_bring rfl) rfl rfl rfl hd_X0_bring ⟨Nat.le_of_ble_eq_true rfl, Nat.le_of_ble_eq_true rfl⟩ hW pm_all (fun u_13 => (wC g h a u_13)) (fun _ => pm_all) rfl rfl hl.1 rfl (Nat.le_of_ble_eq_true rfl) ⟨Nat.le_of_ble_eq_true rfl, Nat.le_of_ble_eq_true rfl⟩ dX0_makeAccess_74 (fun u_13 H locs e_13 hW => ?_)
    skip
    exact L_77  _ (by unfold pMA1; rw [if_pos (of_decide_eq_true c_39)]; dsimp only; rw [if_pos c_50]) u_13 (by unfold pMA1; rw [if_pos (of_decide_eq_true c_39)]; dsimp only; rw [if_neg (by rw [c_63]; decide), e_7, e_12]; exact e_13.symm) ls _ _ (lv_sub hl [2, 3, 4, 5, 6, 7, 1, 0] rfl) hW
  refine lv_iload_n C.1 C.2.1 dX0_makeAccess_0 rfl (lv_at hl 1 rfl) ?_
  refine lv_bipush (v := nI 64) C.1 C.2.1 dX0_makeAccess_1 (by decide) ?_
  refine q_imul C dX0_makeAccess_3 ?_
  refine lv_iload_n C.1 C.2.1 dX0_makeAccess_4 rfl (lv_at hl 3 rfl) ?_
  refine q_iadd C dX0_makeAccess_5 ?_
  refine lv_istore (lv' := [(5, .int (nI (c * 64 + k))), (0, .ref h), (1, .int (nI c)), (2, .int v), (3, .int (nI k)), (4, .int (bI wb))]) C.1 C.2.1 dX0_makeAccess_6 hl (by decide) rfl (fun ls hl => ?_)
  refine lv_aload_n C.1 C.2.1 dX0_makeAccess_8 rfl (lv_at hl 1 rfl) ?_
  refine q_get (v := .ref (a 0)) C hW 0 rfl rfl 0 (by decide) gu_X0 (C.2.2.2.2 _ fl_X0_11) rfl rfl dX0_makeAccess_9 ?_
  refine lv_iload C.1 C.2.1 dX0_makeAccess_12 (lv_at hl 0 rfl) ?_
  refine q_caldC (f := cSt S) C hW 1 rfl (k := c * 64 + k) (by omega) (by decide) dX0_makeAccess_14 ?_
  refine lv_bipush (v := nI 45) C.1 C.2.1 dX0_makeAccess_15 (by decide) ?_
  refine q_cne (tgt := 24) (y := 45) C (by decide) dX0_makeAccess_17 (by decide) (fun c_17 => ?_) (fun c_17 => ?_)
  · refine lv_iconst (v := nI 0) C.1 C.2.1 dX0_makeAccess_24 (by decide) ?_
    exact L_25  _ (by rw [decide_eq_false c_17]; rfl) ls _ _ (lv_sub hl [1, 2, 3, 4, 5, 0] rfl) hW
  refine lv_iconst (v := nI 1) C.1 C.2.1 dX0_makeAccess_20 (by decide) ?_
  refine lv_goto (tgt := 25) C.1 C.2.1 dX0_makeAccess_21 (by decide) ?_
  exact L_25  _ (by rw [decide_eq_true c_17]; rfl) ls _ _ (lv_sub hl [1, 2, 3, 4, 5, 0] rfl) hW
