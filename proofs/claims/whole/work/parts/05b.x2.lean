theorem hd_X2_placeAll : yX2_placeAll.cls = RX2 ∧ yX2_placeAll.cls ≠ "java/lang/invoke/MethodHandle" ∧ yX2_placeAll.cls ≠ "java/lang/invoke/VarHandle" ∧ (parseMethodDescriptor yX2_placeAll.desc).map (fun d => d.parameters.length) = some 1 := by decide +kernel
set_option maxHeartbeats 4000000 in
set_option maxRecDepth 100000 in
theorem c_X2_placeAll (l : Launch) (D : va_G) (g : Nat → ClassId) (h : Nat) (a : Nat → Nat) (L : LyS) (al : Nat) (hL : LOK L) (ha : 1 ≤ al) (ha2 : al ≤ 64) (sz : Nat) : qMi l yX2_placeAll (.code yX2_placeAll cX2_placeAll 5 (some .int) :: GW) ({ frames := 3, cells := 0, slots := 0, locals := 69 } : Room) D g [.ref h, .int (nI al)] (wL g h a L) sz (fun (r : Int32) (u : LyS) => oI ((pAll L al).1) = r ∧ ((pAll L al).2) = u) (fun (u : LyS) => (wL g h a u)) 0 0 := by
  refine q_entry (cc := cX2_placeAll) (nL := 5) (ret := (some .int)) rfl (by decide) (Nat.le_of_ble_eq_true rfl) (fun pp ee ss mm bb mt kc ls C hRt hLk hin hsz hW hl => ?_)
  have hl : lv_has ls 5 [(0, .ref h), (1, .int (nI al))] := hl
  have hN := hL.1
  refine lv_aload_n C.1 C.2.1 dX2_placeAll_0 rfl (lv_at hl 0 rfl) ?_
  refine q_get (v := .ref (a 1)) C hW 0 rfl rfl 1 (by decide) gu_X2 (C.2.2.2.2 _ fl_X2_15) rfl rfl dX2_placeAll_1 ?_
  refine lv_iconst (v := nI 0) C.1 C.2.1 dX2_placeAll_4 (by decide) ?_
  refine lv_aload_n C.1 C.2.1 dX2_placeAll_5 rfl (lv_at hl 0 rfl) ?_
  refine q_get (v := .ref (a 2)) C hW 0 rfl rfl 2 (by decide) gu_X2 (C.2.2.2.2 _ fl_X2_18) rfl rfl dX2_placeAll_6 ?_
  refine lv_iconst (v := nI 0) C.1 C.2.1 dX2_placeAll_9 (by decide) ?_
  refine lv_bipush (v := nI 12) C.1 C.2.1 dX2_placeAll_10 (by decide) ?_
  refine q_copyAll C hW (C.2.2.2.2 _ ml_X2_40) (C.2.2.2.2 _ nt_J10_arraycopy_4416) (C.2.2.2.2 _ sm_J10_arraycopy_4416) (C.2.2.2.2 _ ini_J10) hl.1 2 3 rfl rfl (by decide) (by decide) (by decide) (wL g h a (lSz L, lSt L, lSt L, lNm L)) rfl dX2_placeAll_12 (fun H locs hW => ?_)
  refine lv_iconst (v := nI 0) C.1 C.2.1 dX2_placeAll_15 (by decide) ?_
  refine lv_istore_n (lv' := [(2, .int (nI 0)), (0, .ref h), (1, .int (nI al))]) C.1 C.2.1 dX2_placeAll_16 rfl hl (by decide) rfl (fun ls hl => ?_)
  refine lv_iconst (v := nI 0) C.1 C.2.1 dX2_placeAll_17 (by decide) ?_
  refine lv_istore_n (lv' := [(3, .int (nI 0)), (2, .int (nI 0)), (0, .ref h), (1, .int (nI al))]) C.1 C.2.1 dX2_placeAll_18 rfl hl (by decide) rfl (fun ls hl => ?_)
  have L_19 : ∀ (nf : Nat) (i : Nat) (k : Nat) (M : LyS) (hi : i ≤ lNm L) (hq : plN (pCopy L) al i = some (k, M)) (x2 : Int32) (e2 : x2 = nI k) (x3 : Int32) (e3 : x3 = nI i) (M2 : LyS) (eM2 : M2 = (lSz M, lSt M, lBf M, lNm M)) (hmu : lNm L - i < nf) (ls : Array Slot) (H : Heap) (locs : List Loc), lv_has ls 5 [(0, .ref h), (1, .int (nI al)), (2, .int x2), (3, .int x3)] → qW D g (va_A (wL g h a L) sz) ss.heap ss (wL g h a M2) H locs → W pp l ee ({ frames := 3, cells := 0, slots := 0, locals := 69 } : Room) ss mm [.ref h, .int (nI al)].toArray bb mt kc H locs 0 0 (MQ bb (va_Qi (fun (r : Int32) (u : LyS) => oI ((pAll L al).1) = r ∧ ((pAll L al).2) = u) (qB D g (wL g h a L) sz (fun (u : LyS) => (wL g h a u))) (va_A (wL g h a L) sz)) [.ref h, .int (nI al)].toArray ss 0 0 (va_A (wL g h a L) sz)) (F0 mm 19 ls []) := by
    intro nf
    induction nf with
    | zero =>
      intro i k M hi hq x2 e2 x3 e3 M2 eM2 hmu ls H locs hl hW
      exact absurd hmu (by omega)
    | succ nf ih =>
      intro i k M hi hq x2 e2 x3 e3 M2 eM2 hmu ls H locs hl hW
      subst e2
      subst e3
      subst eM2
      refine lv_iload_n C.1 C.2.1 dX2_placeAll_19 rfl (lv_at hl 3 rfl) ?_
      obtain ⟨hM1, hM2, hM3, hM4, hM5⟩ := plN_spec (show LOK (pCopy L) from hL) hq
      have hM2 : lSz M = lSz L := hM2
      have hM3 : lNm M = lNm L := hM3
      have hM4 : lBf M = lSt L := hM4
      refine lv_aload_n C.1 C.2.1 dX2_placeAll_20 rfl (lv_at hl 0 rfl) ?_
      refine q_get (v := .int (nI (lNm M))) C hW 0 rfl rfl 3 (by decide) gu_X2 (C.2.2.2.2 _ fl_X2_21) rfl rfl dX2_placeAll_21 ?_
      refine q_ge (tgt := 85) C (by omega) (by omega) dX2_placeAll_24 (by decide) (fun c_24 => ?_) (fun c_24 => ?_)
      · refine lv_iload_n C.1 C.2.1 dX2_placeAll_85 rfl (lv_at hl 2 rfl) ?_
        exact q_iret C hRt hLk hW rfl (lSz M, lSt M, lBf M, lNm M) ⟨(Eq.symm (by obtain rfl : i = lNm L := (by omega); unfold pAll; rw [hq]; rfl)), (Eq.symm (by obtain rfl : i = lNm L := (by omega); unfold pAll; rw [hq]))⟩  rfl (Nat.le_of_ble_eq_true rfl) (Nat.le_of_ble_eq_true rfl) dX2_placeAll_86
      refine lv_aload_n C.1 C.2.1 dX2_placeAll_27 rfl (lv_at hl 0 rfl) ?_
      refine q_get (v := .ref (a 1)) C hW 0 rfl rfl 1 (by decide) gu_X2 (C.2.2.2.2 _ fl_X2_15) rfl rfl dX2_placeAll_28 ?_
      refine lv_iload_n C.1 C.2.1 dX2_placeAll_31 rfl (lv_at hl 3 rfl) ?_
      refine q_ialdO (f := lSt M) C hW 2 rfl (k := i) (by omega) (by decide) dX2_placeAll_32 ?_
      refine lv_iconst (v := (-1)) C.1 C.2.1 dX2_placeAll_33 (by decide) ?_
      refine q_one (o := (lSt M) i) (tgt := 79) C (fun i9 e9 => by have := hM1.st (by omega) e9; omega) dX2_placeAll_34 (by decide) (fun j_34 o_34 => ?_) (fun o_34 => ?_)
      · refine q_iinc (d := 1) (lv' := [(3, .int (nI (i + 1))), (0, .ref h), (1, .int (nI al)), (2, .int (nI k))]) C dX2_placeAll_79 (by decide) hl (k := 3) rfl (by decide) rfl (fun ls hl => ?_)
        refine lv_goto (tgt := 19) C.1 C.2.1 dX2_placeAll_82 (by decide) ?_
        exact ih (i + 1) k (lSz M, lSt M, lBf M, lNm M) (by omega) (by rw [plN, hq]; dsimp only; rw [o_34]) _ rfl _ rfl (lSz M, lSt M, lBf M, lNm M) rfl (by omega) ls _ _ (lv_sub hl [1, 2, 3, 0] rfl) hW
      refine lv_aload_n C.1 C.2.1 dX2_placeAll_37 rfl (lv_at hl 0 rfl) ?_
      refine lv_iload_n C.1 C.2.1 dX2_placeAll_38 rfl (lv_at hl 3 rfl) ?_
      refine lv_iload_n C.1 C.2.1 dX2_placeAll_39 rfl (lv_at hl 1 rfl) ?_
      refine q_callVi (rest := []) C (c_X2_lowestFor l D g h a (lSz M, lSt M, lBf M, lNm M) i al hM1 (by omega) (by omega) (by omega) _) (gw_V ml_X2_46 im_X2_lowestFor se_X2_X2_lowestFor ini_X2 cd_X2_lowestFor rfl) rfl rfl rfl hd_X2_lowestFor ⟨Nat.le_of_ble_eq_true rfl, Nat.le_of_ble_eq_true rfl⟩ hW pm_all (fun u_1 => (wL g h a u_1)) (fun _ => pm_all) rfl rfl hl.1 rfl (Nat.le_of_ble_eq_true rfl) ⟨Nat.le_of_ble_eq_true rfl, Nat.le_of_ble_eq_true rfl⟩ dX2_placeAll_40 (fun r_1 u_1 H locs e_1 hW => ?_)
      obtain ⟨rfl, rfl⟩ := e_1
      refine lv_istore (lv' := [(4, .int (oI (pLow (lSz M, lSt M, lBf M, lNm M) i al))), (0, .ref h), (1, .int (nI al)), (2, .int (nI k)), (3, .int (nI i))]) C.1 C.2.1 dX2_placeAll_43 hl (by decide) rfl (fun ls hl => ?_)
      refine lv_iload C.1 C.2.1 dX2_placeAll_45 (lv_at hl 0 rfl) ?_
      refine lv_iconst (v := (-1)) C.1 C.2.1 dX2_placeAll_47 (by decide) ?_
      refine q_one (o := pLow (lSz M, lSt M, lBf M, lNm M) i al) (tgt := 68) C (fun i9 e9 => by have := (pLow_spec e9).1; omega) dX2_placeAll_48 (by decide) (fun j_48 o_48 => ?_) (fun o_48 => ?_)
      · rw [o_48] at hl
        have hl : lv_has ls 5 [(4, .int (nI j_48)), (0, .ref h), (1, .int (nI al)), (2, .int (nI k)), (3, .int (nI i))] := hl
        have hj_48 := (pLow_spec o_48).1
        refine lv_aload_n C.1 C.2.1 dX2_placeAll_68 rfl (lv_at hl 1 rfl) ?_
        refine q_get (v := .ref (a 1)) C hW 0 rfl rfl 1 (by decide) gu_X2 (C.2.2.2.2 _ fl_X2_15) rfl rfl dX2_placeAll_69 ?_
        refine lv_iload_n C.1 C.2.1 dX2_placeAll_72 rfl (lv_at hl 4 rfl) ?_
        refine lv_iload C.1 C.2.1 dX2_placeAll_73 (lv_at hl 0 rfl) ?_
        refine q_iastO C hW 2 rfl (k := i) (by omega) (by decide) (v := (some j_48)) (wL g h a (lSz M, va_up (lSt M) i (some j_48), lBf M, lNm M)) rfl dX2_placeAll_75 (fun H locs hW => ?_)
        refine q_iinc (d := 1) (lv' := [(2, .int (nI (k + 1))), (4, .int (nI j_48)), (0, .ref h), (1, .int (nI al)), (3, .int (nI i))]) C dX2_placeAll_76 (by decide) hl (k := 3) rfl (by decide) rfl (fun ls hl => ?_)
        refine q_iinc (d := 1) (lv' := [(3, .int (nI (i + 1))), (2, .int (nI (k + 1))), (4, .int (nI j_48)), (0, .ref h), (1, .int (nI al))]) C dX2_placeAll_79 (by decide) hl (k := 4) rfl (by decide) rfl (fun ls hl => ?_)
        refine lv_goto (tgt := 19) C.1 C.2.1 dX2_placeAll_82 (by decide) ?_
        exact ih (i + 1) (k + 1) (lSz M, va_up (lSt M) i (some j_48), lBf M, lNm M) (by omega) (by rw [plN, hq]; dsimp only; rw [o_34]; dsimp only; rw [o_48]; exact congrArg (fun z => some (_, z)) rfl) _ rfl _ rfl (lSz M, va_up (lSt M) i (some j_48), lBf M, lNm M) rfl (by omega) ls _ _ (lv_sub hl [3, 4, 1, 0] rfl) hW
      rw [o_48] at hl
      have hl : lv_has ls 5 [(4, .int (-1)), (0, .ref h), (1, .int (nI al)), (2, .int (nI k)), (3, .int (nI i))] := hl
      refine lv_aload_n C.1 C.2.1 dX2_placeAll_51 rfl (lv_at hl 1 rfl) ?_
      refine q_get (v := .ref (a 2)) C hW 0 rfl rfl 2 (by decide) gu_X2 (C.2.2.2.2 _ fl_X2_18) rfl rfl dX2_placeAll_52 ?_
      refine lv_iconst (v := nI 0) C.1 C.2.1 dX2_placeAll_55 (by decide) ?_
      refine lv_aload_n C.1 C.2.1 dX2_placeAll_56 rfl (lv_at hl 1 rfl) ?_
      refine q_get (v := .ref (a 1)) C hW 0 rfl rfl 1 (by decide) gu_X2 (C.2.2.2.2 _ fl_X2_15) rfl rfl dX2_placeAll_57 ?_
      refine lv_iconst (v := nI 0) C.1 C.2.1 dX2_placeAll_60 (by decide) ?_
      refine lv_bipush (v := nI 12) C.1 C.2.1 dX2_placeAll_61 (by decide) ?_
      refine q_copyAll C hW (C.2.2.2.2 _ ml_X2_40) (C.2.2.2.2 _ nt_J10_arraycopy_4416) (C.2.2.2.2 _ sm_J10_arraycopy_4416) (C.2.2.2.2 _ ini_J10) hl.1 3 2 rfl rfl (by decide) (by decide) (by decide) (wL g h a (lSz M, lBf M, lBf M, lNm M)) rfl dX2_placeAll_63 (fun H locs hW => ?_)
      refine lv_iconst (v := (-1)) C.1 C.2.1 dX2_placeAll_66 (by decide) ?_
      exact q_iret C hRt hLk hW rfl (lSz M, lBf M, lBf M, lNm M) ⟨(Eq.symm (by unfold pAll; rw [plN_stop hq (by omega) o_34 o_48]; rfl)), (Eq.symm (by unfold pAll; rw [plN_stop hq (by omega) o_34 o_48]; dsimp only; rw [hM3, hM2, hM4]; rfl))⟩  rfl (Nat.le_of_ble_eq_true rfl) (Nat.le_of_ble_eq_true rfl) dX2_placeAll_67
  exact L_19 (lNm L - 0 + 1) 0 0 (pCopy L) (by omega) rfl _ rfl _ rfl (lSz L, lSt L, lSt L, lNm L) rfl (by omega) ls _ _ (lv_sub hl [2, 3, 1, 0] rfl) hW

theorem hd_X2_init : yX2_init.cls ≠ "java/lang/invoke/MethodHandle" ∧ yX2_init.cls ≠ "java/lang/invoke/VarHandle" ∧ (parseMethodDescriptor yX2_init.desc).map (fun d => d.parameters.length) = some 0 := by decide +kernel
set_option maxHeartbeats 4000000 in
set_option maxRecDepth 100000 in
theorem c_X2_init (l : Launch) (D : va_G) (g : Nat → ClassId) (h : Nat) (sz : Nat) : qMv l yX2_init (.code yX2_init cX2_init 1 none :: GW) ({ frames := 1, cells := 3, slots := 36, locals := 12 } : Room) D g [.ref h] [(h, .inr (5, [.null, .null, .null, .int (nI 0)]))] sz (fun (_ : (Nat → Nat)) => True) (fun (a : Nat → Nat) => wL g h a lInit) 3 36 := by
  refine q_entry (cc := cX2_init) (nL := 1) (ret := none) rfl (by decide) (Nat.le_of_ble_eq_true rfl) (fun pp ee ss mm bb mt kc ls C hRt hLk hin hsz hW hl => ?_)
  have hl : lv_has ls 1 [(0, .ref h)] := hl
  refine lv_aload_n C.1 C.2.1 dX2_init_0 rfl (lv_at hl 0 rfl) ?_
  refine W.objInit C.1 C.2.1 C.2.2.2.1 (C.2.2.2.2 _ ml_X2_3) (C.2.2.2.2 _ im_objectInit) (C.2.2.2.2 _ cd_objectInit) rfl (by rw [C.2.2.1]; exact hl.1) rfl dX2_init_1 (Nat.le_of_ble_eq_true rfl) (Nat.le_of_ble_eq_true rfl) ?_
  refine W.eq (g2 := F0 mm 4 ls []) rfl ?_
  refine lv_aload_n C.1 C.2.1 dX2_init_4 rfl (lv_at hl 0 rfl) ?_
  refine lv_bipush (v := nI 12) C.1 C.2.1 dX2_init_5 (by decide) ?_
  refine q_newa (atype := .int) C hW rfl 1 rfl (fun _ _ h9 => h9) (C.2.2.2.2 _ ac_53) (12, .inl (aN (fun _ => 0))) (fun _ => rfl) (by decide) (by decide) (Nat.le_of_ble_eq_true rfl) (Nat.le_of_ble_eq_true rfl) dX2_init_7 (fun q_7 H hW => ?_)
  have hW : qW D g (va_A [(h, .inr (5, [.null, .null, .null, .int (nI 0)]))] sz) ss.heap ss [(h, .inr (5, [.null, .null, .null, .int (nI 0)])), (q_7, .inl (g 1, 12, .inl (aN (fun _ => 0))))] H _ := hW
  refine q_putF C hW 0 rfl rfl 0 (by decide) gu_X2 tyX2_ok nmX2 (C.2.2.2.2 _ fl_X2_9) rfl rfl hin rfl rfl rfl (Nat.le_of_ble_eq_true rfl) [(h, .inr (5, [.ref q_7, .null, .null, .int (nI 0)])), (q_7, .inl (g 1, 12, .inl (aN (fun _ => 0))))] rfl dX2_init_9 (fun H locs hW => ?_)
  refine lv_aload_n C.1 C.2.1 dX2_init_12 rfl (lv_at hl 0 rfl) ?_
  refine lv_bipush (v := nI 12) C.1 C.2.1 dX2_init_13 (by decide) ?_
  refine q_newa (atype := .int) C hW rfl 1 rfl (fun _ _ h9 => h9) (C.2.2.2.2 _ ac_53) (12, .inl (aO (fun _ => some 0))) (fun _ => rfl) (by decide) (by decide) (Nat.le_of_ble_eq_true rfl) (Nat.le_of_ble_eq_true rfl) dX2_init_15 (fun q_15 H hW => ?_)
  have hW : qW D g (va_A [(h, .inr (5, [.null, .null, .null, .int (nI 0)]))] sz) ss.heap ss [(h, .inr (5, [.ref q_7, .null, .null, .int (nI 0)])), (q_7, .inl (g 1, 12, .inl (aN (fun _ => 0)))), (q_15, .inl (g 1, 12, .inl (aO (fun _ => some 0))))] H _ := hW
  refine q_putF C hW 0 rfl rfl 1 (by decide) gu_X2 tyX2_ok nmX2 (C.2.2.2.2 _ fl_X2_15) rfl rfl hin rfl rfl rfl (Nat.le_of_ble_eq_true rfl) [(h, .inr (5, [.ref q_7, .ref q_15, .null, .int (nI 0)])), (q_7, .inl (g 1, 12, .inl (aN (fun _ => 0)))), (q_15, .inl (g 1, 12, .inl (aO (fun _ => some 0))))] rfl dX2_init_17 (fun H locs hW => ?_)
  refine lv_aload_n C.1 C.2.1 dX2_init_20 rfl (lv_at hl 0 rfl) ?_
  refine lv_bipush (v := nI 12) C.1 C.2.1 dX2_init_21 (by decide) ?_
  refine q_newa (atype := .int) C hW rfl 1 rfl (fun _ _ h9 => h9) (C.2.2.2.2 _ ac_53) (12, .inl (aO (fun _ => some 0))) (fun _ => rfl) (by decide) (by decide) (Nat.le_of_ble_eq_true rfl) (Nat.le_of_ble_eq_true rfl) dX2_init_23 (fun q_23 H hW => ?_)
  have hW : qW D g (va_A [(h, .inr (5, [.null, .null, .null, .int (nI 0)]))] sz) ss.heap ss [(h, .inr (5, [.ref q_7, .ref q_15, .null, .int (nI 0)])), (q_7, .inl (g 1, 12, .inl (aN (fun _ => 0)))), (q_15, .inl (g 1, 12, .inl (aO (fun _ => some 0)))), (q_23, .inl (g 1, 12, .inl (aO (fun _ => some 0))))] H _ := hW
  refine q_putF C hW 0 rfl rfl 2 (by decide) gu_X2 tyX2_ok nmX2 (C.2.2.2.2 _ fl_X2_18) rfl rfl hin rfl rfl rfl (Nat.le_of_ble_eq_true rfl) [(h, .inr (5, [.ref q_7, .ref q_15, .ref q_23, .int (nI 0)])), (q_7, .inl (g 1, 12, .inl (aN (fun _ => 0)))), (q_15, .inl (g 1, 12, .inl (aO (fun _ => some 0)))), (q_23, .inl (g 1, 12, .inl (aO (fun _ => some 0))))] rfl dX2_init_25 (fun H locs hW => ?_)
  refine lv_aload_n C.1 C.2.1 dX2_init_28 rfl (lv_at hl 0 rfl) ?_
  refine lv_iconst (v := nI 0) C.1 C.2.1 dX2_init_29 (by decide) ?_
  refine q_put C hW 0 rfl rfl 3 (by decide) gu_X2 tyX2_ok nmX2 (C.2.2.2.2 _ fl_X2_21) rfl rfl rfl rfl (Nat.le_of_ble_eq_true rfl) [(h, .inr (5, [.ref q_7, .ref q_15, .ref q_23, .int (nI 0)])), (q_7, .inl (g 1, 12, .inl (aN (fun _ => 0)))), (q_15, .inl (g 1, 12, .inl (aO (fun _ => some 0)))), (q_23, .inl (g 1, 12, .inl (aO (fun _ => some 0))))] rfl dX2_init_30 (fun H locs hW => ?_)
  exact q_vret C hRt hLk hW (fun i => [q_7, q_15, q_23].getD i 0) trivial rfl (Nat.le_of_ble_eq_true rfl) (Nat.le_of_ble_eq_true rfl) dX2_init_33

theorem hd_X0_init : yX0_init.cls ≠ "java/lang/invoke/MethodHandle" ∧ yX0_init.cls ≠ "java/lang/invoke/VarHandle" ∧ (parseMethodDescriptor yX0_init.desc).map (fun d => d.parameters.length) = some 0 := by decide +kernel
set_option maxHeartbeats 4000000 in
set_option maxRecDepth 100000 in
theorem c_X0_init (l : Launch) (D : va_G) (g : Nat → ClassId) (h : Nat) (sz : Nat) : qMv l yX0_init (.code yX0_init cX0_init 1 none :: GW) ({ frames := 2, cells := 10, slots := 1048, locals := 43 } : Room) D g [.ref h] [(h, .inr (3, [.null, .null, .null, .null, .null, .null, .null, .null, .null, .null, .int (nI 0)]))] sz (fun (_ : (Nat → Nat)) => True) (fun (a : Nat → Nat) => wC g h a pInit) 10 1048 := by
  refine q_entry (cc := cX0_init) (nL := 1) (ret := none) rfl (by decide) (Nat.le_of_ble_eq_true rfl) (fun pp ee ss mm bb mt kc ls C hRt hLk hin hsz hW hl => ?_)
  have hl : lv_has ls 1 [(0, .ref h)] := hl
  refine lv_aload_n C.1 C.2.1 dX0_init_0 rfl (lv_at hl 0 rfl) ?_
  refine W.objInit C.1 C.2.1 C.2.2.2.1 (C.2.2.2.2 _ ml_X0_3) (C.2.2.2.2 _ im_objectInit) (C.2.2.2.2 _ cd_objectInit) rfl (by rw [C.2.2.1]; exact hl.1) rfl dX0_init_1 (Nat.le_of_ble_eq_true rfl) (Nat.le_of_ble_eq_true rfl) ?_
  refine W.eq (g2 := F0 mm 4 ls []) rfl ?_
  refine lv_aload_n C.1 C.2.1 dX0_init_4 rfl (lv_at hl 0 rfl) ?_
  refine lv_sipush (v := nI 256) C.1 C.2.1 dX0_init_5 (by decide) ?_
  refine q_newa (atype := .char) C hW rfl 0 rfl (fun _ _ h9 => h9) (C.2.2.2.2 _ ac_102) (256, .inl (aC (fun _ => 0))) (fun _ => rfl) (by decide) (by decide) (Nat.le_of_ble_eq_true rfl) (Nat.le_of_ble_eq_true rfl) dX0_init_8 (fun q_8 H hW => ?_)
  have hW : qW D g (va_A [(h, .inr (3, [.null, .null, .null, .null, .null, .null, .null, .null, .null, .null, .int (nI 0)]))] sz) ss.heap ss [(h, .inr (3, [.null, .null, .null, .null, .null, .null, .null, .null, .null, .null, .int (nI 0)])), (q_8, .inl (g 0, 256, .inl (aC (fun _ => 0))))] H _ := hW
  refine q_putF C hW 0 rfl rfl 0 (by decide) gu_X0 tyX0_ok nmX0 (C.2.2.2.2 _ fl_X0_11) rfl rfl hin rfl rfl rfl (Nat.le_of_ble_eq_true rfl) [(h, .inr (3, [.ref q_8, .null, .null, .null, .null, .null, .null, .null, .null, .null, .int (nI 0)])), (q_8, .inl (g 0, 256, .inl (aC (fun _ => 0))))] rfl dX0_init_10 (fun H locs hW => ?_)
  refine lv_aload_n C.1 C.2.1 dX0_init_13 rfl (lv_at hl 0 rfl) ?_
  refine lv_sipush (v := nI 256) C.1 C.2.1 dX0_init_14 (by decide) ?_
  refine q_newa (atype := .int) C hW rfl 1 rfl (fun _ _ h9 => h9) (C.2.2.2.2 _ ac_53) (256, .inl (fun _ => 0)) (fun _ => rfl) (by decide) (by decide) (Nat.le_of_ble_eq_true rfl) (Nat.le_of_ble_eq_true rfl) dX0_init_17 (fun q_17 H hW => ?_)
  have hW : qW D g (va_A [(h, .inr (3, [.null, .null, .null, .null, .null, .null, .null, .null, .null, .null, .int (nI 0)]))] sz) ss.heap ss [(h, .inr (3, [.ref q_8, .null, .null, .null, .null, .null, .null, .null, .null, .null, .int (nI 0)])), (q_8, .inl (g 0, 256, .inl (aC (fun _ => 0)))), (q_17, .inl (g 1, 256, .inl (fun _ => 0)))] H _ := hW
  refine q_putF C hW 0 rfl rfl 1 (by decide) gu_X0 tyX0_ok nmX0 (C.2.2.2.2 _ fl_X0_15) rfl rfl hin rfl rfl rfl (Nat.le_of_ble_eq_true rfl) [(h, .inr (3, [.ref q_8, .ref q_17, .null, .null, .null, .null, .null, .null, .null, .null, .int (nI 0)])), (q_8, .inl (g 0, 256, .inl (aC (fun _ => 0)))), (q_17, .inl (g 1, 256, .inl (fun _ => 0)))] rfl dX0_init_19 (fun H locs hW => ?_)
  refine lv_aload_n C.1 C.2.1 dX0_init_22 rfl (lv_at hl 0 rfl) ?_
  refine lv_sipush (v := nI 256) C.1 C.2.1 dX0_init_23 (by decide) ?_
  refine q_newa (atype := .int) C hW rfl 1 rfl (fun _ _ h9 => h9) (C.2.2.2.2 _ ac_53) (256, .inl (fun _ => 0)) (fun _ => rfl) (by decide) (by decide) (Nat.le_of_ble_eq_true rfl) (Nat.le_of_ble_eq_true rfl) dX0_init_26 (fun q_26 H hW => ?_)
  have hW : qW D g (va_A [(h, .inr (3, [.null, .null, .null, .null, .null, .null, .null, .null, .null, .null, .int (nI 0)]))] sz) ss.heap ss [(h, .inr (3, [.ref q_8, .ref q_17, .null, .null, .null, .null, .null, .null, .null, .null, .int (nI 0)])), (q_8, .inl (g 0, 256, .inl (aC (fun _ => 0)))), (q_17, .inl (g 1, 256, .inl (fun _ => 0))), (q_26, .inl (g 1, 256, .inl (fun _ => 0)))] H _ := hW
  refine q_putF C hW 0 rfl rfl 2 (by decide) gu_X0 tyX0_ok nmX0 (C.2.2.2.2 _ fl_X0_19) rfl rfl hin rfl rfl rfl (Nat.le_of_ble_eq_true rfl) [(h, .inr (3, [.ref q_8, .ref q_17, .ref q_26, .null, .null, .null, .null, .null, .null, .null, .int (nI 0)])), (q_8, .inl (g 0, 256, .inl (aC (fun _ => 0)))), (q_17, .inl (g 1, 256, .inl (fun _ => 0))), (q_26, .inl (g 1, 256, .inl (fun _ => 0)))] rfl dX0_init_28 (fun H locs hW => ?_)
  refine lv_aload_n C.1 C.2.1 dX0_init_31 rfl (lv_at hl 0 rfl) ?_
  refine lv_sipush (v := nI 256) C.1 C.2.1 dX0_init_32 (by decide) ?_
  refine q_newa (atype := .boolean) C hW rfl 2 rfl (fun _ _ h9 => h9) (C.2.2.2.2 _ ac_103) (256, .inl (aB (fun _ => false))) (fun _ => rfl) (by decide) (by decide) (Nat.le_of_ble_eq_true rfl) (Nat.le_of_ble_eq_true rfl) dX0_init_35 (fun q_35 H hW => ?_)
  have hW : qW D g (va_A [(h, .inr (3, [.null, .null, .null, .null, .null, .null, .null, .null, .null, .null, .int (nI 0)]))] sz) ss.heap ss [(h, .inr (3, [.ref q_8, .ref q_17, .ref q_26, .null, .null, .null, .null, .null, .null, .null, .int (nI 0)])), (q_8, .inl (g 0, 256, .inl (aC (fun _ => 0)))), (q_17, .inl (g 1, 256, .inl (fun _ => 0))), (q_26, .inl (g 1, 256, .inl (fun _ => 0))), (q_35, .inl (g 2, 256, .inl (aB (fun _ => false))))] H _ := hW
  refine q_putF C hW 0 rfl rfl 3 (by decide) gu_X0 tyX0_ok nmX0 (C.2.2.2.2 _ fl_X0_22) rfl rfl hin rfl rfl rfl (Nat.le_of_ble_eq_true rfl) [(h, .inr (3, [.ref q_8, .ref q_17, .ref q_26, .ref q_35, .null, .null, .null, .null, .null, .null, .int (nI 0)])), (q_8, .inl (g 0, 256, .inl (aC (fun _ => 0)))), (q_17, .inl (g 1, 256, .inl (fun _ => 0))), (q_26, .inl (g 1, 256, .inl (fun _ => 0))), (q_35, .inl (g 2, 256, .inl (aB (fun _ => false))))] rfl dX0_init_37 (fun H locs hW => ?_)
  refine lv_aload_n C.1 C.2.1 dX0_init_40 rfl (lv_at hl 0 rfl) ?_
  refine lv_iconst (v := nI 4) C.1 C.2.1 dX0_init_41 (by decide) ?_
  refine q_newa (atype := .boolean) C hW rfl 2 rfl (fun _ _ h9 => h9) (C.2.2.2.2 _ ac_103) (4, .inl (aB (fun _ => false))) (fun _ => rfl) (by decide) (by decide) (Nat.le_of_ble_eq_true rfl) (Nat.le_of_ble_eq_true rfl) dX0_init_42 (fun q_42 H hW => ?_)
  have hW : qW D g (va_A [(h, .inr (3, [.null, .null, .null, .null, .null, .null, .null, .null, .null, .null, .int (nI 0)]))] sz) ss.heap ss [(h, .inr (3, [.ref q_8, .ref q_17, .ref q_26, .ref q_35, .null, .null, .null, .null, .null, .null, .int (nI 0)])), (q_8, .inl (g 0, 256, .inl (aC (fun _ => 0)))), (q_17, .inl (g 1, 256, .inl (fun _ => 0))), (q_26, .inl (g 1, 256, .inl (fun _ => 0))), (q_35, .inl (g 2, 256, .inl (aB (fun _ => false)))), (q_42, .inl (g 2, 4, .inl (aB (fun _ => false))))] H _ := hW
  refine q_putF C hW 0 rfl rfl 4 (by decide) gu_X0 tyX0_ok nmX0 (C.2.2.2.2 _ fl_X0_26) rfl rfl hin rfl rfl rfl (Nat.le_of_ble_eq_true rfl) [(h, .inr (3, [.ref q_8, .ref q_17, .ref q_26, .ref q_35, .ref q_42, .null, .null, .null, .null, .null, .int (nI 0)])), (q_8, .inl (g 0, 256, .inl (aC (fun _ => 0)))), (q_17, .inl (g 1, 256, .inl (fun _ => 0))), (q_26, .inl (g 1, 256, .inl (fun _ => 0))), (q_35, .inl (g 2, 256, .inl (aB (fun _ => false)))), (q_42, .inl (g 2, 4, .inl (aB (fun _ => false))))] rfl dX0_init_44 (fun H locs hW => ?_)
  refine lv_aload_n C.1 C.2.1 dX0_init_47 rfl (lv_at hl 0 rfl) ?_
  refine lv_iconst (v := nI 4) C.1 C.2.1 dX0_init_48 (by decide) ?_
  refine q_newa (atype := .int) C hW rfl 1 rfl (fun _ _ h9 => h9) (C.2.2.2.2 _ ac_53) (4, .inl (fun _ => 0)) (fun _ => rfl) (by decide) (by decide) (Nat.le_of_ble_eq_true rfl) (Nat.le_of_ble_eq_true rfl) dX0_init_49 (fun q_49 H hW => ?_)
  have hW : qW D g (va_A [(h, .inr (3, [.null, .null, .null, .null, .null, .null, .null, .null, .null, .null, .int (nI 0)]))] sz) ss.heap ss [(h, .inr (3, [.ref q_8, .ref q_17, .ref q_26, .ref q_35, .ref q_42, .null, .null, .null, .null, .null, .int (nI 0)])), (q_8, .inl (g 0, 256, .inl (aC (fun _ => 0)))), (q_17, .inl (g 1, 256, .inl (fun _ => 0))), (q_26, .inl (g 1, 256, .inl (fun _ => 0))), (q_35, .inl (g 2, 256, .inl (aB (fun _ => false)))), (q_42, .inl (g 2, 4, .inl (aB (fun _ => false)))), (q_49, .inl (g 1, 4, .inl (fun _ => 0)))] H _ := hW
  refine q_putF C hW 0 rfl rfl 5 (by decide) gu_X0 tyX0_ok nmX0 (C.2.2.2.2 _ fl_X0_29) rfl rfl hin rfl rfl rfl (Nat.le_of_ble_eq_true rfl) [(h, .inr (3, [.ref q_8, .ref q_17, .ref q_26, .ref q_35, .ref q_42, .ref q_49, .null, .null, .null, .null, .int (nI 0)])), (q_8, .inl (g 0, 256, .inl (aC (fun _ => 0)))), (q_17, .inl (g 1, 256, .inl (fun _ => 0))), (q_26, .inl (g 1, 256, .inl (fun _ => 0))), (q_35, .inl (g 2, 256, .inl (aB (fun _ => false)))), (q_42, .inl (g 2, 4, .inl (aB (fun _ => false)))), (q_49, .inl (g 1, 4, .inl (fun _ => 0)))] rfl dX0_init_51 (fun H locs hW => ?_)
  refine lv_aload_n C.1 C.2.1 dX0_init_54 rfl (lv_at hl 0 rfl) ?_
  refine lv_iconst (v := nI 4) C.1 C.2.1 dX0_init_55 (by decide) ?_
  refine q_newa (atype := .int) C hW rfl 1 rfl (fun _ _ h9 => h9) (C.2.2.2.2 _ ac_53) (4, .inl (fun _ => 0)) (fun _ => rfl) (by decide) (by decide) (Nat.le_of_ble_eq_true rfl) (Nat.le_of_ble_eq_true rfl) dX0_init_56 (fun q_56 H hW => ?_)
  have hW : qW D g (va_A [(h, .inr (3, [.null, .null, .null, .null, .null, .null, .null, .null, .null, .null, .int (nI 0)]))] sz) ss.heap ss [(h, .inr (3, [.ref q_8, .ref q_17, .ref q_26, .ref q_35, .ref q_42, .ref q_49, .null, .null, .null, .null, .int (nI 0)])), (q_8, .inl (g 0, 256, .inl (aC (fun _ => 0)))), (q_17, .inl (g 1, 256, .inl (fun _ => 0))), (q_26, .inl (g 1, 256, .inl (fun _ => 0))), (q_35, .inl (g 2, 256, .inl (aB (fun _ => false)))), (q_42, .inl (g 2, 4, .inl (aB (fun _ => false)))), (q_49, .inl (g 1, 4, .inl (fun _ => 0))), (q_56, .inl (g 1, 4, .inl (fun _ => 0)))] H _ := hW
  refine q_putF C hW 0 rfl rfl 6 (by decide) gu_X0 tyX0_ok nmX0 (C.2.2.2.2 _ fl_X0_32) rfl rfl hin rfl rfl rfl (Nat.le_of_ble_eq_true rfl) [(h, .inr (3, [.ref q_8, .ref q_17, .ref q_26, .ref q_35, .ref q_42, .ref q_49, .ref q_56, .null, .null, .null, .int (nI 0)])), (q_8, .inl (g 0, 256, .inl (aC (fun _ => 0)))), (q_17, .inl (g 1, 256, .inl (fun _ => 0))), (q_26, .inl (g 1, 256, .inl (fun _ => 0))), (q_35, .inl (g 2, 256, .inl (aB (fun _ => false)))), (q_42, .inl (g 2, 4, .inl (aB (fun _ => false)))), (q_49, .inl (g 1, 4, .inl (fun _ => 0))), (q_56, .inl (g 1, 4, .inl (fun _ => 0)))] rfl dX0_init_58 (fun H locs hW => ?_)
  refine lv_aload_n C.1 C.2.1 dX0_init_61 rfl (lv_at hl 0 rfl) ?_
  refine lv_iconst (v := nI 4) C.1 C.2.1 dX0_init_62 (by decide) ?_
  refine q_newa (atype := .int) C hW rfl 1 rfl (fun _ _ h9 => h9) (C.2.2.2.2 _ ac_53) (4, .inl (fun _ => 0)) (fun _ => rfl) (by decide) (by decide) (Nat.le_of_ble_eq_true rfl) (Nat.le_of_ble_eq_true rfl) dX0_init_63 (fun q_63 H hW => ?_)
  have hW : qW D g (va_A [(h, .inr (3, [.null, .null, .null, .null, .null, .null, .null, .null, .null, .null, .int (nI 0)]))] sz) ss.heap ss [(h, .inr (3, [.ref q_8, .ref q_17, .ref q_26, .ref q_35, .ref q_42, .ref q_49, .ref q_56, .null, .null, .null, .int (nI 0)])), (q_8, .inl (g 0, 256, .inl (aC (fun _ => 0)))), (q_17, .inl (g 1, 256, .inl (fun _ => 0))), (q_26, .inl (g 1, 256, .inl (fun _ => 0))), (q_35, .inl (g 2, 256, .inl (aB (fun _ => false)))), (q_42, .inl (g 2, 4, .inl (aB (fun _ => false)))), (q_49, .inl (g 1, 4, .inl (fun _ => 0))), (q_56, .inl (g 1, 4, .inl (fun _ => 0))), (q_63, .inl (g 1, 4, .inl (fun _ => 0)))] H _ := hW
  refine q_putF C hW 0 rfl rfl 7 (by decide) gu_X0 tyX0_ok nmX0 (C.2.2.2.2 _ fl_X0_35) rfl rfl hin rfl rfl rfl (Nat.le_of_ble_eq_true rfl) [(h, .inr (3, [.ref q_8, .ref q_17, .ref q_26, .ref q_35, .ref q_42, .ref q_49, .ref q_56, .ref q_63, .null, .null, .int (nI 0)])), (q_8, .inl (g 0, 256, .inl (aC (fun _ => 0)))), (q_17, .inl (g 1, 256, .inl (fun _ => 0))), (q_26, .inl (g 1, 256, .inl (fun _ => 0))), (q_35, .inl (g 2, 256, .inl (aB (fun _ => false)))), (q_42, .inl (g 2, 4, .inl (aB (fun _ => false)))), (q_49, .inl (g 1, 4, .inl (fun _ => 0))), (q_56, .inl (g 1, 4, .inl (fun _ => 0))), (q_63, .inl (g 1, 4, .inl (fun _ => 0)))] rfl dX0_init_65 (fun H locs hW => ?_)
  refine lv_aload_n C.1 C.2.1 dX0_init_68 rfl (lv_at hl 0 rfl) ?_
  refine lv_iconst (v := nI 4) C.1 C.2.1 dX0_init_69 (by decide) ?_
  refine q_newa (atype := .int) C hW rfl 1 rfl (fun _ _ h9 => h9) (C.2.2.2.2 _ ac_53) (4, .inl (fun _ => 0)) (fun _ => rfl) (by decide) (by decide) (Nat.le_of_ble_eq_true rfl) (Nat.le_of_ble_eq_true rfl) dX0_init_70 (fun q_70 H hW => ?_)
  have hW : qW D g (va_A [(h, .inr (3, [.null, .null, .null, .null, .null, .null, .null, .null, .null, .null, .int (nI 0)]))] sz) ss.heap ss [(h, .inr (3, [.ref q_8, .ref q_17, .ref q_26, .ref q_35, .ref q_42, .ref q_49, .ref q_56, .ref q_63, .null, .null, .int (nI 0)])), (q_8, .inl (g 0, 256, .inl (aC (fun _ => 0)))), (q_17, .inl (g 1, 256, .inl (fun _ => 0))), (q_26, .inl (g 1, 256, .inl (fun _ => 0))), (q_35, .inl (g 2, 256, .inl (aB (fun _ => false)))), (q_42, .inl (g 2, 4, .inl (aB (fun _ => false)))), (q_49, .inl (g 1, 4, .inl (fun _ => 0))), (q_56, .inl (g 1, 4, .inl (fun _ => 0))), (q_63, .inl (g 1, 4, .inl (fun _ => 0))), (q_70, .inl (g 1, 4, .inl (fun _ => 0)))] H _ := hW
  refine q_putF C hW 0 rfl rfl 8 (by decide) gu_X0 tyX0_ok nmX0 (C.2.2.2.2 _ fl_X0_38) rfl rfl hin rfl rfl rfl (Nat.le_of_ble_eq_true rfl) [(h, .inr (3, [.ref q_8, .ref q_17, .ref q_26, .ref q_35, .ref q_42, .ref q_49, .ref q_56, .ref q_63, .ref q_70, .null, .int (nI 0)])), (q_8, .inl (g 0, 256, .inl (aC (fun _ => 0)))), (q_17, .inl (g 1, 256, .inl (fun _ => 0))), (q_26, .inl (g 1, 256, .inl (fun _ => 0))), (q_35, .inl (g 2, 256, .inl (aB (fun _ => false)))), (q_42, .inl (g 2, 4, .inl (aB (fun _ => false)))), (q_49, .inl (g 1, 4, .inl (fun _ => 0))), (q_56, .inl (g 1, 4, .inl (fun _ => 0))), (q_63, .inl (g 1, 4, .inl (fun _ => 0))), (q_70, .inl (g 1, 4, .inl (fun _ => 0)))] rfl dX0_init_72 (fun H locs hW => ?_)
  refine lv_aload_n C.1 C.2.1 dX0_init_75 rfl (lv_at hl 0 rfl) ?_
  refine lv_iconst (v := nI 4) C.1 C.2.1 dX0_init_76 (by decide) ?_
  refine q_newa (atype := .int) C hW rfl 1 rfl (fun _ _ h9 => h9) (C.2.2.2.2 _ ac_53) (4, .inl (fun _ => 0)) (fun _ => rfl) (by decide) (by decide) (Nat.le_of_ble_eq_true rfl) (Nat.le_of_ble_eq_true rfl) dX0_init_77 (fun q_77 H hW => ?_)
  have hW : qW D g (va_A [(h, .inr (3, [.null, .null, .null, .null, .null, .null, .null, .null, .null, .null, .int (nI 0)]))] sz) ss.heap ss [(h, .inr (3, [.ref q_8, .ref q_17, .ref q_26, .ref q_35, .ref q_42, .ref q_49, .ref q_56, .ref q_63, .ref q_70, .null, .int (nI 0)])), (q_8, .inl (g 0, 256, .inl (aC (fun _ => 0)))), (q_17, .inl (g 1, 256, .inl (fun _ => 0))), (q_26, .inl (g 1, 256, .inl (fun _ => 0))), (q_35, .inl (g 2, 256, .inl (aB (fun _ => false)))), (q_42, .inl (g 2, 4, .inl (aB (fun _ => false)))), (q_49, .inl (g 1, 4, .inl (fun _ => 0))), (q_56, .inl (g 1, 4, .inl (fun _ => 0))), (q_63, .inl (g 1, 4, .inl (fun _ => 0))), (q_70, .inl (g 1, 4, .inl (fun _ => 0))), (q_77, .inl (g 1, 4, .inl (fun _ => 0)))] H _ := hW
  refine q_putF C hW 0 rfl rfl 9 (by decide) gu_X0 tyX0_ok nmX0 (C.2.2.2.2 _ fl_X0_41) rfl rfl hin rfl rfl rfl (Nat.le_of_ble_eq_true rfl) [(h, .inr (3, [.ref q_8, .ref q_17, .ref q_26, .ref q_35, .ref q_42, .ref q_49, .ref q_56, .ref q_63, .ref q_70, .ref q_77, .int (nI 0)])), (q_8, .inl (g 0, 256, .inl (aC (fun _ => 0)))), (q_17, .inl (g 1, 256, .inl (fun _ => 0))), (q_26, .inl (g 1, 256, .inl (fun _ => 0))), (q_35, .inl (g 2, 256, .inl (aB (fun _ => false)))), (q_42, .inl (g 2, 4, .inl (aB (fun _ => false)))), (q_49, .inl (g 1, 4, .inl (fun _ => 0))), (q_56, .inl (g 1, 4, .inl (fun _ => 0))), (q_63, .inl (g 1, 4, .inl (fun _ => 0))), (q_70, .inl (g 1, 4, .inl (fun _ => 0))), (q_77, .inl (g 1, 4, .inl (fun _ => 0)))] rfl dX0_init_79 (fun H locs hW => ?_)
  refine lv_aload_n C.1 C.2.1 dX0_init_82 rfl (lv_at hl 0 rfl) ?_
  refine lv_iconst (v := nI 0) C.1 C.2.1 dX0_init_83 (by decide) ?_
  refine q_put C hW 0 rfl rfl 10 (by decide) gu_X0 tyX0_ok nmX0 (C.2.2.2.2 _ fl_X0_44) rfl rfl rfl rfl (Nat.le_of_ble_eq_true rfl) [(h, .inr (3, [.ref q_8, .ref q_17, .ref q_26, .ref q_35, .ref q_42, .ref q_49, .ref q_56, .ref q_63, .ref q_70, .ref q_77, .int (nI 0)])), (q_8, .inl (g 0, 256, .inl (aC (fun _ => 0)))), (q_17, .inl (g 1, 256, .inl (fun _ => 0))), (q_26, .inl (g 1, 256, .inl (fun _ => 0))), (q_35, .inl (g 2, 256, .inl (aB (fun _ => false)))), (q_42, .inl (g 2, 4, .inl (aB (fun _ => false)))), (q_49, .inl (g 1, 4, .inl (fun _ => 0))), (q_56, .inl (g 1, 4, .inl (fun _ => 0))), (q_63, .inl (g 1, 4, .inl (fun _ => 0))), (q_70, .inl (g 1, 4, .inl (fun _ => 0))), (q_77, .inl (g 1, 4, .inl (fun _ => 0)))] rfl dX0_init_84 (fun H locs hW => ?_)
  refine lv_aload_n C.1 C.2.1 dX0_init_87 rfl (lv_at hl 0 rfl) ?_
  have hW : qW D g (va_A [(h, .inr (3, [.null, .null, .null, .null, .null, .null, .null, .null, .null, .null, .int (nI 0)]))] sz) ss.heap ss (wC g h (fun i => [q_8, q_17, q_26, q_35, q_42, q_49, q_56, q_63, q_70, q_77].getD i 0) (fun _ => 0, fun _ => 0, fun _ => 0, fun _ => false, fun _ => false, fun _ => 0, fun _ => 0, fun _ => 0, fun _ => 0, fun _ => 0, 0)) H _ := hW
  refine q_callVv (rest := []) C (c_X0_clear l D g h (fun i => [q_8, q_17, q_26, q_35, q_42, q_49, q_56, q_63, q_70, q_77].getD i 0) ((fun _ => 0), (fun _ => 0), (fun _ => 0), (fun _ => false), (fun _ => false), (fun _ => 0), (fun _ => 0), (fun _ => 0), (fun _ => 0), (fun _ => 0), 0) _) (gw_V ml_X0_48 im_X0_clear se_X0_X0_clear ini_X0 cd_X0_clear rfl) rfl rfl rfl hd_X0_clear ⟨Nat.le_of_ble_eq_true rfl, Nat.le_of_ble_eq_true rfl⟩ hW pm_all (fun u_1 => (wC g h (fun i => [q_8, q_17, q_26, q_35, q_42, q_49, q_56, q_63, q_70, q_77].getD i 0) u_1)) (fun _ => pm_all) rfl rfl hl.1 rfl (Nat.le_of_ble_eq_true rfl) ⟨Nat.le_of_ble_eq_true rfl, Nat.le_of_ble_eq_true rfl⟩ dX0_init_88 (fun u_1 H locs e_1 hW => ?_)
  skip
  subst e_1
  exact q_vret C hRt hLk hW (fun i => [q_8, q_17, q_26, q_35, q_42, q_49, q_56, q_63, q_70, q_77].getD i 0) trivial rfl (Nat.le_of_ble_eq_true rfl) (Nat.le_of_ble_eq_true rfl) dX0_init_91

theorem hd_X1_init_ : yX1_init_.cls ≠ "java/lang/invoke/MethodHandle" ∧ yX1_init_.cls ≠ "java/lang/invoke/VarHandle" ∧ (parseMethodDescriptor yX1_init_.desc).map (fun d => d.parameters.length) = some 6 := by decide +kernel
set_option maxHeartbeats 4000000 in
set_option maxRecDepth 100000 in
theorem c_X1_init_ (l : Launch) (D : va_G) (g : Nat → ClassId) (h : Nat) (ev : Ev) (kd : Nat) (co : Nat) (na : Option Nat) (li : Option Nat) (cs : Nat) (ca : UInt16) (sz : Nat) : qMv l yX1_init_ (.code yX1_init_ cX1_init_ 7 none :: GW) ({ frames := 1, cells := 0, slots := 0, locals := 12 } : Room) D g [.ref h, .int (nI kd), .int (nI co), .int (oI na), .int (oI li), .int (nI cs), .int (cI ca)] (wE1 h ev) sz (fun (u : Ev) => (kd, co, na, li, cs, ca) = u) (fun (u : Ev) => (wE1 h u)) 0 0 := by
  refine q_entry (cc := cX1_init_) (nL := 7) (ret := none) rfl (by decide) (Nat.le_of_ble_eq_true rfl) (fun pp ee ss mm bb mt kc ls C hRt hLk hin hsz hW hl => ?_)
  have hl : lv_has ls 7 [(0, .ref h), (1, .int (nI kd)), (2, .int (nI co)), (3, .int (oI na)), (4, .int (oI li)), (5, .int (nI cs)), (6, .int (cI ca))] := hl
  refine lv_aload_n C.1 C.2.1 dX1_init__0 rfl (lv_at hl 0 rfl) ?_
  refine W.objInit C.1 C.2.1 C.2.2.2.1 (C.2.2.2.2 _ ml_X1_9) (C.2.2.2.2 _ im_objectInit) (C.2.2.2.2 _ cd_objectInit) rfl (by rw [C.2.2.1]; exact hl.1) rfl dX1_init__1 (Nat.le_of_ble_eq_true rfl) (Nat.le_of_ble_eq_true rfl) ?_
  refine W.eq (g2 := F0 mm 4 ls []) rfl ?_
  refine lv_aload_n C.1 C.2.1 dX1_init__4 rfl (lv_at hl 0 rfl) ?_
  refine lv_iload_n C.1 C.2.1 dX1_init__5 rfl (lv_at hl 1 rfl) ?_
  refine q_putF C hW 0 rfl rfl 0 (by decide) gu_X1 tyX1_ok nmX1 (C.2.2.2.2 _ fl_X1_14) rfl rfl hin rfl rfl rfl (Nat.le_of_ble_eq_true rfl) (wE1 h (kd, eCo ev, eNa ev, eLi ev, eCs ev, eCa ev)) rfl dX1_init__6 (fun H locs hW => ?_)
  refine lv_aload_n C.1 C.2.1 dX1_init__9 rfl (lv_at hl 0 rfl) ?_
  refine lv_iload_n C.1 C.2.1 dX1_init__10 rfl (lv_at hl 2 rfl) ?_
  refine q_putF C hW 0 rfl rfl 1 (by decide) gu_X1 tyX1_ok nmX1 (C.2.2.2.2 _ fl_X1_18) rfl rfl hin rfl rfl rfl (Nat.le_of_ble_eq_true rfl) (wE1 h (kd, co, eNa ev, eLi ev, eCs ev, eCa ev)) rfl dX1_init__11 (fun H locs hW => ?_)
  refine lv_aload_n C.1 C.2.1 dX1_init__14 rfl (lv_at hl 0 rfl) ?_
  refine lv_iload_n C.1 C.2.1 dX1_init__15 rfl (lv_at hl 3 rfl) ?_
  refine q_putF C hW 0 rfl rfl 2 (by decide) gu_X1 tyX1_ok nmX1 (C.2.2.2.2 _ fl_X1_21) rfl rfl hin rfl rfl rfl (Nat.le_of_ble_eq_true rfl) (wE1 h (kd, co, na, eLi ev, eCs ev, eCa ev)) rfl dX1_init__16 (fun H locs hW => ?_)
  refine lv_aload_n C.1 C.2.1 dX1_init__19 rfl (lv_at hl 0 rfl) ?_
  refine lv_iload C.1 C.2.1 dX1_init__20 (lv_at hl 4 rfl) ?_
  refine q_putF C hW 0 rfl rfl 3 (by decide) gu_X1 tyX1_ok nmX1 (C.2.2.2.2 _ fl_X1_24) rfl rfl hin rfl rfl rfl (Nat.le_of_ble_eq_true rfl) (wE1 h (kd, co, na, li, eCs ev, eCa ev)) rfl dX1_init__22 (fun H locs hW => ?_)
  refine lv_aload_n C.1 C.2.1 dX1_init__25 rfl (lv_at hl 0 rfl) ?_
  refine lv_iload C.1 C.2.1 dX1_init__26 (lv_at hl 5 rfl) ?_
  refine q_putF C hW 0 rfl rfl 4 (by decide) gu_X1 tyX1_ok nmX1 (C.2.2.2.2 _ fl_X1_27) rfl rfl hin rfl rfl rfl (Nat.le_of_ble_eq_true rfl) (wE1 h (kd, co, na, li, cs, eCa ev)) rfl dX1_init__28 (fun H locs hW => ?_)
  refine lv_aload_n C.1 C.2.1 dX1_init__31 rfl (lv_at hl 0 rfl) ?_
  refine lv_iload C.1 C.2.1 dX1_init__32 (lv_at hl 6 rfl) ?_
  refine q_putF C hW 0 rfl rfl 5 (by decide) gu_X1 tyX1_ok nmX1 (C.2.2.2.2 _ fl_X1_30) rfl rfl hin rfl (narC _) (fitC _) (Nat.le_of_ble_eq_true rfl) (wE1 h (kd, co, na, li, cs, ca)) rfl dX1_init__34 (fun H locs hW => ?_)
  exact q_vret C hRt hLk hW (kd, co, na, li, cs, ca) rfl  rfl (Nat.le_of_ble_eq_true rfl) (Nat.le_of_ble_eq_true rfl) dX1_init__37

theorem hd_X1_init : yX1_init.cls ≠ "java/lang/invoke/MethodHandle" ∧ yX1_init.cls ≠ "java/lang/invoke/VarHandle" ∧ (parseMethodDescriptor yX1_init.desc).map (fun d => d.parameters.length) = some 2 := by decide +kernel
set_option maxHeartbeats 4000000 in
set_option maxRecDepth 100000 in
theorem c_X1_init (l : Launch) (D : va_G) (g : Nat → ClassId) (h : Nat) (ev : Ev) (kd : Nat) (co : Nat) (sz : Nat) : qMv l yX1_init (.code yX1_init cX1_init 3 none :: GW) ({ frames := 2, cells := 0, slots := 0, locals := 38 } : Room) D g [.ref h, .int (nI kd), .int (nI co)] (wE1 h ev) sz (fun (u : Ev) => (kd, co, none, none, 0, UInt16.ofNat 45) = u) (fun (u : Ev) => (wE1 h u)) 0 0 := by
  refine q_entry (cc := cX1_init) (nL := 3) (ret := none) rfl (by decide) (Nat.le_of_ble_eq_true rfl) (fun pp ee ss mm bb mt kc ls C hRt hLk hin hsz hW hl => ?_)
  have hl : lv_has ls 3 [(0, .ref h), (1, .int (nI kd)), (2, .int (nI co))] := hl
  refine lv_aload_n C.1 C.2.1 dX1_init_0 rfl (lv_at hl 0 rfl) ?_
  refine lv_iload_n C.1 C.2.1 dX1_init_1 rfl (lv_at hl 1 rfl) ?_
  refine lv_iload_n C.1 C.2.1 dX1_init_2 rfl (lv_at hl 2 rfl) ?_
  refine lv_iconst (v := (-1)) C.1 C.2.1 dX1_init_3 (by decide) ?_
  refine lv_iconst (v := (-1)) C.1 C.2.1 dX1_init_4 (by decide) ?_
  refine lv_iconst (v := nI 0) C.1 C.2.1 dX1_init_5 (by decide) ?_
  refine lv_bipush (v := nI 45) C.1 C.2.1 dX1_init_6 (by decide) ?_
  refine q_callIv (rest := []) C (c_X1_init_ l D g h ev kd co none none 0 (UInt16.ofNat 45) _) (gw_self cd_X1_init_ rfl) (C.2.2.2.2 _ ini_X1) (C.2.2.2.2 _ ml_X1_5) (C.2.2.2.2 _ im_X1_init_) rfl rfl rfl rfl hd_X1_init_ ⟨Nat.le_of_ble_eq_true rfl, Nat.le_of_ble_eq_true rfl⟩ hW pm_all (fun u_1 => (wE1 h u_1)) (fun _ => pm_all) hl.1 rfl (Nat.le_of_ble_eq_true rfl) ⟨Nat.le_of_ble_eq_true rfl, Nat.le_of_ble_eq_true rfl⟩ dX1_init_8 (fun u_1 H locs e_1 hW => ?_)
  skip
  exact q_vret C hRt hLk hW u_1 (Eq.symm e_1.symm)  rfl (Nat.le_of_ble_eq_true rfl) (Nat.le_of_ble_eq_true rfl) dX1_init_11

theorem hd_X1_isAccess : yX1_isAccess.cls = RX1 ∧ yX1_isAccess.cls ≠ "java/lang/invoke/MethodHandle" ∧ yX1_isAccess.cls ≠ "java/lang/invoke/VarHandle" ∧ (parseMethodDescriptor yX1_isAccess.desc).map (fun d => d.parameters.length) = some 0 := by decide +kernel
set_option maxHeartbeats 4000000 in
set_option maxRecDepth 100000 in
theorem c_X1_isAccess (l : Launch) (D : va_G) (g : Nat → ClassId) (h : Nat) (ev : Ev) (hk : eKd ev < 5) (sz : Nat) : qMi l yX1_isAccess (.code yX1_isAccess cX1_isAccess 1 (some .boolean) :: GW) ({ frames := 0, cells := 0, slots := 0, locals := 0 } : Room) D g [.ref h] (wE1 h ev) sz (fun (r : Int32) (u : Ev) => bI (decide (eKd ev ≤ 1)) = r ∧ ev = u) (fun (u : Ev) => (wE1 h u)) 0 0 := by
  refine q_entry (cc := cX1_isAccess) (nL := 1) (ret := (some .boolean)) rfl (by decide) (Nat.le_of_ble_eq_true rfl) (fun pp ee ss mm bb mt kc ls C hRt hLk hin hsz hW hl => ?_)
  have hl : lv_has ls 1 [(0, .ref h)] := hl
  refine lv_aload_n C.1 C.2.1 dX1_isAccess_0 rfl (lv_at hl 0 rfl) ?_
  refine q_get (v := .int (nI (eKd ev))) C hW 0 rfl rfl 0 (by decide) gu_X1 (C.2.2.2.2 _ fl_X1_14) rfl rfl dX1_isAccess_1 ?_
  refine q_zeq (tgt := 15) C (by omega) dX1_isAccess_4 (by decide) (fun c_4 => ?_) (fun c_4 => ?_)
  · refine lv_iconst (v := nI 1) C.1 C.2.1 dX1_isAccess_15 (by decide) ?_
    refine lv_goto (tgt := 20) C.1 C.2.1 dX1_isAccess_16 (by decide) ?_
    exact q_iret C hRt hLk hW (by decide) ev ⟨(Eq.symm (by rw [decide_eq_true (by omega)]; rfl)), rfl⟩  rfl (Nat.le_of_ble_eq_true rfl) (Nat.le_of_ble_eq_true rfl) dX1_isAccess_20
  refine lv_aload_n C.1 C.2.1 dX1_isAccess_7 rfl (lv_at hl 0 rfl) ?_
  refine q_get (v := .int (nI (eKd ev))) C hW 0 rfl rfl 0 (by decide) gu_X1 (C.2.2.2.2 _ fl_X1_14) rfl rfl dX1_isAccess_8 ?_
  refine lv_iconst (v := nI 1) C.1 C.2.1 dX1_isAccess_11 (by decide) ?_
  refine q_ne (tgt := 19) C (by omega) (by omega) dX1_isAccess_12 (by decide) (fun c_12 => ?_) (fun c_12 => ?_)
  · refine lv_iconst (v := nI 0) C.1 C.2.1 dX1_isAccess_19 (by decide) ?_
    exact q_iret C hRt hLk hW (by decide) ev ⟨(Eq.symm (by rw [decide_eq_false (by omega)]; rfl)), rfl⟩  rfl (Nat.le_of_ble_eq_true rfl) (Nat.le_of_ble_eq_true rfl) dX1_isAccess_20
  refine lv_iconst (v := nI 1) C.1 C.2.1 dX1_isAccess_15 (by decide) ?_
  refine lv_goto (tgt := 20) C.1 C.2.1 dX1_isAccess_16 (by decide) ?_
  exact q_iret C hRt hLk hW (by decide) ev ⟨(Eq.symm (by rw [decide_eq_true (by omega)]; rfl)), rfl⟩  rfl (Nat.le_of_ble_eq_true rfl) (Nat.le_of_ble_eq_true rfl) dX1_isAccess_20

theorem hd_X1_isWrite : yX1_isWrite.cls = RX1 ∧ yX1_isWrite.cls ≠ "java/lang/invoke/MethodHandle" ∧ yX1_isWrite.cls ≠ "java/lang/invoke/VarHandle" ∧ (parseMethodDescriptor yX1_isWrite.desc).map (fun d => d.parameters.length) = some 0 := by decide +kernel
set_option maxHeartbeats 4000000 in
set_option maxRecDepth 100000 in
theorem c_X1_isWrite (l : Launch) (D : va_G) (g : Nat → ClassId) (h : Nat) (ev : Ev) (hk : eKd ev < 5) (sz : Nat) : qMi l yX1_isWrite (.code yX1_isWrite cX1_isWrite 1 (some .boolean) :: GW) ({ frames := 0, cells := 0, slots := 0, locals := 0 } : Room) D g [.ref h] (wE1 h ev) sz (fun (r : Int32) (u : Ev) => bI (decide (eKd ev = 1)) = r ∧ ev = u) (fun (u : Ev) => (wE1 h u)) 0 0 := by
  refine q_entry (cc := cX1_isWrite) (nL := 1) (ret := (some .boolean)) rfl (by decide) (Nat.le_of_ble_eq_true rfl) (fun pp ee ss mm bb mt kc ls C hRt hLk hin hsz hW hl => ?_)
  have hl : lv_has ls 1 [(0, .ref h)] := hl
  refine lv_aload_n C.1 C.2.1 dX1_isWrite_0 rfl (lv_at hl 0 rfl) ?_
  refine q_get (v := .int (nI (eKd ev))) C hW 0 rfl rfl 0 (by decide) gu_X1 (C.2.2.2.2 _ fl_X1_14) rfl rfl dX1_isWrite_1 ?_
  refine lv_iconst (v := nI 1) C.1 C.2.1 dX1_isWrite_4 (by decide) ?_
  refine q_ne (tgt := 12) C (by omega) (by omega) dX1_isWrite_5 (by decide) (fun c_5 => ?_) (fun c_5 => ?_)
  · refine lv_iconst (v := nI 0) C.1 C.2.1 dX1_isWrite_12 (by decide) ?_
    exact q_iret C hRt hLk hW (by decide) ev ⟨(Eq.symm (by rw [decide_eq_false c_5]; rfl)), rfl⟩  rfl (Nat.le_of_ble_eq_true rfl) (Nat.le_of_ble_eq_true rfl) dX1_isWrite_13
  refine lv_iconst (v := nI 1) C.1 C.2.1 dX1_isWrite_8 (by decide) ?_
  refine lv_goto (tgt := 13) C.1 C.2.1 dX1_isWrite_9 (by decide) ?_
  exact q_iret C hRt hLk hW (by decide) ev ⟨(Eq.symm (by rw [decide_eq_true c_5]; rfl)), rfl⟩  rfl (Nat.le_of_ble_eq_true rfl) (Nat.le_of_ble_eq_true rfl) dX1_isWrite_13
