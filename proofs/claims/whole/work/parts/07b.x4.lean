theorem hd_X4_nameOn : yX4_nameOn.cls = RX4 ∧ yX4_nameOn.cls ≠ "java/lang/invoke/MethodHandle" ∧ yX4_nameOn.cls ≠ "java/lang/invoke/VarHandle" ∧ (parseMethodDescriptor yX4_nameOn.desc).map (fun d => d.parameters.length) = some 1 := by decide +kernel
set_option maxHeartbeats 4000000 in
set_option maxRecDepth 100000 in
theorem c_X4_nameOn (l : Launch) (D : va_G) (g : Nat → ClassId) (h : Nat) (a : Nat → Nat) (M : MdS) (x : Nat) (hM : MOK M) (hx : x < 1024) (sz : Nat) : qMi l yX4_nameOn (.code yX4_nameOn cX4_nameOn 3 (some .int) :: GW) ({ frames := 1, cells := 0, slots := 0, locals := 22 } : Room) D g [.ref h, .int (nI x)] (wM g h a M) sz (fun (r : Int32) (u : MdS) => oI (mNameOn M x) = r ∧ M = u) (fun (u : MdS) => (wM g h a u)) 0 0 := by
  refine q_entry (cc := cX4_nameOn) (nL := 3) (ret := (some .int)) rfl (by decide) (Nat.le_of_ble_eq_true rfl) (fun pp ee ss mm bb mt kc ls C hRt hLk hin hsz hW hl => ?_)
  have hl : lv_has ls 3 [(0, .ref h), (1, .int (nI x))] := hl
  have h12 := hM.1
  have hcp1 := hM.2.2.2.2.1
  have hcp2 := hM.2.2.2.2.2.2
  refine lv_iconst (v := nI 0) C.1 C.2.1 dX4_nameOn_0 (by decide) ?_
  refine lv_istore_n (lv' := [(2, .int (nI 0)), (0, .ref h), (1, .int (nI x))]) C.1 C.2.1 dX4_nameOn_1 rfl hl (by decide) rfl (fun ls hl => ?_)
  have L_2 : ∀ (nf : Nat) (i : Nat) (hi : i ≤ mNm M) (hj : ∀ j, j < i → mAt M x j = false) (x2 : Int32) (e2 : x2 = nI i) (hmu : mNm M - i < nf) (ls : Array Slot) (H : Heap) (locs : List Loc), lv_has ls 3 [(0, .ref h), (1, .int (nI x)), (2, .int x2)] → qW D g (va_A (wM g h a M) sz) ss.heap ss (wM g h a M) H locs → W pp l ee ({ frames := 1, cells := 0, slots := 0, locals := 22 } : Room) ss mm [.ref h, .int (nI x)].toArray bb mt kc H locs 0 0 (MQ bb (va_Qi (fun (r : Int32) (u : MdS) => oI (mNameOn M x) = r ∧ M = u) (qB D g (wM g h a M) sz (fun (u : MdS) => (wM g h a u))) (va_A (wM g h a M) sz)) [.ref h, .int (nI x)].toArray ss 0 0 (va_A (wM g h a M) sz)) (F0 mm 2 ls []) := by
    intro nf
    induction nf with
    | zero =>
      intro i hi hj x2 e2 hmu ls H locs hl hW
      exact absurd hmu (by omega)
    | succ nf ih =>
      intro i hi hj x2 e2 hmu ls H locs hl hW
      subst e2
      refine lv_iload_n C.1 C.2.1 dX4_nameOn_2 rfl (lv_at hl 2 rfl) ?_
      refine lv_aload_n C.1 C.2.1 dX4_nameOn_3 rfl (lv_at hl 0 rfl) ?_
      refine q_get (v := .int (nI (mNm M))) C hW 0 rfl rfl 18 (by decide) gu_X4 (C.2.2.2.2 _ fl_X4_67) rfl rfl dX4_nameOn_4 ?_
      refine q_ge (tgt := 55) C (by omega) (by omega) dX4_nameOn_7 (by decide) (fun c_7 => ?_) (fun c_7 => ?_)
      · refine lv_iconst (v := (-1)) C.1 C.2.1 dX4_nameOn_55 (by decide) ?_
        exact q_iret C hRt hLk hW rfl M ⟨(Eq.symm (by unfold mNameOn; rw [srch_none (fun j hj9 => hj j (by omega))]; rfl)), rfl⟩  rfl (Nat.le_of_ble_eq_true rfl) (Nat.le_of_ble_eq_true rfl) dX4_nameOn_56
      refine lv_aload_n C.1 C.2.1 dX4_nameOn_10 rfl (lv_at hl 0 rfl) ?_
      refine q_get (v := .ref (a 1)) C hW 0 rfl rfl 1 (by decide) gu_X4 (C.2.2.2.2 _ fl_X4_13) rfl rfl dX4_nameOn_11 ?_
      refine lv_iload_n C.1 C.2.1 dX4_nameOn_14 rfl (lv_at hl 2 rfl) ?_
      refine q_ialdO (f := mPl M) C hW 2 rfl (k := i) (by omega) (by decide) dX4_nameOn_15 ?_
      refine q_olt (o := (mPl M) i) (tgt := 49) C (fun i9 e9 => by have := hM.st (by omega) e9; omega) dX4_nameOn_16 (by decide) (fun o_16 => ?_) (fun j_16 o_16 => ?_)
      · refine q_iinc (d := 1) (lv' := [(2, .int (nI (i + 1))), (0, .ref h), (1, .int (nI x))]) C dX4_nameOn_49 (by decide) hl (k := 2) rfl (by decide) rfl (fun ls hl => ?_)
        refine lv_goto (tgt := 2) C.1 C.2.1 dX4_nameOn_52 (by decide) ?_
        exact ih (i + 1) (by omega) (fun j hj9 => (Nat.lt_succ_iff_lt_or_eq.mp hj9).elim (hj j) (fun e9 => by rw [e9]; exact mAt_0 o_16)) _ rfl (by omega) ls _ _ (lv_sub hl [1, 2, 0] rfl) hW
      have hj_16 := hM.st (i := i) (by omega) o_16
      have hz := hM.sz (i := i) (by omega)
      have hz1 := hM.2.2.2.1 i (by omega)
      refine lv_iload_n C.1 C.2.1 dX4_nameOn_19 rfl (lv_at hl 1 rfl) ?_
      refine lv_aload_n C.1 C.2.1 dX4_nameOn_20 rfl (lv_at hl 0 rfl) ?_
      refine q_get (v := .ref (a 1)) C hW 0 rfl rfl 1 (by decide) gu_X4 (C.2.2.2.2 _ fl_X4_13) rfl rfl dX4_nameOn_21 ?_
      refine lv_iload_n C.1 C.2.1 dX4_nameOn_24 rfl (lv_at hl 2 rfl) ?_
      refine q_ialdO (f := mPl M) C hW 2 rfl (k := i) (by omega) (by decide) dX4_nameOn_25 ?_
      refine q_to (y := nI j_16) (by rw [o_16]; rfl) ?_
      refine lv_aload_n C.1 C.2.1 dX4_nameOn_26 rfl (lv_at hl 0 rfl) ?_
      refine q_get (v := .ref (a 1)) C hW 0 rfl rfl 1 (by decide) gu_X4 (C.2.2.2.2 _ fl_X4_13) rfl rfl dX4_nameOn_27 ?_
      refine lv_iload_n C.1 C.2.1 dX4_nameOn_30 rfl (lv_at hl 2 rfl) ?_
      refine q_ialdO (f := mPl M) C hW 2 rfl (k := i) (by omega) (by decide) dX4_nameOn_31 ?_
      refine q_to (y := nI j_16) (by rw [o_16]; rfl) ?_
      refine lv_aload_n C.1 C.2.1 dX4_nameOn_32 rfl (lv_at hl 0 rfl) ?_
      refine q_get (v := .ref (a 0)) C hW 0 rfl rfl 0 (by decide) gu_X4 (C.2.2.2.2 _ fl_X4_7) rfl rfl dX4_nameOn_33 ?_
      refine lv_iload_n C.1 C.2.1 dX4_nameOn_36 rfl (lv_at hl 2 rfl) ?_
      refine q_ialdN (f := mWd M) C hW 1 rfl (k := i) (by omega) (by decide) dX4_nameOn_37 ?_
      refine q_iadd C dX4_nameOn_38 ?_
      refine lv_iconst (v := nI 1) C.1 C.2.1 dX4_nameOn_39 (by decide) ?_
      refine q_isub C (by omega) dX4_nameOn_40 ?_
      refine q_callSi (rest := []) C (c_X4_in_N l D g x j_16 (j_16 + (mWd M) i - 1) (by omega) (by omega) (by omega) _) (gw_S ml_X4_76 sm_X4_in ini_X4 cd_X4_in rfl) rfl rfl rfl hd_X4_in ⟨Nat.le_of_ble_eq_true rfl, Nat.le_of_ble_eq_true rfl⟩ hW (List.Perm.refl _) (fun (u_1 : Unit) => (wM g h a M)) (fun _ => List.Perm.refl _) hl.1 rfl (Nat.le_of_ble_eq_true rfl) ⟨Nat.le_of_ble_eq_true rfl, Nat.le_of_ble_eq_true rfl⟩ dX4_nameOn_41 (fun r_1 u_1 H locs e_1 hW => ?_)
      subst e_1
      refine q_bt (b := decide (j_16 ≤ x ∧ x ≤ (j_16 + (mWd M) i - 1))) (tgt := 49) C dX4_nameOn_44 (by decide) (fun c_44 => ?_) (fun c_44 => ?_)
      · refine q_iinc (d := 1) (lv' := [(2, .int (nI (i + 1))), (0, .ref h), (1, .int (nI x))]) C dX4_nameOn_49 (by decide) hl (k := 2) rfl (by decide) rfl (fun ls hl => ?_)
        refine lv_goto (tgt := 2) C.1 C.2.1 dX4_nameOn_52 (by decide) ?_
        exact ih (i + 1) (by omega) (fun j hj9 => (Nat.lt_succ_iff_lt_or_eq.mp hj9).elim (hj j) (fun e9 => by rw [e9]; exact mAt_1 o_16 (by have h9 := of_decide_eq_false c_44; omega))) _ rfl (by omega) ls _ _ (lv_sub hl [1, 2, 0] rfl) hW
      refine lv_iload_n C.1 C.2.1 dX4_nameOn_47 rfl (lv_at hl 2 rfl) ?_
      exact q_iret C hRt hLk hW rfl M ⟨(Eq.symm (by unfold mNameOn; rw [srch_some hj (by omega) (mAt_t o_16 (by have h9 := of_decide_eq_true c_44; omega))]; rfl)), rfl⟩  rfl (Nat.le_of_ble_eq_true rfl) (Nat.le_of_ble_eq_true rfl) dX4_nameOn_48
  exact L_2 (mNm M - 0 + 1) 0 (by omega) (fun j hj9 => absurd hj9 (by omega)) _ rfl (by omega) ls _ _ (lv_sub hl [1, 2, 0] rfl) hW

theorem hd_X4_fits : yX4_fits.cls = RX4 ∧ yX4_fits.cls ≠ "java/lang/invoke/MethodHandle" ∧ yX4_fits.cls ≠ "java/lang/invoke/VarHandle" ∧ (parseMethodDescriptor yX4_fits.desc).map (fun d => d.parameters.length) = some 2 := by decide +kernel
set_option maxHeartbeats 4000000 in
set_option maxRecDepth 100000 in
theorem c_X4_fits (l : Launch) (D : va_G) (g : Nat → ClassId) (h : Nat) (a : Nat → Nat) (M : MdS) (n : Nat) (x : Nat) (hM : MOK M) (hn : n < mNm M) (hx : x < 600) (sz : Nat) : qMi l yX4_fits (.code yX4_fits cX4_fits 4 (some .boolean) :: GW) ({ frames := 2, cells := 0, slots := 0, locals := 44 } : Room) D g [.ref h, .int (nI n), .int (nI x)] (wM g h a M) sz (fun (r : Int32) (u : MdS) => bI (mFits M n x) = r ∧ M = u) (fun (u : MdS) => (wM g h a u)) 0 0 := by
  refine q_entry (cc := cX4_fits) (nL := 4) (ret := (some .boolean)) rfl (by decide) (Nat.le_of_ble_eq_true rfl) (fun pp ee ss mm bb mt kc ls C hRt hLk hin hsz hW hl => ?_)
  have hl : lv_has ls 4 [(0, .ref h), (1, .int (nI n)), (2, .int (nI x))] := hl
  have h12 := hM.1
  have hcp1 := hM.2.2.2.2.1
  have hcp2 := hM.2.2.2.2.2.2
  have hz := hM.sz (i := n) (by omega)
  refine lv_iload_n C.1 C.2.1 dX4_fits_0 rfl (lv_at hl 2 rfl) ?_
  refine lv_aload_n C.1 C.2.1 dX4_fits_1 rfl (lv_at hl 0 rfl) ?_
  refine q_get (v := .ref (a 0)) C hW 0 rfl rfl 0 (by decide) gu_X4 (C.2.2.2.2 _ fl_X4_7) rfl rfl dX4_fits_2 ?_
  refine lv_iload_n C.1 C.2.1 dX4_fits_5 rfl (lv_at hl 1 rfl) ?_
  refine q_ialdN (f := mWd M) C hW 1 rfl (k := n) (by omega) (by decide) dX4_fits_6 ?_
  refine q_iadd C dX4_fits_7 ?_
  refine lv_sipush (v := nI 512) C.1 C.2.1 dX4_fits_8 (by decide) ?_
  refine q_le (tgt := 16) C (by omega) (by omega) dX4_fits_11 (by decide) (fun c_11 => ?_) (fun c_11 => ?_)
  · refine lv_iconst (v := nI 0) C.1 C.2.1 dX4_fits_16 (by decide) ?_
    refine lv_istore_n (lv' := [(3, .int (nI 0)), (0, .ref h), (1, .int (nI n)), (2, .int (nI x))]) C.1 C.2.1 dX4_fits_17 rfl hl (by decide) rfl (fun ls hl => ?_)
    have L_18 : ∀ (nf : Nat) (i : Nat) (hi : i ≤ mWd M n) (hj : ∀ j, j < i → (fun k => (mNameOn M (x + k)).isNone) j = true) (x3 : Int32) (e3 : x3 = nI i) (hmu : mWd M n - i < nf) (ls : Array Slot) (H : Heap) (locs : List Loc), lv_has ls 4 [(0, .ref h), (1, .int (nI n)), (2, .int (nI x)), (3, .int x3)] → qW D g (va_A (wM g h a M) sz) ss.heap ss (wM g h a M) H locs → W pp l ee ({ frames := 2, cells := 0, slots := 0, locals := 44 } : Room) ss mm [.ref h, .int (nI n), .int (nI x)].toArray bb mt kc H locs 0 0 (MQ bb (va_Qi (fun (r : Int32) (u : MdS) => bI (mFits M n x) = r ∧ M = u) (qB D g (wM g h a M) sz (fun (u : MdS) => (wM g h a u))) (va_A (wM g h a M) sz)) [.ref h, .int (nI n), .int (nI x)].toArray ss 0 0 (va_A (wM g h a M) sz)) (F0 mm 18 ls []) := by
      intro nf
      induction nf with
      | zero =>
        intro i hi hj x3 e3 hmu ls H locs hl hW
        exact absurd hmu (by omega)
      | succ nf ih =>
        intro i hi hj x3 e3 hmu ls H locs hl hW
        subst e3
        refine lv_iload_n C.1 C.2.1 dX4_fits_18 rfl (lv_at hl 3 rfl) ?_
        refine lv_aload_n C.1 C.2.1 dX4_fits_19 rfl (lv_at hl 0 rfl) ?_
        refine q_get (v := .ref (a 0)) C hW 0 rfl rfl 0 (by decide) gu_X4 (C.2.2.2.2 _ fl_X4_7) rfl rfl dX4_fits_20 ?_
        refine lv_iload_n C.1 C.2.1 dX4_fits_23 rfl (lv_at hl 1 rfl) ?_
        refine q_ialdN (f := mWd M) C hW 1 rfl (k := n) (by omega) (by decide) dX4_fits_24 ?_
        refine q_ge (tgt := 46) C (by omega) (by omega) dX4_fits_25 (by decide) (fun c_25 => ?_) (fun c_25 => ?_)
        · refine lv_iconst (v := nI 1) C.1 C.2.1 dX4_fits_46 (by decide) ?_
          exact q_iret C hRt hLk hW (by decide) M ⟨(Eq.symm (by unfold mFits; rw [decide_eq_true (by omega), allB_t (fun j hj9 => hj j (by omega))]; rfl)), rfl⟩  rfl (Nat.le_of_ble_eq_true rfl) (Nat.le_of_ble_eq_true rfl) dX4_fits_47
        refine lv_aload_n C.1 C.2.1 dX4_fits_28 rfl (lv_at hl 0 rfl) ?_
        refine lv_iload_n C.1 C.2.1 dX4_fits_29 rfl (lv_at hl 2 rfl) ?_
        refine lv_iload_n C.1 C.2.1 dX4_fits_30 rfl (lv_at hl 3 rfl) ?_
        refine q_iadd C dX4_fits_31 ?_
        refine q_callVi (rest := []) C (c_X4_nameOn l D g h a M (x + i) hM (by omega) _) (gw_V ml_X4_80 im_X4_nameOn se_X4_X4_nameOn ini_X4 cd_X4_nameOn rfl) rfl rfl rfl hd_X4_nameOn ⟨Nat.le_of_ble_eq_true rfl, Nat.le_of_ble_eq_true rfl⟩ hW pm_all (fun u_1 => (wM g h a u_1)) (fun _ => pm_all) rfl rfl hl.1 rfl (Nat.le_of_ble_eq_true rfl) ⟨Nat.le_of_ble_eq_true rfl, Nat.le_of_ble_eq_true rfl⟩ dX4_fits_32 (fun r_1 u_1 H locs e_1 hW => ?_)
        obtain ⟨rfl, rfl⟩ := e_1
        refine q_olt (o := mNameOn M (x + i)) (tgt := 40) C (fun i9 e9 => by have := (srch_spec e9).1; omega) dX4_fits_35 (by decide) (fun o_35 => ?_) (fun j_35 o_35 => ?_)
        · refine q_iinc (d := 1) (lv' := [(3, .int (nI (i + 1))), (0, .ref h), (1, .int (nI n)), (2, .int (nI x))]) C dX4_fits_40 (by decide) hl (k := 3) rfl (by decide) rfl (fun ls hl => ?_)
          refine lv_goto (tgt := 18) C.1 C.2.1 dX4_fits_43 (by decide) ?_
          exact ih (i + 1) (by omega) (fun j hj9 => (Nat.lt_succ_iff_lt_or_eq.mp hj9).elim (hj j) (fun e9 => by rw [e9]; exact (show (mNameOn M (x + i)).isNone = true by rw [o_35]; rfl))) _ rfl (by omega) ls _ _ (lv_sub hl [1, 2, 3, 0] rfl) hW
        refine lv_iconst (v := nI 0) C.1 C.2.1 dX4_fits_38 (by decide) ?_
        exact q_iret C hRt hLk hW (by decide) M ⟨(Eq.symm (by unfold mFits; rw [allB_f (i := i) (by omega) (by rw [o_35]; rfl), Bool.and_false]; rfl)), rfl⟩  rfl (Nat.le_of_ble_eq_true rfl) (Nat.le_of_ble_eq_true rfl) dX4_fits_39
    exact L_18 (mWd M n - 0 + 1) 0 (by omega) (fun j hj9 => absurd hj9 (by omega)) _ rfl (by omega) ls _ _ (lv_sub hl [1, 2, 3, 0] rfl) hW
  refine lv_iconst (v := nI 0) C.1 C.2.1 dX4_fits_14 (by decide) ?_
  exact q_iret C hRt hLk hW (by decide) M ⟨(Eq.symm (by unfold mFits; rw [decide_eq_false (by omega)]; rfl)), rfl⟩  rfl (Nat.le_of_ble_eq_true rfl) (Nat.le_of_ble_eq_true rfl) dX4_fits_15

theorem hd_X4_lowest : yX4_lowest.cls = RX4 ∧ yX4_lowest.cls ≠ "java/lang/invoke/MethodHandle" ∧ yX4_lowest.cls ≠ "java/lang/invoke/VarHandle" ∧ (parseMethodDescriptor yX4_lowest.desc).map (fun d => d.parameters.length) = some 2 := by decide +kernel
set_option maxHeartbeats 4000000 in
set_option maxRecDepth 100000 in
theorem c_X4_lowest (l : Launch) (D : va_G) (g : Nat → ClassId) (h : Nat) (a : Nat → Nat) (M : MdS) (n : Nat) (al : Nat) (hM : MOK M) (hn : n < mNm M) (ha : 1 ≤ al) (ha2 : al ≤ 64) (sz : Nat) : qMi l yX4_lowest (.code yX4_lowest cX4_lowest 4 (some .int) :: GW) ({ frames := 3, cells := 0, slots := 0, locals := 67 } : Room) D g [.ref h, .int (nI n), .int (nI al)] (wM g h a M) sz (fun (r : Int32) (u : MdS) => oI (mLow M n al) = r ∧ M = u) (fun (u : MdS) => (wM g h a u)) 0 0 := by
  refine q_entry (cc := cX4_lowest) (nL := 4) (ret := (some .int)) rfl (by decide) (Nat.le_of_ble_eq_true rfl) (fun pp ee ss mm bb mt kc ls C hRt hLk hin hsz hW hl => ?_)
  have hl : lv_has ls 4 [(0, .ref h), (1, .int (nI n)), (2, .int (nI al))] := hl
  have h12 := hM.1
  have hcp1 := hM.2.2.2.2.1
  have hcp2 := hM.2.2.2.2.2.2
  refine lv_iconst (v := nI 0) C.1 C.2.1 dX4_lowest_0 (by decide) ?_
  refine lv_istore_n (lv' := [(3, .int (nI 0)), (0, .ref h), (1, .int (nI n)), (2, .int (nI al))]) C.1 C.2.1 dX4_lowest_1 rfl hl (by decide) rfl (fun ls hl => ?_)
  have L_2 : ∀ (nf : Nat) (i : Nat) (hi : i ≤ 512) (hj : ∀ j, j < i → mFits M n (j * al) = false) (x3 : Int32) (e3 : x3 = nI (i * al)) (hmu : 513 - i < nf) (ls : Array Slot) (H : Heap) (locs : List Loc), lv_has ls 4 [(0, .ref h), (1, .int (nI n)), (2, .int (nI al)), (3, .int x3)] → qW D g (va_A (wM g h a M) sz) ss.heap ss (wM g h a M) H locs → W pp l ee ({ frames := 3, cells := 0, slots := 0, locals := 67 } : Room) ss mm [.ref h, .int (nI n), .int (nI al)].toArray bb mt kc H locs 0 0 (MQ bb (va_Qi (fun (r : Int32) (u : MdS) => oI (mLow M n al) = r ∧ M = u) (qB D g (wM g h a M) sz (fun (u : MdS) => (wM g h a u))) (va_A (wM g h a M) sz)) [.ref h, .int (nI n), .int (nI al)].toArray ss 0 0 (va_A (wM g h a M) sz)) (F0 mm 2 ls []) := by
    intro nf
    induction nf with
    | zero =>
      intro i hi hj x3 e3 hmu ls H locs hl hW
      exact absurd hmu (by omega)
    | succ nf ih =>
      intro i hi hj x3 e3 hmu ls H locs hl hW
      subst e3
      have hb9 : i * al ≤ 512 * 64 := Nat.mul_le_mul hi ha2
      refine lv_iload_n C.1 C.2.1 dX4_lowest_2 rfl (lv_at hl 3 rfl) ?_
      refine lv_sipush (v := nI 512) C.1 C.2.1 dX4_lowest_3 (by decide) ?_
      refine q_ge (tgt := 27) C (by omega) (by omega) dX4_lowest_6 (by decide) (fun c_6 => ?_) (fun c_6 => ?_)
      · refine lv_iconst (v := (-1)) C.1 C.2.1 dX4_lowest_27 (by decide) ?_
        exact q_iret C hRt hLk hW rfl M ⟨(Eq.symm (by unfold mLow; rw [srch_none (fun j hj9 => (Nat.lt_or_ge j i).elim (fun h9 => by rw [hj j h9, Bool.and_false]) (fun h9 => by have h8 : i * al ≤ j * al := Nat.mul_le_mul_right al h9; rw [decide_eq_false (by omega)]; rfl))]; rfl)), rfl⟩  rfl (Nat.le_of_ble_eq_true rfl) (Nat.le_of_ble_eq_true rfl) dX4_lowest_28
      refine lv_aload_n C.1 C.2.1 dX4_lowest_9 rfl (lv_at hl 0 rfl) ?_
      refine lv_iload_n C.1 C.2.1 dX4_lowest_10 rfl (lv_at hl 1 rfl) ?_
      refine lv_iload_n C.1 C.2.1 dX4_lowest_11 rfl (lv_at hl 3 rfl) ?_
      refine q_callVi (rest := []) C (c_X4_fits l D g h a M n (i * al) hM (by omega) (by omega) _) (gw_V ml_X4_88 im_X4_fits se_X4_X4_fits ini_X4 cd_X4_fits rfl) rfl rfl rfl hd_X4_fits ⟨Nat.le_of_ble_eq_true rfl, Nat.le_of_ble_eq_true rfl⟩ hW pm_all (fun u_1 => (wM g h a u_1)) (fun _ => pm_all) rfl rfl hl.1 rfl (Nat.le_of_ble_eq_true rfl) ⟨Nat.le_of_ble_eq_true rfl, Nat.le_of_ble_eq_true rfl⟩ dX4_lowest_12 (fun r_1 u_1 H locs e_1 hW => ?_)
      obtain ⟨rfl, rfl⟩ := e_1
      refine q_bt (b := mFits M n (i * al)) (tgt := 20) C dX4_lowest_15 (by decide) (fun c_15 => ?_) (fun c_15 => ?_)
      · refine lv_iload_n C.1 C.2.1 dX4_lowest_20 rfl (lv_at hl 3 rfl) ?_
        refine lv_iload_n C.1 C.2.1 dX4_lowest_21 rfl (lv_at hl 2 rfl) ?_
        refine q_iadd C dX4_lowest_22 ?_
        refine lv_istore_n (lv' := [(3, .int (nI (i * al + al))), (0, .ref h), (1, .int (nI n)), (2, .int (nI al))]) C.1 C.2.1 dX4_lowest_23 rfl hl (by decide) rfl (fun ls hl => ?_)
        refine lv_goto (tgt := 2) C.1 C.2.1 dX4_lowest_24 (by decide) ?_
        exact ih (i + 1) (by have h9 : i * 1 ≤ i * al := Nat.mul_le_mul_left i (by omega); omega) (fun j hj9 => (Nat.lt_succ_iff_lt_or_eq.mp hj9).elim (hj j) (fun e9 => by rw [e9]; exact c_15)) _ (by rw [Nat.add_mul, Nat.one_mul]) (by omega) ls _ _ (lv_sub hl [1, 2, 3, 0] rfl) hW
      refine lv_iload_n C.1 C.2.1 dX4_lowest_18 rfl (lv_at hl 3 rfl) ?_
      exact q_iret C hRt hLk hW rfl M ⟨(Eq.symm (by unfold mLow; rw [srch_some (i := i) (fun j hj9 => by rw [hj j hj9, Bool.and_false]) (by have h9 : i * 1 ≤ i * al := Nat.mul_le_mul_left i (by omega); omega) (by rw [c_15, decide_eq_true (by omega)]; rfl)]; rfl)), rfl⟩  rfl (Nat.le_of_ble_eq_true rfl) (Nat.le_of_ble_eq_true rfl) dX4_lowest_19
  exact L_2 (513 - 0 + 1) 0 (Nat.zero_le _) (fun j hj9 => absurd hj9 (by omega)) _ (by rw [Nat.zero_mul]) (by omega) ls _ _ (lv_sub hl [1, 2, 3, 0] rfl) hW

theorem hd_X4_wrongAccess : yX4_wrongAccess.cls = RX4 ∧ yX4_wrongAccess.cls ≠ "java/lang/invoke/MethodHandle" ∧ yX4_wrongAccess.cls ≠ "java/lang/invoke/VarHandle" ∧ (parseMethodDescriptor yX4_wrongAccess.desc).map (fun d => d.parameters.length) = some 3 := by decide +kernel
set_option maxHeartbeats 4000000 in
set_option maxRecDepth 100000 in
theorem c_X4_wrongAccess (l : Launch) (D : va_G) (g : Nat → ClassId) (h : Nat) (a : Nat → Nat) (M : MdS) (v1 : Int32) (v2 : Int32) (v3 : Int32) (hM : MOK M) (sz : Nat) : qMi l yX4_wrongAccess (.code yX4_wrongAccess cX4_wrongAccess 4 (some .int) :: GW) ({ frames := 2, cells := 0, slots := 0, locals := 43 } : Room) D g [.ref h, .int v1, .int v2, .int v3] (wM g h a M) sz (fun (r : Int32) (u : MdS) => nI (mWrong M v1 v2 v3) = r ∧ M = u) (fun (u : MdS) => (wM g h a u)) 0 0 := by
  refine q_entry (cc := cX4_wrongAccess) (nL := 4) (ret := (some .int)) rfl (by decide) (Nat.le_of_ble_eq_true rfl) (fun pp ee ss mm bb mt kc ls C hRt hLk hin hsz hW hl => ?_)
  have hl : lv_has ls 4 [(0, .ref h), (1, .int v1), (2, .int v2), (3, .int v3)] := hl
  have h12 := hM.1
  have hcp1 := hM.2.2.2.2.1
  have hcp2 := hM.2.2.2.2.2.2
  refine lv_iload_n C.1 C.2.1 dX4_wrongAccess_0 rfl (lv_at hl 1 rfl) ?_
  refine q_callSi (rest := []) C (c_X4_isCore l D g v1 _) (gw_S ml_X4_130 sm_X4_isCore ini_X4 cd_X4_isCore rfl) rfl rfl rfl hd_X4_isCore ⟨Nat.le_of_ble_eq_true rfl, Nat.le_of_ble_eq_true rfl⟩ hW (List.Perm.refl _) (fun (u_1 : Unit) => (wM g h a M)) (fun _ => List.Perm.refl _) hl.1 rfl (Nat.le_of_ble_eq_true rfl) ⟨Nat.le_of_ble_eq_true rfl, Nat.le_of_ble_eq_true rfl⟩ dX4_wrongAccess_1 (fun r_1 u_1 H locs e_1 hW => ?_)
  subst e_1
  refine q_bf (b := (inR 4 v1).isSome) (tgt := 9) C dX4_wrongAccess_4 (by decide) (fun c_4 => ?_) (fun c_4 => ?_)
  · refine lv_aload_n C.1 C.2.1 dX4_wrongAccess_9 rfl (lv_at hl 0 rfl) ?_
    refine lv_iload_n C.1 C.2.1 dX4_wrongAccess_10 rfl (lv_at hl 2 rfl) ?_
    refine q_callVi (rest := []) C (c_X4_isName l D g h a M v2 hM _) (gw_V ml_X4_84 im_X4_isName se_X4_X4_isName ini_X4 cd_X4_isName rfl) rfl rfl rfl hd_X4_isName ⟨Nat.le_of_ble_eq_true rfl, Nat.le_of_ble_eq_true rfl⟩ hW pm_all (fun u_2 => (wM g h a u_2)) (fun _ => pm_all) rfl rfl hl.1 rfl (Nat.le_of_ble_eq_true rfl) ⟨Nat.le_of_ble_eq_true rfl, Nat.le_of_ble_eq_true rfl⟩ dX4_wrongAccess_11 (fun r_2 u_2 H locs e_2 hW => ?_)
    obtain ⟨rfl, rfl⟩ := e_2
    refine q_bf (b := (inR (mNm M) v2).isSome) (tgt := 19) C dX4_wrongAccess_14 (by decide) (fun c_14 => ?_) (fun c_14 => ?_)
    · obtain ⟨n1, hn1, rfl⟩ := inR_of (by omega) c_14
      refine lv_aload_n C.1 C.2.1 dX4_wrongAccess_19 rfl (lv_at hl 0 rfl) ?_
      refine q_get (v := .ref (a 1)) C hW 0 rfl rfl 1 (by decide) gu_X4 (C.2.2.2.2 _ fl_X4_13) rfl rfl dX4_wrongAccess_20 ?_
      refine lv_iload_n C.1 C.2.1 dX4_wrongAccess_23 rfl (lv_at hl 2 rfl) ?_
      refine q_ialdO (f := mPl M) C hW 2 rfl (k := n1) (by omega) (by decide) dX4_wrongAccess_24 ?_
      refine q_oge (o := (mPl M) n1) (tgt := 32) C (fun i9 e9 => by have := hM.st (by omega) e9; omega) dX4_wrongAccess_25 (by decide) (fun j_25 o_25 => ?_) (fun o_25 => ?_)
      · have hz := hM.sz (i := n1) (by omega)
        refine lv_iload_n C.1 C.2.1 dX4_wrongAccess_32 rfl (lv_at hl 3 rfl) ?_
        refine lv_iconst (v := nI 0) C.1 C.2.1 dX4_wrongAccess_33 (by decide) ?_
        refine lv_aload_n C.1 C.2.1 dX4_wrongAccess_34 rfl (lv_at hl 0 rfl) ?_
        refine q_get (v := .ref (a 0)) C hW 0 rfl rfl 0 (by decide) gu_X4 (C.2.2.2.2 _ fl_X4_7) rfl rfl dX4_wrongAccess_35 ?_
        refine lv_iload_n C.1 C.2.1 dX4_wrongAccess_38 rfl (lv_at hl 2 rfl) ?_
        refine q_ialdN (f := mWd M) C hW 1 rfl (k := n1) (by omega) (by decide) dX4_wrongAccess_39 ?_
        refine lv_iconst (v := nI 1) C.1 C.2.1 dX4_wrongAccess_40 (by decide) ?_
        refine lv_isub C.1 C.2.1 dX4_wrongAccess_41 ?_
        refine q_callSi (rest := []) C (c_X4_in l D g v3 (nI 0) ((nI ((mWd M) n1)) - (nI 1)) _) (gw_S ml_X4_76 sm_X4_in ini_X4 cd_X4_in rfl) rfl rfl rfl hd_X4_in ⟨Nat.le_of_ble_eq_true rfl, Nat.le_of_ble_eq_true rfl⟩ hW (List.Perm.refl _) (fun (u_3 : Unit) => (wM g h a M)) (fun _ => List.Perm.refl _) hl.1 rfl (Nat.le_of_ble_eq_true rfl) ⟨Nat.le_of_ble_eq_true rfl, Nat.le_of_ble_eq_true rfl⟩ dX4_wrongAccess_42 (fun r_3 u_3 H locs e_3 hW => ?_)
        subst e_3
        refine q_to (y := bI ((inR ((mWd M) n1) v3).isSome)) (by rw [inB_inR (by omega)]) ?_
        refine q_bf (b := (inR ((mWd M) n1) v3).isSome) (tgt := 52) C dX4_wrongAccess_45 (by decide) (fun c_45 => ?_) (fun c_45 => ?_)
        · refine lv_iconst (v := nI 0) C.1 C.2.1 dX4_wrongAccess_52 (by decide) ?_
          exact q_iret C hRt hLk hW rfl M ⟨(Eq.symm (by obtain ⟨c1, hc1, rfl⟩ := inR_of (by decide) c_4; unfold mWrong; rw [inR_nI hc1 (by decide)]; dsimp only; rw [inR_nI hn1 (by omega)]; dsimp only; rw [o_25]; dsimp only; rw [c_45]; rfl)), rfl⟩  rfl (Nat.le_of_ble_eq_true rfl) (Nat.le_of_ble_eq_true rfl) dX4_wrongAccess_53
        refine lv_iconst (v := nI 4) C.1 C.2.1 dX4_wrongAccess_48 (by decide) ?_
        refine lv_goto (tgt := 53) C.1 C.2.1 dX4_wrongAccess_49 (by decide) ?_
        exact q_iret C hRt hLk hW rfl M ⟨(Eq.symm (by obtain ⟨c1, hc1, rfl⟩ := inR_of (by decide) c_4; unfold mWrong; rw [inR_nI hc1 (by decide)]; dsimp only; rw [inR_nI hn1 (by omega)]; dsimp only; rw [o_25]; dsimp only; rw [c_45]; rfl)), rfl⟩  rfl (Nat.le_of_ble_eq_true rfl) (Nat.le_of_ble_eq_true rfl) dX4_wrongAccess_53
      refine lv_iconst (v := nI 3) C.1 C.2.1 dX4_wrongAccess_28 (by decide) ?_
      refine lv_goto (tgt := 53) C.1 C.2.1 dX4_wrongAccess_29 (by decide) ?_
      exact q_iret C hRt hLk hW rfl M ⟨(Eq.symm (by obtain ⟨c1, hc1, rfl⟩ := inR_of (by decide) c_4; unfold mWrong; rw [inR_nI hc1 (by decide)]; dsimp only; rw [inR_nI hn1 (by omega)]; dsimp only; rw [o_25])), rfl⟩  rfl (Nat.le_of_ble_eq_true rfl) (Nat.le_of_ble_eq_true rfl) dX4_wrongAccess_53
    refine lv_iconst (v := nI 2) C.1 C.2.1 dX4_wrongAccess_17 (by decide) ?_
    exact q_iret C hRt hLk hW rfl M ⟨(Eq.symm (by obtain ⟨c1, hc1, rfl⟩ := inR_of (by decide) c_4; unfold mWrong; rw [inR_nI hc1 (by decide)]; dsimp only; rw [inR_none_of c_14])), rfl⟩  rfl (Nat.le_of_ble_eq_true rfl) (Nat.le_of_ble_eq_true rfl) dX4_wrongAccess_18
  refine lv_iconst (v := nI 1) C.1 C.2.1 dX4_wrongAccess_7 (by decide) ?_
  exact q_iret C hRt hLk hW rfl M ⟨(Eq.symm (by unfold mWrong; rw [inR_none_of c_4])), rfl⟩  rfl (Nat.le_of_ble_eq_true rfl) (Nat.le_of_ble_eq_true rfl) dX4_wrongAccess_8

theorem hd_X4_learns : yX4_learns.cls = RX4 ∧ yX4_learns.cls ≠ "java/lang/invoke/MethodHandle" ∧ yX4_learns.cls ≠ "java/lang/invoke/VarHandle" ∧ (parseMethodDescriptor yX4_learns.desc).map (fun d => d.parameters.length) = some 2 := by decide +kernel
set_option maxHeartbeats 4000000 in
set_option maxRecDepth 100000 in
theorem c_X4_learns (l : Launch) (D : va_G) (g : Nat → ClassId) (h : Nat) (a : Nat → Nat) (M : MdS) (c : Nat) (k : Nat) (hM : MOK M) (hc : c < 4) (hk : k < 64) (sz : Nat) : qMv l yX4_learns (.code yX4_learns cX4_learns 7 none :: GW) ({ frames := 4, cells := 0, slots := 0, locals := 92 } : Room) D g [.ref h, .int (nI c), .int (nI k)] (wM g h a M) sz (fun (u : MdS) => (mLearns M c k) = u) (fun (u : MdS) => (wM g h a u)) 0 0 := by
  refine q_entry (cc := cX4_learns) (nL := 7) (ret := none) rfl (by decide) (Nat.le_of_ble_eq_true rfl) (fun pp ee ss mm bb mt kc ls C hRt hLk hin hsz hW hl => ?_)
  have hl : lv_has ls 7 [(0, .ref h), (1, .int (nI c)), (2, .int (nI k))] := hl
  have h12 := hM.1
  have hcp1 := hM.2.2.2.2.1
  have hcp2 := hM.2.2.2.2.2.2
  have L_48 : ∀ (c_6 : mAh M c = true) (y0 : Int32) (f0 : y0 = bI (mAlike M c k)) (ls : Array Slot) (H : Heap) (locs : List Loc), lv_has ls 7 [(0, .ref h), (1, .int (nI c)), (2, .int (nI k)), (3, .int (nI k - mLm M c))] → qW D g (va_A (wM g h a M) sz) ss.heap ss (wM g h a M) H locs → W pp l ee ({ frames := 4, cells := 0, slots := 0, locals := 92 } : Room) ss mm [.ref h, .int (nI c), .int (nI k)].toArray bb mt kc H locs 0 0 (MQ bb (va_Qv (fun (u : MdS) => (mLearns M c k) = u) (qB D g (wM g h a M) sz (fun (u : MdS) => (wM g h a u))) (va_A (wM g h a M) sz)) [.ref h, .int (nI c), .int (nI k)].toArray ss 0 0 (va_A (wM g h a M) sz)) (F0 mm 48 ls [.int y0]) := by
    intro c_6 y0 f0 ls H locs hl hW
    subst f0
    refine lv_istore (lv' := [(4, .int (bI (mAlike M c k))), (0, .ref h), (1, .int (nI c)), (2, .int (nI k)), (3, .int (nI k - mLm M c))]) C.1 C.2.1 dX4_learns_48 hl (by decide) rfl (fun ls hl => ?_)
    refine lv_aload_n C.1 C.2.1 dX4_learns_50 rfl (lv_at hl 1 rfl) ?_
    refine q_get (v := .ref (a 9)) C hW 0 rfl rfl 9 (by decide) gu_X4 (C.2.2.2.2 _ fl_X4_39) rfl rfl dX4_learns_51 ?_
    refine lv_iload_n C.1 C.2.1 dX4_learns_54 rfl (lv_at hl 2 rfl) ?_
    refine lv_iload_n C.1 C.2.1 dX4_learns_55 rfl (lv_at hl 4 rfl) ?_
    refine q_iast C hW 10 rfl (k := c) (by omega) (by decide) (wMc g h a (mWd M) (mPl M) (mSt M) (mUs M) (mLb M) (mNw M) (mAh M) (mMs M) (mLm M) (upd (mLs M) c (nI k - mLm M c)) (mFe M) (mUf M) (mWr M) (mCo M) (mNa M) (mCr M) (mCa M) (mTh M) (mNm M) (mAc M) (mCk M) (mCp M)) rfl dX4_learns_56 (fun H locs hW => ?_)
    refine lv_aload_n C.1 C.2.1 dX4_learns_57 rfl (lv_at hl 1 rfl) ?_
    refine q_get (v := .ref (a 8)) C hW 0 rfl rfl 8 (by decide) gu_X4 (C.2.2.2.2 _ fl_X4_36) rfl rfl dX4_learns_58 ?_
    refine lv_iload_n C.1 C.2.1 dX4_learns_61 rfl (lv_at hl 2 rfl) ?_
    refine lv_iload_n C.1 C.2.1 dX4_learns_62 rfl (lv_at hl 3 rfl) ?_
    refine q_iast C hW 9 rfl (k := c) (by omega) (by decide) (wMc g h a (mWd M) (mPl M) (mSt M) (mUs M) (mLb M) (mNw M) (mAh M) (mMs M) (upd (mLm M) c (nI k)) (upd (mLs M) c (nI k - mLm M c)) (mFe M) (mUf M) (mWr M) (mCo M) (mNa M) (mCr M) (mCa M) (mTh M) (mNm M) (mAc M) (mCk M) (mCp M)) rfl dX4_learns_63 (fun H locs hW => ?_)
    refine lv_aload_n C.1 C.2.1 dX4_learns_64 rfl (lv_at hl 1 rfl) ?_
    refine q_get (v := .ref (a 7)) C hW 0 rfl rfl 7 (by decide) gu_X4 (C.2.2.2.2 _ fl_X4_33) rfl rfl dX4_learns_65 ?_
    refine lv_iload_n C.1 C.2.1 dX4_learns_68 rfl (lv_at hl 2 rfl) ?_
    refine lv_dup2_11 C.1 C.2.1 dX4_learns_69 rfl rfl ?_
    refine q_iald (f := mMs M) C hW 8 rfl (k := c) (by omega) (by decide) dX4_learns_70 ?_
    refine lv_iconst (v := nI 1) C.1 C.2.1 dX4_learns_71 (by decide) ?_
    refine lv_iadd C.1 C.2.1 dX4_learns_72 ?_
    refine q_iast C hW 8 rfl (k := c) (by omega) (by decide) (wMc g h a (mWd M) (mPl M) (mSt M) (mUs M) (mLb M) (mNw M) (mAh M) (upd (mMs M) c (((mMs M) c) + (nI 1))) (upd (mLm M) c (nI k)) (upd (mLs M) c (nI k - mLm M c)) (mFe M) (mUf M) (mWr M) (mCo M) (mNa M) (mCr M) (mCa M) (mTh M) (mNm M) (mAc M) (mCk M) (mCp M)) rfl dX4_learns_73 (fun H locs hW => ?_)
    refine lv_iload_n C.1 C.2.1 dX4_learns_74 rfl (lv_at hl 3 rfl) ?_
    refine lv_iload_n C.1 C.2.1 dX4_learns_75 rfl (lv_at hl 4 rfl) ?_
    refine lv_iadd C.1 C.2.1 dX4_learns_76 ?_
    refine lv_istore (lv' := [(5, .int ((nI k) + (nI k - mLm M c))), (4, .int (bI (mAlike M c k))), (0, .ref h), (1, .int (nI c)), (2, .int (nI k)), (3, .int (nI k - mLm M c))]) C.1 C.2.1 dX4_learns_77 hl (by decide) rfl (fun ls hl => ?_)
    refine lv_iload C.1 C.2.1 dX4_learns_79 (lv_at hl 1 rfl) ?_
    refine q_bt (b := mAlike M c k) (tgt := 114) C dX4_learns_81 (by decide) (fun c_81 => ?_) (fun c_81 => ?_)
    · exact q_vret C hRt hLk hW (mWd M, mPl M, mSt M, mUs M, mLb M, mNw M, mAh M, upd (mMs M) c (((mMs M) c) + (nI 1)), upd (mLm M) c (nI k), upd (mLs M) c (nI k - mLm M c), mFe M, mUf M, mWr M, mCo M, mNa M, mCr M, mCa M, mTh M, mNm M, mAc M, mCk M, mCp M) (Eq.symm (by unfold mLearns; rw [if_neg (by rw [c_6]; decide), if_pos c_81]; rfl))  rfl (Nat.le_of_ble_eq_true rfl) (Nat.le_of_ble_eq_true rfl) dX4_learns_114
    refine lv_iload C.1 C.2.1 dX4_learns_84 (lv_at hl 0 rfl) ?_
    refine lv_iconst (v := nI 0) C.1 C.2.1 dX4_learns_86 (by decide) ?_
    refine lv_bipush (v := nI 63) C.1 C.2.1 dX4_learns_87 (by decide) ?_
    refine q_callSi (rest := []) C (c_X4_in l D g ((nI k) + (nI k - mLm M c)) (nI 0) (nI 63) _) (gw_S ml_X4_76 sm_X4_in ini_X4 cd_X4_in rfl) rfl rfl rfl hd_X4_in ⟨Nat.le_of_ble_eq_true rfl, Nat.le_of_ble_eq_true rfl⟩ hW (List.Perm.refl _) (fun (u_1 : Unit) => (wMc g h a (mWd M) (mPl M) (mSt M) (mUs M) (mLb M) (mNw M) (mAh M) (upd (mMs M) c (((mMs M) c) + (nI 1))) (upd (mLm M) c (nI k)) (upd (mLs M) c (nI k - mLm M c)) (mFe M) (mUf M) (mWr M) (mCo M) (mNa M) (mCr M) (mCa M) (mTh M) (mNm M) (mAc M) (mCk M) (mCp M))) (fun _ => List.Perm.refl _) hl.1 rfl (Nat.le_of_ble_eq_true rfl) ⟨Nat.le_of_ble_eq_true rfl, Nat.le_of_ble_eq_true rfl⟩ dX4_learns_89 (fun r_1 u_1 H locs e_1 hW => ?_)
    subst e_1
    refine q_to (y := bI ((inR 64 ((nI k) + (nI k - mLm M c))).isSome)) (by rw [inB_lit (by omega)]) ?_
    refine q_bt (b := (inR 64 ((nI k) + (nI k - mLm M c))).isSome) (tgt := 114) C dX4_learns_92 (by decide) (fun c_92 => ?_) (fun c_92 => ?_)
    · exact q_vret C hRt hLk hW (mWd M, mPl M, mSt M, mUs M, mLb M, mNw M, mAh M, upd (mMs M) c (((mMs M) c) + (nI 1)), upd (mLm M) c (nI k), upd (mLs M) c (nI k - mLm M c), mFe M, mUf M, mWr M, mCo M, mNa M, mCr M, mCa M, mTh M, mNm M, mAc M, mCk M, mCp M) (Eq.symm (by unfold mLearns; rw [if_neg (by rw [c_6]; decide), if_neg (by rw [c_81]; decide), inR_none_of c_92]; rfl))  rfl (Nat.le_of_ble_eq_true rfl) (Nat.le_of_ble_eq_true rfl) dX4_learns_114
    obtain ⟨j, hj4, hj9⟩ := inR_of (by decide) c_92
    rw [hj9] at hl
    have hl : lv_has ls 7 [(5, .int (nI j)), (4, .int (bI (mAlike M c k))), (0, .ref h), (1, .int (nI c)), (2, .int (nI k)), (3, .int (nI k - mLm M c))] := hl
    have hM1 : MOK (mLearn1 M c k) := hM.same ⟨rfl, rfl, rfl, rfl, rfl⟩
    have hW : qW D g (va_A (wM g h a M) sz) ss.heap ss (wM g h a (mLearn1 M c k)) H locs := hW
    generalize hM2 : mLearn1 M c k = M2 at hW hM1
    refine lv_aload_n C.1 C.2.1 dX4_learns_95 rfl (lv_at hl 2 rfl) ?_
    refine lv_iload_n C.1 C.2.1 dX4_learns_96 rfl (lv_at hl 3 rfl) ?_
    refine lv_iload C.1 C.2.1 dX4_learns_97 (lv_at hl 0 rfl) ?_
    refine q_callVi (rest := []) C (c_X4_has l D g h a M2 c j hM1 (by omega) (by omega) _) (gw_V ml_X4_103 im_X4_has se_X4_X4_has ini_X4 cd_X4_has rfl) rfl rfl rfl hd_X4_has ⟨Nat.le_of_ble_eq_true rfl, Nat.le_of_ble_eq_true rfl⟩ hW pm_all (fun u_2 => (wM g h a u_2)) (fun _ => pm_all) rfl rfl hl.1 rfl (Nat.le_of_ble_eq_true rfl) ⟨Nat.le_of_ble_eq_true rfl, Nat.le_of_ble_eq_true rfl⟩ dX4_learns_99 (fun r_2 u_2 H locs e_2 hW => ?_)
    obtain ⟨rfl, rfl⟩ := e_2
    refine q_bf (b := hasM M2 (64 * c + j)) (tgt := 114) C dX4_learns_102 (by decide) (fun c_102 => ?_) (fun c_102 => ?_)
    · exact q_vret C hRt hLk hW M2 (Eq.symm (by unfold mLearns; rw [if_neg (by rw [c_6]; decide), if_neg (by rw [c_81]; decide), hj9, inR_nI hj4 (by decide)]; dsimp only; rw [hM2, if_pos c_102]))  rfl (Nat.le_of_ble_eq_true rfl) (Nat.le_of_ble_eq_true rfl) dX4_learns_114
    refine lv_aload_n C.1 C.2.1 dX4_learns_105 rfl (lv_at hl 2 rfl) ?_
    refine lv_iload C.1 C.2.1 dX4_learns_106 (lv_at hl 0 rfl) ?_
    refine q_callVi (rest := []) C (c_X4_ownerOf l D g h a M2 j hM1 (by omega) _) (gw_V ml_X4_120 im_X4_ownerOf se_X4_X4_ownerOf ini_X4 cd_X4_ownerOf rfl) rfl rfl rfl hd_X4_ownerOf ⟨Nat.le_of_ble_eq_true rfl, Nat.le_of_ble_eq_true rfl⟩ hW pm_all (fun u_3 => (wM g h a u_3)) (fun _ => pm_all) rfl rfl hl.1 rfl (Nat.le_of_ble_eq_true rfl) ⟨Nat.le_of_ble_eq_true rfl, Nat.le_of_ble_eq_true rfl⟩ dX4_learns_108 (fun r_3 u_3 H locs e_3 hW => ?_)
    obtain ⟨rfl, rfl⟩ := e_3
    refine q_olt (o := mOwner M2 j) (tgt := 115) C (fun i9 e9 => by have := (srch_spec e9).1; omega) dX4_learns_111 (by decide) (fun o_111 => ?_) (fun j_111 o_111 => ?_)
    · refine lv_aload_n C.1 C.2.1 dX4_learns_115 rfl (lv_at hl 2 rfl) ?_
      refine lv_iload_n C.1 C.2.1 dX4_learns_116 rfl (lv_at hl 3 rfl) ?_
      refine lv_iload C.1 C.2.1 dX4_learns_117 (lv_at hl 0 rfl) ?_
      refine lv_aload_n C.1 C.2.1 dX4_learns_119 rfl (lv_at hl 2 rfl) ?_
      refine lv_iload_n C.1 C.2.1 dX4_learns_120 rfl (lv_at hl 3 rfl) ?_
      refine lv_iload C.1 C.2.1 dX4_learns_121 (lv_at hl 0 rfl) ?_
      refine q_callVi (rest := [.int (nI j), .int (nI c), .ref h]) C (c_X4_othersWith l D g h a M2 (nI c) j hM1 (by omega) _) (gw_V ml_X4_123 im_X4_othersWith se_X4_X4_othersWith ini_X4 cd_X4_othersWith rfl) rfl rfl rfl hd_X4_othersWith ⟨Nat.le_of_ble_eq_true rfl, Nat.le_of_ble_eq_true rfl⟩ hW pm_all (fun u_4 => (wM g h a u_4)) (fun _ => pm_all) rfl rfl hl.1 rfl (Nat.le_of_ble_eq_true rfl) ⟨Nat.le_of_ble_eq_true rfl, Nat.le_of_ble_eq_true rfl⟩ dX4_learns_123 (fun r_4 u_4 H locs e_4 hW => ?_)
      obtain ⟨rfl, rfl⟩ := e_4
      have ho9 := mOthers_le M2 (nI c) j
      refine q_zle (tgt := 134) C (by omega) dX4_learns_126 (by decide) (fun c_126 => ?_) (fun c_126 => ?_)
      · refine lv_bipush (v := nI 101) C.1 C.2.1 dX4_learns_134 (by decide) ?_
        refine q_callVi (rest := []) C (c_X4_comes l D g h a M2 c j (UInt16.ofNat 101) hM1 (by omega) (by omega) _) (gw_V ml_X4_126 im_X4_comes se_X4_X4_comes ini_X4 cd_X4_comes rfl) rfl rfl rfl hd_X4_comes ⟨Nat.le_of_ble_eq_true rfl, Nat.le_of_ble_eq_true rfl⟩ hW pm_all (fun u_5 => (wM g h a u_5)) (fun _ => pm_all) rfl rfl hl.1 rfl (Nat.le_of_ble_eq_true rfl) ⟨Nat.le_of_ble_eq_true rfl, Nat.le_of_ble_eq_true rfl⟩ dX4_learns_136 (fun r_5 u_5 H locs e_5 hW => ?_)
        obtain ⟨rfl, e_5⟩ := e_5
        refine lv_istore (lv' := [(6, .int (bI ((mComes M2 c j (UInt16.ofNat 101)).1))), (5, .int (nI j)), (4, .int (bI (mAlike M c k))), (0, .ref h), (1, .int (nI c)), (2, .int (nI k)), (3, .int (nI k - mLm M c))]) C.1 C.2.1 dX4_learns_139 hl (by decide) rfl (fun ls hl => ?_)
        refine lv_aload_n C.1 C.2.1 dX4_learns_141 rfl (lv_at hl 3 rfl) ?_
        refine q_get (v := .ref (a 5)) C hW 0 rfl rfl 5 (by decide) gu_X4 (C.2.2.2.2 _ fl_X4_26) rfl rfl dX4_learns_142 ?_
        refine lv_iload_n C.1 C.2.1 dX4_learns_145 rfl (lv_at hl 4 rfl) ?_
        refine lv_iload C.1 C.2.1 dX4_learns_146 (lv_at hl 1 rfl) ?_
        refine q_callSi (rest := [.ref (a 5)]) C (c_X4_at l D g c j _) (gw_S ml_X4_100 sm_X4_at ini_X4 cd_X4_at rfl) rfl rfl rfl hd_X4_at ⟨Nat.le_of_ble_eq_true rfl, Nat.le_of_ble_eq_true rfl⟩ hW (List.Perm.refl _) (fun (u_6 : Unit) => (wM g h a u_5)) (fun _ => List.Perm.refl _) hl.1 rfl (Nat.le_of_ble_eq_true rfl) ⟨Nat.le_of_ble_eq_true rfl, Nat.le_of_ble_eq_true rfl⟩ dX4_learns_148 (fun r_6 u_6 H locs e_6 hW => ?_)
        subst e_6
        refine lv_iconst (v := nI 1) C.1 C.2.1 dX4_learns_151 (by decide) ?_
        refine q_zastB C hW 6 rfl (k := 64 * c + j) (by omega) (by decide) (v := true) (wMc g h a (mWd u_5) (mPl u_5) (mSt u_5) (mUs u_5) (mLb u_5) (va_up (mNw u_5) (64 * c + j) true) (mAh u_5) (mMs u_5) (mLm u_5) (mLs u_5) (mFe u_5) (mUf u_5) (mWr u_5) (mCo u_5) (mNa u_5) (mCr u_5) (mCa u_5) (mTh u_5) (mNm u_5) (mAc u_5) (mCk u_5) (mCp u_5)) rfl dX4_learns_152 (fun H locs hW => ?_)
        refine lv_aload_n C.1 C.2.1 dX4_learns_153 rfl (lv_at hl 3 rfl) ?_
        refine q_get (v := .ref (a 10)) C hW 0 rfl rfl 10 (by decide) gu_X4 (C.2.2.2.2 _ fl_X4_42) rfl rfl dX4_learns_154 ?_
        refine lv_iload_n C.1 C.2.1 dX4_learns_157 rfl (lv_at hl 4 rfl) ?_
        refine lv_dup2_11 C.1 C.2.1 dX4_learns_158 rfl rfl ?_
        refine q_iald (f := mFe u_5) C hW 11 rfl (k := c) (by omega) (by decide) dX4_learns_159 ?_
        refine lv_iconst (v := nI 1) C.1 C.2.1 dX4_learns_160 (by decide) ?_
        refine lv_iadd C.1 C.2.1 dX4_learns_161 ?_
        refine q_iast C hW 11 rfl (k := c) (by omega) (by decide) (wMc g h a (mWd u_5) (mPl u_5) (mSt u_5) (mUs u_5) (mLb u_5) (va_up (mNw u_5) (64 * c + j) true) (mAh u_5) (mMs u_5) (mLm u_5) (mLs u_5) (upd (mFe u_5) c (((mFe u_5) c) + (nI 1))) (mUf u_5) (mWr u_5) (mCo u_5) (mNa u_5) (mCr u_5) (mCa u_5) (mTh u_5) (mNm u_5) (mAc u_5) (mCk u_5) (mCp u_5)) rfl dX4_learns_162 (fun H locs hW => ?_)
        exact q_vret C hRt hLk hW (mWd u_5, mPl u_5, mSt u_5, mUs u_5, mLb u_5, va_up (mNw u_5) (64 * c + j) true, mAh u_5, mMs u_5, mLm u_5, mLs u_5, upd (mFe u_5) c (((mFe u_5) c) + (nI 1)), mUf u_5, mWr u_5, mCo u_5, mNa u_5, mCr u_5, mCa u_5, mTh u_5, mNm u_5, mAc u_5, mCk u_5, mCp u_5) (Eq.symm (by unfold mLearns; rw [if_neg (by rw [c_6]; decide), if_neg (by rw [c_81]; decide), hj9, inR_nI hj4 (by decide)]; dsimp only; rw [hM2, if_neg (by rw [c_102]; decide), if_neg (by rw [o_111]; decide), if_neg (by omega), e_5]; rfl))  rfl (Nat.le_of_ble_eq_true rfl) (Nat.le_of_ble_eq_true rfl) dX4_learns_163
      refine lv_bipush (v := nI 115) C.1 C.2.1 dX4_learns_129 (by decide) ?_
      refine lv_goto (tgt := 136) C.1 C.2.1 dX4_learns_131 (by decide) ?_
      refine q_callVi (rest := []) C (c_X4_comes l D g h a M2 c j (UInt16.ofNat 115) hM1 (by omega) (by omega) _) (gw_V ml_X4_126 im_X4_comes se_X4_X4_comes ini_X4 cd_X4_comes rfl) rfl rfl rfl hd_X4_comes ⟨Nat.le_of_ble_eq_true rfl, Nat.le_of_ble_eq_true rfl⟩ hW pm_all (fun u_7 => (wM g h a u_7)) (fun _ => pm_all) rfl rfl hl.1 rfl (Nat.le_of_ble_eq_true rfl) ⟨Nat.le_of_ble_eq_true rfl, Nat.le_of_ble_eq_true rfl⟩ dX4_learns_136 (fun r_7 u_7 H locs e_7 hW => ?_)
      obtain ⟨rfl, e_7⟩ := e_7
      refine lv_istore (lv' := [(6, .int (bI ((mComes M2 c j (UInt16.ofNat 115)).1))), (5, .int (nI j)), (4, .int (bI (mAlike M c k))), (0, .ref h), (1, .int (nI c)), (2, .int (nI k)), (3, .int (nI k - mLm M c))]) C.1 C.2.1 dX4_learns_139 hl (by decide) rfl (fun ls hl => ?_)
      refine lv_aload_n C.1 C.2.1 dX4_learns_141 rfl (lv_at hl 3 rfl) ?_
      refine q_get (v := .ref (a 5)) C hW 0 rfl rfl 5 (by decide) gu_X4 (C.2.2.2.2 _ fl_X4_26) rfl rfl dX4_learns_142 ?_
      refine lv_iload_n C.1 C.2.1 dX4_learns_145 rfl (lv_at hl 4 rfl) ?_
      refine lv_iload C.1 C.2.1 dX4_learns_146 (lv_at hl 1 rfl) ?_
      refine q_callSi (rest := [.ref (a 5)]) C (c_X4_at l D g c j _) (gw_S ml_X4_100 sm_X4_at ini_X4 cd_X4_at rfl) rfl rfl rfl hd_X4_at ⟨Nat.le_of_ble_eq_true rfl, Nat.le_of_ble_eq_true rfl⟩ hW (List.Perm.refl _) (fun (u_8 : Unit) => (wM g h a u_7)) (fun _ => List.Perm.refl _) hl.1 rfl (Nat.le_of_ble_eq_true rfl) ⟨Nat.le_of_ble_eq_true rfl, Nat.le_of_ble_eq_true rfl⟩ dX4_learns_148 (fun r_8 u_8 H locs e_8 hW => ?_)
      subst e_8
      refine lv_iconst (v := nI 1) C.1 C.2.1 dX4_learns_151 (by decide) ?_
      refine q_zastB C hW 6 rfl (k := 64 * c + j) (by omega) (by decide) (v := true) (wMc g h a (mWd u_7) (mPl u_7) (mSt u_7) (mUs u_7) (mLb u_7) (va_up (mNw u_7) (64 * c + j) true) (mAh u_7) (mMs u_7) (mLm u_7) (mLs u_7) (mFe u_7) (mUf u_7) (mWr u_7) (mCo u_7) (mNa u_7) (mCr u_7) (mCa u_7) (mTh u_7) (mNm u_7) (mAc u_7) (mCk u_7) (mCp u_7)) rfl dX4_learns_152 (fun H locs hW => ?_)
      refine lv_aload_n C.1 C.2.1 dX4_learns_153 rfl (lv_at hl 3 rfl) ?_
      refine q_get (v := .ref (a 10)) C hW 0 rfl rfl 10 (by decide) gu_X4 (C.2.2.2.2 _ fl_X4_42) rfl rfl dX4_learns_154 ?_
      refine lv_iload_n C.1 C.2.1 dX4_learns_157 rfl (lv_at hl 4 rfl) ?_
      refine lv_dup2_11 C.1 C.2.1 dX4_learns_158 rfl rfl ?_
      refine q_iald (f := mFe u_7) C hW 11 rfl (k := c) (by omega) (by decide) dX4_learns_159 ?_
      refine lv_iconst (v := nI 1) C.1 C.2.1 dX4_learns_160 (by decide) ?_
      refine lv_iadd C.1 C.2.1 dX4_learns_161 ?_
      refine q_iast C hW 11 rfl (k := c) (by omega) (by decide) (wMc g h a (mWd u_7) (mPl u_7) (mSt u_7) (mUs u_7) (mLb u_7) (va_up (mNw u_7) (64 * c + j) true) (mAh u_7) (mMs u_7) (mLm u_7) (mLs u_7) (upd (mFe u_7) c (((mFe u_7) c) + (nI 1))) (mUf u_7) (mWr u_7) (mCo u_7) (mNa u_7) (mCr u_7) (mCa u_7) (mTh u_7) (mNm u_7) (mAc u_7) (mCk u_7) (mCp u_7)) rfl dX4_learns_162 (fun H locs hW => ?_)
      exact q_vret C hRt hLk hW (mWd u_7, mPl u_7, mSt u_7, mUs u_7, mLb u_7, va_up (mNw u_7) (64 * c + j) true, mAh u_7, mMs u_7, mLm u_7, mLs u_7, upd (mFe u_7) c (((mFe u_7) c) + (nI 1)), mUf u_7, mWr u_7, mCo u_7, mNa u_7, mCr u_7, mCa u_7, mTh u_7, mNm u_7, mAc u_7, mCk u_7, mCp u_7) (Eq.symm (by unfold mLearns; rw [if_neg (by rw [c_6]; decide), if_neg (by rw [c_81]; decide), hj9, inR_nI hj4 (by decide)]; dsimp only; rw [hM2, if_neg (by rw [c_102]; decide), if_neg (by rw [o_111]; decide), if_pos c_126, e_7]; rfl))  rfl (Nat.le_of_ble_eq_true rfl) (Nat.le_of_ble_eq_true rfl) dX4_learns_163
    exact q_vret C hRt hLk hW M2 (Eq.symm (by unfold mLearns; rw [if_neg (by rw [c_6]; decide), if_neg (by rw [c_81]; decide), hj9, inR_nI hj4 (by decide)]; dsimp only; rw [hM2, if_neg (by rw [c_102]; decide), if_pos (by rw [o_111]; rfl)]))  rfl (Nat.le_of_ble_eq_true rfl) (Nat.le_of_ble_eq_true rfl) dX4_learns_114
  refine lv_aload_n C.1 C.2.1 dX4_learns_0 rfl (lv_at hl 0 rfl) ?_
  refine q_get (v := .ref (a 6)) C hW 0 rfl rfl 6 (by decide) gu_X4 (C.2.2.2.2 _ fl_X4_30) rfl rfl dX4_learns_1 ?_
  refine lv_iload_n C.1 C.2.1 dX4_learns_4 rfl (lv_at hl 1 rfl) ?_
  refine q_zaldB (f := mAh M) C hW 7 rfl (k := c) (by omega) (by decide) dX4_learns_5 ?_
  refine q_bf (b := (mAh M) c) (tgt := 10) C dX4_learns_6 (by decide) (fun c_6 => ?_) (fun c_6 => ?_)
  · refine lv_iload_n C.1 C.2.1 dX4_learns_10 rfl (lv_at hl 2 rfl) ?_
    refine lv_aload_n C.1 C.2.1 dX4_learns_11 rfl (lv_at hl 0 rfl) ?_
    refine q_get (v := .ref (a 8)) C hW 0 rfl rfl 8 (by decide) gu_X4 (C.2.2.2.2 _ fl_X4_36) rfl rfl dX4_learns_12 ?_
    refine lv_iload_n C.1 C.2.1 dX4_learns_15 rfl (lv_at hl 1 rfl) ?_
    refine q_iald (f := mLm M) C hW 9 rfl (k := c) (by omega) (by decide) dX4_learns_16 ?_
    refine lv_isub C.1 C.2.1 dX4_learns_17 ?_
    refine lv_istore_n (lv' := [(3, .int ((nI k) - ((mLm M) c))), (0, .ref h), (1, .int (nI c)), (2, .int (nI k))]) C.1 C.2.1 dX4_learns_18 rfl hl (by decide) rfl (fun ls hl => ?_)
    refine lv_aload_n C.1 C.2.1 dX4_learns_19 rfl (lv_at hl 1 rfl) ?_
    refine q_get (v := .ref (a 7)) C hW 0 rfl rfl 7 (by decide) gu_X4 (C.2.2.2.2 _ fl_X4_33) rfl rfl dX4_learns_20 ?_
    refine lv_iload_n C.1 C.2.1 dX4_learns_23 rfl (lv_at hl 2 rfl) ?_
    refine q_iald (f := mMs M) C hW 8 rfl (k := c) (by omega) (by decide) dX4_learns_24 ?_
    refine lv_iconst (v := nI 2) C.1 C.2.1 dX4_learns_25 (by decide) ?_
    refine lv_icmp_lt (tgt := 47) C.1 C.2.1 dX4_learns_26 (by decide) (fun c_26 => ?_) (fun c_26 => ?_)
    · refine lv_iconst (v := nI 0) C.1 C.2.1 dX4_learns_47 (by decide) ?_
      exact L_48  c_6 _ (by unfold mAlike; rw [if_pos c_26]; rfl) ls _ _ (lv_sub hl [1, 2, 3, 0] rfl) hW
    refine lv_iload_n C.1 C.2.1 dX4_learns_29 rfl (lv_at hl 0 rfl) ?_
    refine lv_if_eq (tgt := 47) C.1 C.2.1 dX4_learns_30 (by decide) (fun c_30 => ?_) (fun c_30 => ?_)
    · refine lv_iconst (v := nI 0) C.1 C.2.1 dX4_learns_47 (by decide) ?_
      exact L_48  c_6 _ (by unfold mAlike; rw [if_neg c_26, if_pos c_30]; rfl) ls _ _ (lv_sub hl [1, 2, 3, 0] rfl) hW
    refine lv_iload_n C.1 C.2.1 dX4_learns_33 rfl (lv_at hl 0 rfl) ?_
    refine lv_aload_n C.1 C.2.1 dX4_learns_34 rfl (lv_at hl 1 rfl) ?_
    refine q_get (v := .ref (a 9)) C hW 0 rfl rfl 9 (by decide) gu_X4 (C.2.2.2.2 _ fl_X4_39) rfl rfl dX4_learns_35 ?_
    refine lv_iload_n C.1 C.2.1 dX4_learns_38 rfl (lv_at hl 2 rfl) ?_
    refine q_iald (f := mLs M) C hW 10 rfl (k := c) (by omega) (by decide) dX4_learns_39 ?_
    refine lv_icmp_ne (tgt := 47) C.1 C.2.1 dX4_learns_40 (by decide) (fun c_40 => ?_) (fun c_40 => ?_)
    · refine lv_iconst (v := nI 0) C.1 C.2.1 dX4_learns_47 (by decide) ?_
      exact L_48  c_6 _ (by unfold mAlike; rw [if_neg c_26, if_neg c_30, if_neg c_40]; rfl) ls _ _ (lv_sub hl [1, 2, 3, 0] rfl) hW
    refine lv_iconst (v := nI 1) C.1 C.2.1 dX4_learns_43 (by decide) ?_
    refine lv_goto (tgt := 48) C.1 C.2.1 dX4_learns_44 (by decide) ?_
    exact L_48  c_6 _ (by unfold mAlike; rw [if_neg c_26, if_neg c_30, if_pos c_40]; rfl) ls _ _ (lv_sub hl [1, 2, 3, 0] rfl) hW
  exact q_vret C hRt hLk hW M (Eq.symm (by unfold mLearns; rw [if_pos c_6]))  rfl (Nat.le_of_ble_eq_true rfl) (Nat.le_of_ble_eq_true rfl) dX4_learns_9
