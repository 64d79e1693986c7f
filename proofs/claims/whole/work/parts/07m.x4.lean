theorem hd_X4_addName : yX4_addName.cls = RX4 ∧ yX4_addName.cls ≠ "java/lang/invoke/MethodHandle" ∧ yX4_addName.cls ≠ "java/lang/invoke/VarHandle" ∧ (parseMethodDescriptor yX4_addName.desc).map (fun d => d.parameters.length) = some 1 := by decide +kernel
set_option maxHeartbeats 4000000 in
set_option maxRecDepth 100000 in
theorem c_X4_addName (l : Launch) (D : va_G) (g : Nat → ClassId) (h : Nat) (a : Nat → Nat) (M : MdS) (v : Int32) (hM : MOK M) (sz : Nat) : qMi l yX4_addName (.code yX4_addName cX4_addName 2 (some .int) :: GW) ({ frames := 1, cells := 0, slots := 0, locals := 22 } : Room) D g [.ref h, .int v] (wM g h a M) sz (fun (r : Int32) (u : MdS) => nI ((mAdd M v).1) = r ∧ ((mAdd M v).2) = u) (fun (u : MdS) => (wM g h a u)) 0 0 := by
  refine q_entry (cc := cX4_addName) (nL := 2) (ret := (some .int)) rfl (by decide) (Nat.le_of_ble_eq_true rfl) (fun pp ee ss mm bb mt kc ls C hRt hLk hin hsz hW hl => ?_)
  have hl : lv_has ls 2 [(0, .ref h), (1, .int v)] := hl
  have h12 := hM.1
  have hcp1 := hM.2.2.2.2.1
  have hcp2 := hM.2.2.2.2.2.2
  refine lv_aload_n C.1 C.2.1 dX4_addName_0 rfl (lv_at hl 0 rfl) ?_
  refine lv_iload_n C.1 C.2.1 dX4_addName_1 rfl (lv_at hl 1 rfl) ?_
  refine lv_iconst (v := nI 1) C.1 C.2.1 dX4_addName_2 (by decide) ?_
  refine lv_bipush (v := nI 32) C.1 C.2.1 dX4_addName_3 (by decide) ?_
  refine q_callSi (rest := [.ref h]) C (c_X4_in l D g v (nI 1) (nI 32) _) (gw_S ml_X4_76 sm_X4_in ini_X4 cd_X4_in rfl) rfl rfl rfl hd_X4_in ⟨Nat.le_of_ble_eq_true rfl, Nat.le_of_ble_eq_true rfl⟩ hW (List.Perm.refl _) (fun (u_1 : Unit) => (wM g h a M)) (fun _ => List.Perm.refl _) hl.1 rfl (Nat.le_of_ble_eq_true rfl) ⟨Nat.le_of_ble_eq_true rfl, Nat.le_of_ble_eq_true rfl⟩ dX4_addName_5 (fun r_1 u_1 H locs e_1 hW => ?_)
  subst e_1
  refine q_to (y := bI ((inP 32 v).isSome)) (by rw [inB_inP]) ?_
  refine q_bf (b := (inP 32 v).isSome) (tgt := 15) C dX4_addName_8 (by decide) (fun c_8 => ?_) (fun c_8 => ?_)
  · obtain ⟨m, hm1, hm2, hv_m, hinP⟩ := inP_of (by decide) c_8
    rw [hv_m] at hl
    have hl : lv_has ls 2 [(0, .ref h), (1, .int (nI m))] := hl
    refine lv_aload_n C.1 C.2.1 dX4_addName_15 rfl (lv_at hl 0 rfl) ?_
    refine q_get (v := .int (nI (mNm M))) C hW 0 rfl rfl 18 (by decide) gu_X4 (C.2.2.2.2 _ fl_X4_67) rfl rfl dX4_addName_16 ?_
    refine lv_bipush (v := nI 12) C.1 C.2.1 dX4_addName_19 (by decide) ?_
    refine q_ne (tgt := 28) C (by omega) (by omega) dX4_addName_21 (by decide) (fun c_21 => ?_) (fun c_21 => ?_)
    · refine lv_iconst (v := nI 0) C.1 C.2.1 dX4_addName_28 (by decide) ?_
      refine q_put C hW 0 rfl rfl 17 (by decide) gu_X4 tyX4_ok nmX4 (C.2.2.2.2 _ fl_X4_63) rfl rfl rfl rfl (Nat.le_of_ble_eq_true rfl) (wMc g h a (mWd M) (mPl M) (mSt M) (mUs M) (mLb M) (mNw M) (mAh M) (mMs M) (mLm M) (mLs M) (mFe M) (mUf M) (mWr M) (mCo M) (mNa M) (mCr M) (mCa M) 0 (mNm M) (mAc M) (mCk M) (mCp M)) rfl dX4_addName_29 (fun H locs hW => ?_)
      refine lv_aload_n C.1 C.2.1 dX4_addName_32 rfl (lv_at hl 0 rfl) ?_
      refine q_get (v := .int (nI 0)) C hW 0 rfl rfl 17 (by decide) gu_X4 (C.2.2.2.2 _ fl_X4_63) rfl rfl dX4_addName_33 ?_
      refine q_zle (tgt := 41) C (by omega) dX4_addName_36 (by decide) (fun c_36 => ?_) (fun c_36 => absurd c_36 (by decide))
      refine lv_aload_n C.1 C.2.1 dX4_addName_41 rfl (lv_at hl 0 rfl) ?_
      refine q_get (v := .ref (a 0)) C hW 0 rfl rfl 0 (by decide) gu_X4 (C.2.2.2.2 _ fl_X4_7) rfl rfl dX4_addName_42 ?_
      refine lv_aload_n C.1 C.2.1 dX4_addName_45 rfl (lv_at hl 0 rfl) ?_
      refine q_get (v := .int (nI (mNm M))) C hW 0 rfl rfl 18 (by decide) gu_X4 (C.2.2.2.2 _ fl_X4_67) rfl rfl dX4_addName_46 ?_
      refine lv_iload_n C.1 C.2.1 dX4_addName_49 rfl (lv_at hl 1 rfl) ?_
      refine q_iastN C hW 1 rfl (k := mNm M) (by omega) (by decide) (v := m) (wMc g h a (va_up (mWd M) (mNm M) m) (mPl M) (mSt M) (mUs M) (mLb M) (mNw M) (mAh M) (mMs M) (mLm M) (mLs M) (mFe M) (mUf M) (mWr M) (mCo M) (mNa M) (mCr M) (mCa M) 0 (mNm M) (mAc M) (mCk M) (mCp M)) rfl dX4_addName_50 (fun H locs hW => ?_)
      refine lv_aload_n C.1 C.2.1 dX4_addName_51 rfl (lv_at hl 0 rfl) ?_
      refine lv_dup C.1 C.2.1 dX4_addName_52 rfl ?_
      refine q_get (v := .int (nI (mNm M))) C hW 0 rfl rfl 18 (by decide) gu_X4 (C.2.2.2.2 _ fl_X4_67) rfl rfl dX4_addName_53 ?_
      refine lv_iconst (v := nI 1) C.1 C.2.1 dX4_addName_56 (by decide) ?_
      refine q_iadd C dX4_addName_57 ?_
      refine q_put C hW 0 rfl rfl 18 (by decide) gu_X4 tyX4_ok nmX4 (C.2.2.2.2 _ fl_X4_67) rfl rfl rfl rfl (Nat.le_of_ble_eq_true rfl) (wMc g h a (va_up (mWd M) (mNm M) m) (mPl M) (mSt M) (mUs M) (mLb M) (mNw M) (mAh M) (mMs M) (mLm M) (mLs M) (mFe M) (mUf M) (mWr M) (mCo M) (mNa M) (mCr M) (mCa M) 0 (mNm M + 1) (mAc M) (mCk M) (mCp M)) rfl dX4_addName_58 (fun H locs hW => ?_)
      refine lv_aload_n C.1 C.2.1 dX4_addName_61 rfl (lv_at hl 0 rfl) ?_
      refine q_get (v := .int (nI (mNm M + 1))) C hW 0 rfl rfl 18 (by decide) gu_X4 (C.2.2.2.2 _ fl_X4_67) rfl rfl dX4_addName_62 ?_
      refine lv_iconst (v := nI 1) C.1 C.2.1 dX4_addName_65 (by decide) ?_
      refine q_isub C (by omega) dX4_addName_66 ?_
      exact q_iret C hRt hLk hW rfl (va_up (mWd M) (mNm M) m, mPl M, mSt M, mUs M, mLb M, mNw M, mAh M, mMs M, mLm M, mLs M, mFe M, mUf M, mWr M, mCo M, mNa M, mCr M, mCa M, 0, mNm M + 1, mAc M, mCk M, mCp M) ⟨(Eq.symm (by unfold mAdd; rw [hinP]; dsimp only; rw [if_neg c_21, Nat.add_sub_cancel])), (Eq.symm (by unfold mAdd; rw [hinP]; dsimp only; rw [if_neg c_21]; try rfl))⟩  rfl (Nat.le_of_ble_eq_true rfl) (Nat.le_of_ble_eq_true rfl) dX4_addName_67
    refine lv_iconst (v := nI 2) C.1 C.2.1 dX4_addName_24 (by decide) ?_
    refine lv_goto (tgt := 29) C.1 C.2.1 dX4_addName_25 (by decide) ?_
    refine q_put C hW 0 rfl rfl 17 (by decide) gu_X4 tyX4_ok nmX4 (C.2.2.2.2 _ fl_X4_63) rfl rfl rfl rfl (Nat.le_of_ble_eq_true rfl) (wMc g h a (mWd M) (mPl M) (mSt M) (mUs M) (mLb M) (mNw M) (mAh M) (mMs M) (mLm M) (mLs M) (mFe M) (mUf M) (mWr M) (mCo M) (mNa M) (mCr M) (mCa M) 2 (mNm M) (mAc M) (mCk M) (mCp M)) rfl dX4_addName_29 (fun H locs hW => ?_)
    refine lv_aload_n C.1 C.2.1 dX4_addName_32 rfl (lv_at hl 0 rfl) ?_
    refine q_get (v := .int (nI 2)) C hW 0 rfl rfl 17 (by decide) gu_X4 (C.2.2.2.2 _ fl_X4_63) rfl rfl dX4_addName_33 ?_
    refine q_zle (tgt := 41) C (by omega) dX4_addName_36 (by decide) (fun c_36 => absurd c_36 (by decide)) (fun c_36 => ?_)
    refine lv_iconst (v := nI 0) C.1 C.2.1 dX4_addName_39 (by decide) ?_
    exact q_iret C hRt hLk hW rfl (mWd M, mPl M, mSt M, mUs M, mLb M, mNw M, mAh M, mMs M, mLm M, mLs M, mFe M, mUf M, mWr M, mCo M, mNa M, mCr M, mCa M, 2, mNm M, mAc M, mCk M, mCp M) ⟨(Eq.symm (by unfold mAdd; rw [hinP]; dsimp only; rw [if_pos c_21]; try rfl)), (Eq.symm (by unfold mAdd; rw [hinP]; dsimp only; rw [if_pos c_21]; try rfl))⟩  rfl (Nat.le_of_ble_eq_true rfl) (Nat.le_of_ble_eq_true rfl) dX4_addName_40
  refine lv_iconst (v := nI 1) C.1 C.2.1 dX4_addName_11 (by decide) ?_
  refine lv_goto (tgt := 29) C.1 C.2.1 dX4_addName_12 (by decide) ?_
  refine q_put C hW 0 rfl rfl 17 (by decide) gu_X4 tyX4_ok nmX4 (C.2.2.2.2 _ fl_X4_63) rfl rfl rfl rfl (Nat.le_of_ble_eq_true rfl) (wMc g h a (mWd M) (mPl M) (mSt M) (mUs M) (mLb M) (mNw M) (mAh M) (mMs M) (mLm M) (mLs M) (mFe M) (mUf M) (mWr M) (mCo M) (mNa M) (mCr M) (mCa M) 1 (mNm M) (mAc M) (mCk M) (mCp M)) rfl dX4_addName_29 (fun H locs hW => ?_)
  refine lv_aload_n C.1 C.2.1 dX4_addName_32 rfl (lv_at hl 0 rfl) ?_
  refine q_get (v := .int (nI 1)) C hW 0 rfl rfl 17 (by decide) gu_X4 (C.2.2.2.2 _ fl_X4_63) rfl rfl dX4_addName_33 ?_
  refine q_zle (tgt := 41) C (by omega) dX4_addName_36 (by decide) (fun c_36 => absurd c_36 (by decide)) (fun c_36 => ?_)
  refine lv_iconst (v := nI 0) C.1 C.2.1 dX4_addName_39 (by decide) ?_
  exact q_iret C hRt hLk hW rfl (mWd M, mPl M, mSt M, mUs M, mLb M, mNw M, mAh M, mMs M, mLm M, mLs M, mFe M, mUf M, mWr M, mCo M, mNa M, mCr M, mCa M, 1, mNm M, mAc M, mCk M, mCp M) ⟨(Eq.symm (by unfold mAdd; rw [inP_none_of c_8]; try rfl)), (Eq.symm (by unfold mAdd; rw [inP_none_of c_8]; try rfl))⟩  rfl (Nat.le_of_ble_eq_true rfl) (Nat.le_of_ble_eq_true rfl) dX4_addName_40

theorem hd_X4_place : yX4_place.cls = RX4 ∧ yX4_place.cls ≠ "java/lang/invoke/MethodHandle" ∧ yX4_place.cls ≠ "java/lang/invoke/VarHandle" ∧ (parseMethodDescriptor yX4_place.desc).map (fun d => d.parameters.length) = some 2 := by decide +kernel
set_option maxHeartbeats 4000000 in
set_option maxRecDepth 100000 in
theorem c_X4_place (l : Launch) (D : va_G) (g : Nat → ClassId) (h : Nat) (a : Nat → Nat) (M : MdS) (v1 : Int32) (v2 : Int32) (hM : MOK M) (sz : Nat) : qMi l yX4_place (.code yX4_place cX4_place 3 (some .int) :: GW) ({ frames := 3, cells := 0, slots := 0, locals := 67 } : Room) D g [.ref h, .int v1, .int v2] (wM g h a M) sz (fun (r : Int32) (u : MdS) => nI ((mPlace M v1 v2).1) = r ∧ ((mPlace M v1 v2).2) = u) (fun (u : MdS) => (wM g h a u)) 0 0 := by
  refine q_entry (cc := cX4_place) (nL := 3) (ret := (some .int)) rfl (by decide) (Nat.le_of_ble_eq_true rfl) (fun pp ee ss mm bb mt kc ls C hRt hLk hin hsz hW hl => ?_)
  have hl : lv_has ls 3 [(0, .ref h), (1, .int v1), (2, .int v2)] := hl
  have h12 := hM.1
  have hcp1 := hM.2.2.2.2.1
  have hcp2 := hM.2.2.2.2.2.2
  refine lv_aload_n C.1 C.2.1 dX4_place_0 rfl (lv_at hl 0 rfl) ?_
  refine lv_aload_n C.1 C.2.1 dX4_place_1 rfl (lv_at hl 0 rfl) ?_
  refine lv_iload_n C.1 C.2.1 dX4_place_2 rfl (lv_at hl 1 rfl) ?_
  refine q_callVi (rest := [.ref h]) C (c_X4_isName l D g h a M v1 hM _) (gw_V ml_X4_84 im_X4_isName se_X4_X4_isName ini_X4 cd_X4_isName rfl) rfl rfl rfl hd_X4_isName ⟨Nat.le_of_ble_eq_true rfl, Nat.le_of_ble_eq_true rfl⟩ hW pm_all (fun u_1 => (wM g h a u_1)) (fun _ => pm_all) rfl rfl hl.1 rfl (Nat.le_of_ble_eq_true rfl) ⟨Nat.le_of_ble_eq_true rfl, Nat.le_of_ble_eq_true rfl⟩ dX4_place_3 (fun r_1 u_1 H locs e_1 hW => ?_)
  obtain ⟨rfl, rfl⟩ := e_1
  refine q_bf (b := (inR (mNm M) v1).isSome) (tgt := 13) C dX4_place_6 (by decide) (fun c_6 => ?_) (fun c_6 => ?_)
  · obtain ⟨n, hn9, hv_n⟩ := inR_of (by omega) c_6
    rw [hv_n] at hl
    have hl : lv_has ls 3 [(0, .ref h), (1, .int (nI n)), (2, .int v2)] := hl
    have hz := hM.sz (i := n) (by omega)
    refine lv_iload_n C.1 C.2.1 dX4_place_13 rfl (lv_at hl 2 rfl) ?_
    refine lv_iconst (v := nI 0) C.1 C.2.1 dX4_place_14 (by decide) ?_
    refine lv_sipush (v := nI 512) C.1 C.2.1 dX4_place_15 (by decide) ?_
    refine lv_aload_n C.1 C.2.1 dX4_place_18 rfl (lv_at hl 0 rfl) ?_
    refine q_get (v := .ref (a 0)) C hW 0 rfl rfl 0 (by decide) gu_X4 (C.2.2.2.2 _ fl_X4_7) rfl rfl dX4_place_19 ?_
    refine lv_iload_n C.1 C.2.1 dX4_place_22 rfl (lv_at hl 1 rfl) ?_
    refine q_ialdN (f := mWd M) C hW 1 rfl (k := n) (by omega) (by decide) dX4_place_23 ?_
    refine q_isub C (by omega) dX4_place_24 ?_
    refine q_callSi (rest := [.ref h]) C (c_X4_in l D g v2 (nI 0) (nI (512 - ((mWd M) n))) _) (gw_S ml_X4_76 sm_X4_in ini_X4 cd_X4_in rfl) rfl rfl rfl hd_X4_in ⟨Nat.le_of_ble_eq_true rfl, Nat.le_of_ble_eq_true rfl⟩ hW (List.Perm.refl _) (fun (u_2 : Unit) => (wM g h a M)) (fun _ => List.Perm.refl _) hl.1 rfl (Nat.le_of_ble_eq_true rfl) ⟨Nat.le_of_ble_eq_true rfl, Nat.le_of_ble_eq_true rfl⟩ dX4_place_25 (fun r_2 u_2 H locs e_2 hW => ?_)
    subst e_2
    refine q_to (y := bI ((inR (512 - ((mWd M) n) + 1) v2).isSome)) (by rw [inB_lit (by omega)]) ?_
    refine q_bf (b := (inR (512 - ((mWd M) n) + 1) v2).isSome) (tgt := 35) C dX4_place_28 (by decide) (fun c_28 => ?_) (fun c_28 => ?_)
    · obtain ⟨x, hx9, hv_x⟩ := inR_of (by omega) c_28
      rw [hv_x] at hl
      have hl : lv_has ls 3 [(0, .ref h), (1, .int (nI n)), (2, .int (nI x))] := hl
      refine lv_aload_n C.1 C.2.1 dX4_place_35 rfl (lv_at hl 0 rfl) ?_
      refine q_get (v := .ref (a 1)) C hW 0 rfl rfl 1 (by decide) gu_X4 (C.2.2.2.2 _ fl_X4_13) rfl rfl dX4_place_36 ?_
      refine lv_iload_n C.1 C.2.1 dX4_place_39 rfl (lv_at hl 1 rfl) ?_
      refine q_ialdO (f := mPl M) C hW 2 rfl (k := n) (by omega) (by decide) dX4_place_40 ?_
      refine q_oge (o := (mPl M) n) (tgt := 53) C (fun i9 e9 => by have := hM.st (by omega) e9; omega) dX4_place_41 (by decide) (fun j_41 o_41 => ?_) (fun o_41 => ?_)
      · refine lv_iconst (v := nI 3) C.1 C.2.1 dX4_place_53 (by decide) ?_
        refine lv_goto (tgt := 58) C.1 C.2.1 dX4_place_54 (by decide) ?_
        refine q_put C hW 0 rfl rfl 17 (by decide) gu_X4 tyX4_ok nmX4 (C.2.2.2.2 _ fl_X4_63) rfl rfl rfl rfl (Nat.le_of_ble_eq_true rfl) (wMc g h a (mWd M) (mPl M) (mSt M) (mUs M) (mLb M) (mNw M) (mAh M) (mMs M) (mLm M) (mLs M) (mFe M) (mUf M) (mWr M) (mCo M) (mNa M) (mCr M) (mCa M) 3 (mNm M) (mAc M) (mCk M) (mCp M)) rfl dX4_place_58 (fun H locs hW => ?_)
        refine lv_aload_n C.1 C.2.1 dX4_place_61 rfl (lv_at hl 0 rfl) ?_
        refine q_get (v := .int (nI 3)) C hW 0 rfl rfl 17 (by decide) gu_X4 (C.2.2.2.2 _ fl_X4_63) rfl rfl dX4_place_62 ?_
        refine q_zle (tgt := 70) C (by omega) dX4_place_65 (by decide) (fun c_65 => absurd c_65 (by decide)) (fun c_65 => ?_)
        refine lv_iconst (v := nI 0) C.1 C.2.1 dX4_place_68 (by decide) ?_
        exact q_iret C hRt hLk hW rfl (mWd M, mPl M, mSt M, mUs M, mLb M, mNw M, mAh M, mMs M, mLm M, mLs M, mFe M, mUf M, mWr M, mCo M, mNa M, mCr M, mCa M, 3, mNm M, mAc M, mCk M, mCp M) ⟨(Eq.symm (by unfold mPlace; rw [hv_n, inR_nI hn9 (by omega)]; dsimp only; rw [hv_x, inR_nI hx9 (by omega)]; dsimp only; rw [if_pos (by rw [o_41]; rfl)]; try rfl)), (Eq.symm (by unfold mPlace; rw [hv_n, inR_nI hn9 (by omega)]; dsimp only; rw [hv_x, inR_nI hx9 (by omega)]; dsimp only; rw [if_pos (by rw [o_41]; rfl)]; try rfl))⟩  rfl (Nat.le_of_ble_eq_true rfl) (Nat.le_of_ble_eq_true rfl) dX4_place_69
      refine lv_aload_n C.1 C.2.1 dX4_place_44 rfl (lv_at hl 0 rfl) ?_
      refine lv_iload_n C.1 C.2.1 dX4_place_45 rfl (lv_at hl 1 rfl) ?_
      refine lv_iload_n C.1 C.2.1 dX4_place_46 rfl (lv_at hl 2 rfl) ?_
      refine q_callVi (rest := [.ref h]) C (c_X4_fits l D g h a M n x hM (by omega) (by omega) _) (gw_V ml_X4_88 im_X4_fits se_X4_X4_fits ini_X4 cd_X4_fits rfl) rfl rfl rfl hd_X4_fits ⟨Nat.le_of_ble_eq_true rfl, Nat.le_of_ble_eq_true rfl⟩ hW pm_all (fun u_3 => (wM g h a u_3)) (fun _ => pm_all) rfl rfl hl.1 rfl (Nat.le_of_ble_eq_true rfl) ⟨Nat.le_of_ble_eq_true rfl, Nat.le_of_ble_eq_true rfl⟩ dX4_place_47 (fun r_3 u_3 H locs e_3 hW => ?_)
      obtain ⟨rfl, rfl⟩ := e_3
      refine q_bf (b := mFits M n x) (tgt := 57) C dX4_place_50 (by decide) (fun c_50 => ?_) (fun c_50 => ?_)
      · refine lv_iconst (v := nI 0) C.1 C.2.1 dX4_place_57 (by decide) ?_
        refine q_put C hW 0 rfl rfl 17 (by decide) gu_X4 tyX4_ok nmX4 (C.2.2.2.2 _ fl_X4_63) rfl rfl rfl rfl (Nat.le_of_ble_eq_true rfl) (wMc g h a (mWd M) (mPl M) (mSt M) (mUs M) (mLb M) (mNw M) (mAh M) (mMs M) (mLm M) (mLs M) (mFe M) (mUf M) (mWr M) (mCo M) (mNa M) (mCr M) (mCa M) 0 (mNm M) (mAc M) (mCk M) (mCp M)) rfl dX4_place_58 (fun H locs hW => ?_)
        refine lv_aload_n C.1 C.2.1 dX4_place_61 rfl (lv_at hl 0 rfl) ?_
        refine q_get (v := .int (nI 0)) C hW 0 rfl rfl 17 (by decide) gu_X4 (C.2.2.2.2 _ fl_X4_63) rfl rfl dX4_place_62 ?_
        refine q_zle (tgt := 70) C (by omega) dX4_place_65 (by decide) (fun c_65 => ?_) (fun c_65 => absurd c_65 (by decide))
        refine lv_aload_n C.1 C.2.1 dX4_place_70 rfl (lv_at hl 0 rfl) ?_
        refine q_get (v := .ref (a 1)) C hW 0 rfl rfl 1 (by decide) gu_X4 (C.2.2.2.2 _ fl_X4_13) rfl rfl dX4_place_71 ?_
        refine lv_iload_n C.1 C.2.1 dX4_place_74 rfl (lv_at hl 1 rfl) ?_
        refine lv_iload_n C.1 C.2.1 dX4_place_75 rfl (lv_at hl 2 rfl) ?_
        refine q_iastO C hW 2 rfl (k := n) (by omega) (by decide) (v := (some x)) (wMc g h a (mWd M) (va_up (mPl M) n (some x)) (mSt M) (mUs M) (mLb M) (mNw M) (mAh M) (mMs M) (mLm M) (mLs M) (mFe M) (mUf M) (mWr M) (mCo M) (mNa M) (mCr M) (mCa M) 0 (mNm M) (mAc M) (mCk M) (mCp M)) rfl dX4_place_76 (fun H locs hW => ?_)
        refine lv_iload_n C.1 C.2.1 dX4_place_77 rfl (lv_at hl 2 rfl) ?_
        refine lv_bipush (v := nI 8) C.1 C.2.1 dX4_place_78 (by decide) ?_
        refine q_idiv C (by omega) (by omega) (by omega) dX4_place_80 ?_
        exact q_iret C hRt hLk hW rfl (mWd M, va_up (mPl M) n (some x), mSt M, mUs M, mLb M, mNw M, mAh M, mMs M, mLm M, mLs M, mFe M, mUf M, mWr M, mCo M, mNa M, mCr M, mCa M, 0, mNm M, mAc M, mCk M, mCp M) ⟨(Eq.symm (by unfold mPlace; rw [hv_n, inR_nI hn9 (by omega)]; dsimp only; rw [hv_x, inR_nI hx9 (by omega)]; dsimp only; rw [if_neg (by rw [o_41]; decide), if_neg (by rw [c_50]; decide)]; try rfl)), (Eq.symm (by unfold mPlace; rw [hv_n, inR_nI hn9 (by omega)]; dsimp only; rw [hv_x, inR_nI hx9 (by omega)]; dsimp only; rw [if_neg (by rw [o_41]; decide), if_neg (by rw [c_50]; decide)]; try rfl))⟩  rfl (Nat.le_of_ble_eq_true rfl) (Nat.le_of_ble_eq_true rfl) dX4_place_81
      refine lv_iconst (v := nI 3) C.1 C.2.1 dX4_place_53 (by decide) ?_
      refine lv_goto (tgt := 58) C.1 C.2.1 dX4_place_54 (by decide) ?_
      refine q_put C hW 0 rfl rfl 17 (by decide) gu_X4 tyX4_ok nmX4 (C.2.2.2.2 _ fl_X4_63) rfl rfl rfl rfl (Nat.le_of_ble_eq_true rfl) (wMc g h a (mWd M) (mPl M) (mSt M) (mUs M) (mLb M) (mNw M) (mAh M) (mMs M) (mLm M) (mLs M) (mFe M) (mUf M) (mWr M) (mCo M) (mNa M) (mCr M) (mCa M) 3 (mNm M) (mAc M) (mCk M) (mCp M)) rfl dX4_place_58 (fun H locs hW => ?_)
      refine lv_aload_n C.1 C.2.1 dX4_place_61 rfl (lv_at hl 0 rfl) ?_
      refine q_get (v := .int (nI 3)) C hW 0 rfl rfl 17 (by decide) gu_X4 (C.2.2.2.2 _ fl_X4_63) rfl rfl dX4_place_62 ?_
      refine q_zle (tgt := 70) C (by omega) dX4_place_65 (by decide) (fun c_65 => absurd c_65 (by decide)) (fun c_65 => ?_)
      refine lv_iconst (v := nI 0) C.1 C.2.1 dX4_place_68 (by decide) ?_
      exact q_iret C hRt hLk hW rfl (mWd M, mPl M, mSt M, mUs M, mLb M, mNw M, mAh M, mMs M, mLm M, mLs M, mFe M, mUf M, mWr M, mCo M, mNa M, mCr M, mCa M, 3, mNm M, mAc M, mCk M, mCp M) ⟨(Eq.symm (by unfold mPlace; rw [hv_n, inR_nI hn9 (by omega)]; dsimp only; rw [hv_x, inR_nI hx9 (by omega)]; dsimp only; rw [if_neg (by rw [o_41]; decide), if_pos c_50]; try rfl)), (Eq.symm (by unfold mPlace; rw [hv_n, inR_nI hn9 (by omega)]; dsimp only; rw [hv_x, inR_nI hx9 (by omega)]; dsimp only; rw [if_neg (by rw [o_41]; decide), if_pos c_50]; try rfl))⟩  rfl (Nat.le_of_ble_eq_true rfl) (Nat.le_of_ble_eq_true rfl) dX4_place_69
    refine lv_iconst (v := nI 2) C.1 C.2.1 dX4_place_31 (by decide) ?_
    refine lv_goto (tgt := 58) C.1 C.2.1 dX4_place_32 (by decide) ?_
    refine q_put C hW 0 rfl rfl 17 (by decide) gu_X4 tyX4_ok nmX4 (C.2.2.2.2 _ fl_X4_63) rfl rfl rfl rfl (Nat.le_of_ble_eq_true rfl) (wMc g h a (mWd M) (mPl M) (mSt M) (mUs M) (mLb M) (mNw M) (mAh M) (mMs M) (mLm M) (mLs M) (mFe M) (mUf M) (mWr M) (mCo M) (mNa M) (mCr M) (mCa M) 2 (mNm M) (mAc M) (mCk M) (mCp M)) rfl dX4_place_58 (fun H locs hW => ?_)
    refine lv_aload_n C.1 C.2.1 dX4_place_61 rfl (lv_at hl 0 rfl) ?_
    refine q_get (v := .int (nI 2)) C hW 0 rfl rfl 17 (by decide) gu_X4 (C.2.2.2.2 _ fl_X4_63) rfl rfl dX4_place_62 ?_
    refine q_zle (tgt := 70) C (by omega) dX4_place_65 (by decide) (fun c_65 => absurd c_65 (by decide)) (fun c_65 => ?_)
    refine lv_iconst (v := nI 0) C.1 C.2.1 dX4_place_68 (by decide) ?_
    exact q_iret C hRt hLk hW rfl (mWd M, mPl M, mSt M, mUs M, mLb M, mNw M, mAh M, mMs M, mLm M, mLs M, mFe M, mUf M, mWr M, mCo M, mNa M, mCr M, mCa M, 2, mNm M, mAc M, mCk M, mCp M) ⟨(Eq.symm (by unfold mPlace; rw [hv_n, inR_nI hn9 (by omega)]; dsimp only; rw [inR_none_of c_28]; try rfl)), (Eq.symm (by unfold mPlace; rw [hv_n, inR_nI hn9 (by omega)]; dsimp only; rw [inR_none_of c_28]; try rfl))⟩  rfl (Nat.le_of_ble_eq_true rfl) (Nat.le_of_ble_eq_true rfl) dX4_place_69
  refine lv_iconst (v := nI 1) C.1 C.2.1 dX4_place_9 (by decide) ?_
  refine lv_goto (tgt := 58) C.1 C.2.1 dX4_place_10 (by decide) ?_
  refine q_put C hW 0 rfl rfl 17 (by decide) gu_X4 tyX4_ok nmX4 (C.2.2.2.2 _ fl_X4_63) rfl rfl rfl rfl (Nat.le_of_ble_eq_true rfl) (wMc g h a (mWd M) (mPl M) (mSt M) (mUs M) (mLb M) (mNw M) (mAh M) (mMs M) (mLm M) (mLs M) (mFe M) (mUf M) (mWr M) (mCo M) (mNa M) (mCr M) (mCa M) 1 (mNm M) (mAc M) (mCk M) (mCp M)) rfl dX4_place_58 (fun H locs hW => ?_)
  refine lv_aload_n C.1 C.2.1 dX4_place_61 rfl (lv_at hl 0 rfl) ?_
  refine q_get (v := .int (nI 1)) C hW 0 rfl rfl 17 (by decide) gu_X4 (C.2.2.2.2 _ fl_X4_63) rfl rfl dX4_place_62 ?_
  refine q_zle (tgt := 70) C (by omega) dX4_place_65 (by decide) (fun c_65 => absurd c_65 (by decide)) (fun c_65 => ?_)
  refine lv_iconst (v := nI 0) C.1 C.2.1 dX4_place_68 (by decide) ?_
  exact q_iret C hRt hLk hW rfl (mWd M, mPl M, mSt M, mUs M, mLb M, mNw M, mAh M, mMs M, mLm M, mLs M, mFe M, mUf M, mWr M, mCo M, mNa M, mCr M, mCa M, 1, mNm M, mAc M, mCk M, mCp M) ⟨(Eq.symm (by unfold mPlace; rw [inR_none_of c_6]; try rfl)), (Eq.symm (by unfold mPlace; rw [inR_none_of c_6]; try rfl))⟩  rfl (Nat.le_of_ble_eq_true rfl) (Nat.le_of_ble_eq_true rfl) dX4_place_69

theorem hd_X4_take : yX4_take.cls = RX4 ∧ yX4_take.cls ≠ "java/lang/invoke/MethodHandle" ∧ yX4_take.cls ≠ "java/lang/invoke/VarHandle" ∧ (parseMethodDescriptor yX4_take.desc).map (fun d => d.parameters.length) = some 1 := by decide +kernel
set_option maxHeartbeats 4000000 in
set_option maxRecDepth 100000 in
theorem c_X4_take (l : Launch) (D : va_G) (g : Nat → ClassId) (h : Nat) (a : Nat → Nat) (M : MdS) (v : Int32) (hM : MOK M) (sz : Nat) : qMi l yX4_take (.code yX4_take cX4_take 3 (some .int) :: GW) ({ frames := 2, cells := 0, slots := 0, locals := 43 } : Room) D g [.ref h, .int v] (wM g h a M) sz (fun (r : Int32) (u : MdS) => nI ((mTake M v).1) = r ∧ ((mTake M v).2) = u) (fun (u : MdS) => (wM g h a u)) 0 0 := by
  refine q_entry (cc := cX4_take) (nL := 3) (ret := (some .int)) rfl (by decide) (Nat.le_of_ble_eq_true rfl) (fun pp ee ss mm bb mt kc ls C hRt hLk hin hsz hW hl => ?_)
  have hl : lv_has ls 3 [(0, .ref h), (1, .int v)] := hl
  have h12 := hM.1
  have hcp1 := hM.2.2.2.2.1
  have hcp2 := hM.2.2.2.2.2.2
  refine lv_aload_n C.1 C.2.1 dX4_take_0 rfl (lv_at hl 0 rfl) ?_
  refine lv_aload_n C.1 C.2.1 dX4_take_1 rfl (lv_at hl 0 rfl) ?_
  refine lv_iload_n C.1 C.2.1 dX4_take_2 rfl (lv_at hl 1 rfl) ?_
  refine q_callVi (rest := [.ref h]) C (c_X4_isName l D g h a M v hM _) (gw_V ml_X4_84 im_X4_isName se_X4_X4_isName ini_X4 cd_X4_isName rfl) rfl rfl rfl hd_X4_isName ⟨Nat.le_of_ble_eq_true rfl, Nat.le_of_ble_eq_true rfl⟩ hW pm_all (fun u_1 => (wM g h a u_1)) (fun _ => pm_all) rfl rfl hl.1 rfl (Nat.le_of_ble_eq_true rfl) ⟨Nat.le_of_ble_eq_true rfl, Nat.le_of_ble_eq_true rfl⟩ dX4_take_3 (fun r_1 u_1 H locs e_1 hW => ?_)
  obtain ⟨rfl, rfl⟩ := e_1
  refine q_bf (b := (inR (mNm M) v).isSome) (tgt := 13) C dX4_take_6 (by decide) (fun c_6 => ?_) (fun c_6 => ?_)
  · obtain ⟨n, hn9, hv_n⟩ := inR_of (by omega) c_6
    rw [hv_n] at hl
    have hl : lv_has ls 3 [(0, .ref h), (1, .int (nI n))] := hl
    refine lv_aload_n C.1 C.2.1 dX4_take_13 rfl (lv_at hl 0 rfl) ?_
    refine q_get (v := .ref (a 1)) C hW 0 rfl rfl 1 (by decide) gu_X4 (C.2.2.2.2 _ fl_X4_13) rfl rfl dX4_take_14 ?_
    refine lv_iload_n C.1 C.2.1 dX4_take_17 rfl (lv_at hl 1 rfl) ?_
    refine q_ialdO (f := mPl M) C hW 2 rfl (k := n) (by omega) (by decide) dX4_take_18 ?_
    refine q_oge (o := (mPl M) n) (tgt := 26) C (fun i9 e9 => by have := hM.st (by omega) e9; omega) dX4_take_19 (by decide) (fun j_19 o_19 => ?_) (fun o_19 => ?_)
    · refine lv_iconst (v := nI 0) C.1 C.2.1 dX4_take_26 (by decide) ?_
      refine q_put C hW 0 rfl rfl 17 (by decide) gu_X4 tyX4_ok nmX4 (C.2.2.2.2 _ fl_X4_63) rfl rfl rfl rfl (Nat.le_of_ble_eq_true rfl) (wMc g h a (mWd M) (mPl M) (mSt M) (mUs M) (mLb M) (mNw M) (mAh M) (mMs M) (mLm M) (mLs M) (mFe M) (mUf M) (mWr M) (mCo M) (mNa M) (mCr M) (mCa M) 0 (mNm M) (mAc M) (mCk M) (mCp M)) rfl dX4_take_27 (fun H locs hW => ?_)
      refine lv_aload_n C.1 C.2.1 dX4_take_30 rfl (lv_at hl 0 rfl) ?_
      refine q_get (v := .int (nI 0)) C hW 0 rfl rfl 17 (by decide) gu_X4 (C.2.2.2.2 _ fl_X4_63) rfl rfl dX4_take_31 ?_
      refine q_zle (tgt := 39) C (by omega) dX4_take_34 (by decide) (fun c_34 => ?_) (fun c_34 => absurd c_34 (by decide))
      refine lv_aload_n C.1 C.2.1 dX4_take_39 rfl (lv_at hl 0 rfl) ?_
      refine q_get (v := .ref (a 1)) C hW 0 rfl rfl 1 (by decide) gu_X4 (C.2.2.2.2 _ fl_X4_13) rfl rfl dX4_take_40 ?_
      refine lv_iload_n C.1 C.2.1 dX4_take_43 rfl (lv_at hl 1 rfl) ?_
      refine q_ialdO (f := mPl M) C hW 2 rfl (k := n) (by omega) (by decide) dX4_take_44 ?_
      refine q_to (y := nI j_19) (by rw [o_19]; rfl) ?_
      refine lv_istore_n (lv' := [(2, .int (nI j_19)), (0, .ref h), (1, .int (nI n))]) C.1 C.2.1 dX4_take_45 rfl hl (by decide) rfl (fun ls hl => ?_)
      refine lv_aload_n C.1 C.2.1 dX4_take_46 rfl (lv_at hl 1 rfl) ?_
      refine q_get (v := .ref (a 1)) C hW 0 rfl rfl 1 (by decide) gu_X4 (C.2.2.2.2 _ fl_X4_13) rfl rfl dX4_take_47 ?_
      refine lv_iload_n C.1 C.2.1 dX4_take_50 rfl (lv_at hl 2 rfl) ?_
      refine lv_iconst (v := (-1)) C.1 C.2.1 dX4_take_51 (by decide) ?_
      refine q_iastO C hW 2 rfl (k := n) (by omega) (by decide) (v := none) (wMc g h a (mWd M) (va_up (mPl M) n none) (mSt M) (mUs M) (mLb M) (mNw M) (mAh M) (mMs M) (mLm M) (mLs M) (mFe M) (mUf M) (mWr M) (mCo M) (mNa M) (mCr M) (mCa M) 0 (mNm M) (mAc M) (mCk M) (mCp M)) rfl dX4_take_52 (fun H locs hW => ?_)
      refine lv_iload_n C.1 C.2.1 dX4_take_53 rfl (lv_at hl 0 rfl) ?_
      exact q_iret C hRt hLk hW rfl (mWd M, va_up (mPl M) n none, mSt M, mUs M, mLb M, mNw M, mAh M, mMs M, mLm M, mLs M, mFe M, mUf M, mWr M, mCo M, mNa M, mCr M, mCa M, 0, mNm M, mAc M, mCk M, mCp M) ⟨(Eq.symm (by unfold mTake; rw [hv_n, inR_nI hn9 (by omega)]; dsimp only; rw [o_19]; try rfl)), (Eq.symm (by unfold mTake; rw [hv_n, inR_nI hn9 (by omega)]; dsimp only; rw [o_19]; try rfl))⟩  rfl (Nat.le_of_ble_eq_true rfl) (Nat.le_of_ble_eq_true rfl) dX4_take_54
    refine lv_iconst (v := nI 2) C.1 C.2.1 dX4_take_22 (by decide) ?_
    refine lv_goto (tgt := 27) C.1 C.2.1 dX4_take_23 (by decide) ?_
    refine q_put C hW 0 rfl rfl 17 (by decide) gu_X4 tyX4_ok nmX4 (C.2.2.2.2 _ fl_X4_63) rfl rfl rfl rfl (Nat.le_of_ble_eq_true rfl) (wMc g h a (mWd M) (mPl M) (mSt M) (mUs M) (mLb M) (mNw M) (mAh M) (mMs M) (mLm M) (mLs M) (mFe M) (mUf M) (mWr M) (mCo M) (mNa M) (mCr M) (mCa M) 2 (mNm M) (mAc M) (mCk M) (mCp M)) rfl dX4_take_27 (fun H locs hW => ?_)
    refine lv_aload_n C.1 C.2.1 dX4_take_30 rfl (lv_at hl 0 rfl) ?_
    refine q_get (v := .int (nI 2)) C hW 0 rfl rfl 17 (by decide) gu_X4 (C.2.2.2.2 _ fl_X4_63) rfl rfl dX4_take_31 ?_
    refine q_zle (tgt := 39) C (by omega) dX4_take_34 (by decide) (fun c_34 => absurd c_34 (by decide)) (fun c_34 => ?_)
    refine lv_iconst (v := nI 0) C.1 C.2.1 dX4_take_37 (by decide) ?_
    exact q_iret C hRt hLk hW rfl (mWd M, mPl M, mSt M, mUs M, mLb M, mNw M, mAh M, mMs M, mLm M, mLs M, mFe M, mUf M, mWr M, mCo M, mNa M, mCr M, mCa M, 2, mNm M, mAc M, mCk M, mCp M) ⟨(Eq.symm (by unfold mTake; rw [hv_n, inR_nI hn9 (by omega)]; dsimp only; rw [o_19]; try rfl)), (Eq.symm (by unfold mTake; rw [hv_n, inR_nI hn9 (by omega)]; dsimp only; rw [o_19]; try rfl))⟩  rfl (Nat.le_of_ble_eq_true rfl) (Nat.le_of_ble_eq_true rfl) dX4_take_38
  refine lv_iconst (v := nI 1) C.1 C.2.1 dX4_take_9 (by decide) ?_
  refine lv_goto (tgt := 27) C.1 C.2.1 dX4_take_10 (by decide) ?_
  refine q_put C hW 0 rfl rfl 17 (by decide) gu_X4 tyX4_ok nmX4 (C.2.2.2.2 _ fl_X4_63) rfl rfl rfl rfl (Nat.le_of_ble_eq_true rfl) (wMc g h a (mWd M) (mPl M) (mSt M) (mUs M) (mLb M) (mNw M) (mAh M) (mMs M) (mLm M) (mLs M) (mFe M) (mUf M) (mWr M) (mCo M) (mNa M) (mCr M) (mCa M) 1 (mNm M) (mAc M) (mCk M) (mCp M)) rfl dX4_take_27 (fun H locs hW => ?_)
  refine lv_aload_n C.1 C.2.1 dX4_take_30 rfl (lv_at hl 0 rfl) ?_
  refine q_get (v := .int (nI 1)) C hW 0 rfl rfl 17 (by decide) gu_X4 (C.2.2.2.2 _ fl_X4_63) rfl rfl dX4_take_31 ?_
  refine q_zle (tgt := 39) C (by omega) dX4_take_34 (by decide) (fun c_34 => absurd c_34 (by decide)) (fun c_34 => ?_)
  refine lv_iconst (v := nI 0) C.1 C.2.1 dX4_take_37 (by decide) ?_
  exact q_iret C hRt hLk hW rfl (mWd M, mPl M, mSt M, mUs M, mLb M, mNw M, mAh M, mMs M, mLm M, mLs M, mFe M, mUf M, mWr M, mCo M, mNa M, mCr M, mCa M, 1, mNm M, mAc M, mCk M, mCp M) ⟨(Eq.symm (by unfold mTake; rw [inR_none_of c_6]; try rfl)), (Eq.symm (by unfold mTake; rw [inR_none_of c_6]; try rfl))⟩  rfl (Nat.le_of_ble_eq_true rfl) (Nat.le_of_ble_eq_true rfl) dX4_take_38

theorem hd_X4_addressOf : yX4_addressOf.cls = RX4 ∧ yX4_addressOf.cls ≠ "java/lang/invoke/MethodHandle" ∧ yX4_addressOf.cls ≠ "java/lang/invoke/VarHandle" ∧ (parseMethodDescriptor yX4_addressOf.desc).map (fun d => d.parameters.length) = some 2 := by decide +kernel
set_option maxHeartbeats 4000000 in
set_option maxRecDepth 100000 in
theorem c_X4_addressOf (l : Launch) (D : va_G) (g : Nat → ClassId) (h : Nat) (a : Nat → Nat) (M : MdS) (v1 : Int32) (v2 : Int32) (hM : MOK M) (sz : Nat) : qMi l yX4_addressOf (.code yX4_addressOf cX4_addressOf 3 (some .int) :: GW) ({ frames := 2, cells := 0, slots := 0, locals := 43 } : Room) D g [.ref h, .int v1, .int v2] (wM g h a M) sz (fun (r : Int32) (u : MdS) => nI ((mAddr M v1 v2).1) = r ∧ ((mAddr M v1 v2).2) = u) (fun (u : MdS) => (wM g h a u)) 0 0 := by
  refine q_entry (cc := cX4_addressOf) (nL := 3) (ret := (some .int)) rfl (by decide) (Nat.le_of_ble_eq_true rfl) (fun pp ee ss mm bb mt kc ls C hRt hLk hin hsz hW hl => ?_)
  have hl : lv_has ls 3 [(0, .ref h), (1, .int v1), (2, .int v2)] := hl
  have h12 := hM.1
  have hcp1 := hM.2.2.2.2.1
  have hcp2 := hM.2.2.2.2.2.2
  refine lv_aload_n C.1 C.2.1 dX4_addressOf_0 rfl (lv_at hl 0 rfl) ?_
  refine lv_aload_n C.1 C.2.1 dX4_addressOf_1 rfl (lv_at hl 0 rfl) ?_
  refine lv_iload_n C.1 C.2.1 dX4_addressOf_2 rfl (lv_at hl 1 rfl) ?_
  refine q_callVi (rest := [.ref h]) C (c_X4_isName l D g h a M v1 hM _) (gw_V ml_X4_84 im_X4_isName se_X4_X4_isName ini_X4 cd_X4_isName rfl) rfl rfl rfl hd_X4_isName ⟨Nat.le_of_ble_eq_true rfl, Nat.le_of_ble_eq_true rfl⟩ hW pm_all (fun u_1 => (wM g h a u_1)) (fun _ => pm_all) rfl rfl hl.1 rfl (Nat.le_of_ble_eq_true rfl) ⟨Nat.le_of_ble_eq_true rfl, Nat.le_of_ble_eq_true rfl⟩ dX4_addressOf_3 (fun r_1 u_1 H locs e_1 hW => ?_)
  obtain ⟨rfl, rfl⟩ := e_1
  refine q_bf (b := (inR (mNm M) v1).isSome) (tgt := 13) C dX4_addressOf_6 (by decide) (fun c_6 => ?_) (fun c_6 => ?_)
  · obtain ⟨n, hn9, hv_n⟩ := inR_of (by omega) c_6
    rw [hv_n] at hl
    have hl : lv_has ls 3 [(0, .ref h), (1, .int (nI n)), (2, .int v2)] := hl
    have hz := hM.sz (i := n) (by omega)
    refine lv_aload_n C.1 C.2.1 dX4_addressOf_13 rfl (lv_at hl 0 rfl) ?_
    refine q_get (v := .ref (a 1)) C hW 0 rfl rfl 1 (by decide) gu_X4 (C.2.2.2.2 _ fl_X4_13) rfl rfl dX4_addressOf_14 ?_
    refine lv_iload_n C.1 C.2.1 dX4_addressOf_17 rfl (lv_at hl 1 rfl) ?_
    refine q_ialdO (f := mPl M) C hW 2 rfl (k := n) (by omega) (by decide) dX4_addressOf_18 ?_
    refine q_oge (o := (mPl M) n) (tgt := 26) C (fun i9 e9 => by have := hM.st (by omega) e9; omega) dX4_addressOf_19 (by decide) (fun j_19 o_19 => ?_) (fun o_19 => ?_)
    · refine lv_iload_n C.1 C.2.1 dX4_addressOf_26 rfl (lv_at hl 2 rfl) ?_
      refine lv_iconst (v := nI 0) C.1 C.2.1 dX4_addressOf_27 (by decide) ?_
      refine lv_aload_n C.1 C.2.1 dX4_addressOf_28 rfl (lv_at hl 0 rfl) ?_
      refine q_get (v := .ref (a 0)) C hW 0 rfl rfl 0 (by decide) gu_X4 (C.2.2.2.2 _ fl_X4_7) rfl rfl dX4_addressOf_29 ?_
      refine lv_iload_n C.1 C.2.1 dX4_addressOf_32 rfl (lv_at hl 1 rfl) ?_
      refine q_ialdN (f := mWd M) C hW 1 rfl (k := n) (by omega) (by decide) dX4_addressOf_33 ?_
      refine lv_iconst (v := nI 1) C.1 C.2.1 dX4_addressOf_34 (by decide) ?_
      refine lv_isub C.1 C.2.1 dX4_addressOf_35 ?_
      refine q_callSi (rest := [.ref h]) C (c_X4_in l D g v2 (nI 0) ((nI ((mWd M) n)) - (nI 1)) _) (gw_S ml_X4_76 sm_X4_in ini_X4 cd_X4_in rfl) rfl rfl rfl hd_X4_in ⟨Nat.le_of_ble_eq_true rfl, Nat.le_of_ble_eq_true rfl⟩ hW (List.Perm.refl _) (fun (u_2 : Unit) => (wM g h a M)) (fun _ => List.Perm.refl _) hl.1 rfl (Nat.le_of_ble_eq_true rfl) ⟨Nat.le_of_ble_eq_true rfl, Nat.le_of_ble_eq_true rfl⟩ dX4_addressOf_36 (fun r_2 u_2 H locs e_2 hW => ?_)
      subst e_2
      refine q_to (y := bI ((inR ((mWd M) n) v2).isSome)) (by rw [inB_inR (by omega)]) ?_
      refine q_bf (b := (inR ((mWd M) n) v2).isSome) (tgt := 46) C dX4_addressOf_39 (by decide) (fun c_39 => ?_) (fun c_39 => ?_)
      · obtain ⟨x, hx9, hv_x⟩ := inR_of (by omega) c_39
        rw [hv_x] at hl
        have hl : lv_has ls 3 [(0, .ref h), (1, .int (nI n)), (2, .int (nI x))] := hl
        refine lv_iconst (v := nI 0) C.1 C.2.1 dX4_addressOf_46 (by decide) ?_
        refine q_put C hW 0 rfl rfl 17 (by decide) gu_X4 tyX4_ok nmX4 (C.2.2.2.2 _ fl_X4_63) rfl rfl rfl rfl (Nat.le_of_ble_eq_true rfl) (wMc g h a (mWd M) (mPl M) (mSt M) (mUs M) (mLb M) (mNw M) (mAh M) (mMs M) (mLm M) (mLs M) (mFe M) (mUf M) (mWr M) (mCo M) (mNa M) (mCr M) (mCa M) 0 (mNm M) (mAc M) (mCk M) (mCp M)) rfl dX4_addressOf_47 (fun H locs hW => ?_)
        refine lv_aload_n C.1 C.2.1 dX4_addressOf_50 rfl (lv_at hl 0 rfl) ?_
        refine q_get (v := .int (nI 0)) C hW 0 rfl rfl 17 (by decide) gu_X4 (C.2.2.2.2 _ fl_X4_63) rfl rfl dX4_addressOf_51 ?_
        refine q_zle (tgt := 61) C (by omega) dX4_addressOf_54 (by decide) (fun c_54 => ?_) (fun c_54 => absurd c_54 (by decide))
        refine lv_aload_n C.1 C.2.1 dX4_addressOf_61 rfl (lv_at hl 0 rfl) ?_
        refine q_get (v := .ref (a 1)) C hW 0 rfl rfl 1 (by decide) gu_X4 (C.2.2.2.2 _ fl_X4_13) rfl rfl dX4_addressOf_62 ?_
        refine lv_iload_n C.1 C.2.1 dX4_addressOf_65 rfl (lv_at hl 1 rfl) ?_
        refine q_ialdO (f := mPl M) C hW 2 rfl (k := n) (by omega) (by decide) dX4_addressOf_66 ?_
        refine q_to (y := nI j_19) (by rw [o_19]; rfl) ?_
        refine lv_iload_n C.1 C.2.1 dX4_addressOf_67 rfl (lv_at hl 2 rfl) ?_
        refine q_iadd C dX4_addressOf_68 ?_
        exact q_iret C hRt hLk hW rfl (mWd M, mPl M, mSt M, mUs M, mLb M, mNw M, mAh M, mMs M, mLm M, mLs M, mFe M, mUf M, mWr M, mCo M, mNa M, mCr M, mCa M, 0, mNm M, mAc M, mCk M, mCp M) ⟨(Eq.symm (by unfold mAddr; rw [hv_n, inR_nI hn9 (by omega)]; dsimp only; rw [o_19]; dsimp only; rw [hv_x, inR_nI hx9 (by omega)]; try rfl)), (Eq.symm (by unfold mAddr; rw [hv_n, inR_nI hn9 (by omega)]; dsimp only; rw [o_19]; dsimp only; rw [hv_x, inR_nI hx9 (by omega)]; try rfl))⟩  rfl (Nat.le_of_ble_eq_true rfl) (Nat.le_of_ble_eq_true rfl) dX4_addressOf_69
      refine lv_iconst (v := nI 3) C.1 C.2.1 dX4_addressOf_42 (by decide) ?_
      refine lv_goto (tgt := 47) C.1 C.2.1 dX4_addressOf_43 (by decide) ?_
      refine q_put C hW 0 rfl rfl 17 (by decide) gu_X4 tyX4_ok nmX4 (C.2.2.2.2 _ fl_X4_63) rfl rfl rfl rfl (Nat.le_of_ble_eq_true rfl) (wMc g h a (mWd M) (mPl M) (mSt M) (mUs M) (mLb M) (mNw M) (mAh M) (mMs M) (mLm M) (mLs M) (mFe M) (mUf M) (mWr M) (mCo M) (mNa M) (mCr M) (mCa M) 3 (mNm M) (mAc M) (mCk M) (mCp M)) rfl dX4_addressOf_47 (fun H locs hW => ?_)
      refine lv_aload_n C.1 C.2.1 dX4_addressOf_50 rfl (lv_at hl 0 rfl) ?_
      refine q_get (v := .int (nI 3)) C hW 0 rfl rfl 17 (by decide) gu_X4 (C.2.2.2.2 _ fl_X4_63) rfl rfl dX4_addressOf_51 ?_
      refine q_zle (tgt := 61) C (by omega) dX4_addressOf_54 (by decide) (fun c_54 => absurd c_54 (by decide)) (fun c_54 => ?_)
      refine lv_iconst (v := nI 0) C.1 C.2.1 dX4_addressOf_57 (by decide) ?_
      refine lv_goto (tgt := 69) C.1 C.2.1 dX4_addressOf_58 (by decide) ?_
      exact q_iret C hRt hLk hW rfl (mWd M, mPl M, mSt M, mUs M, mLb M, mNw M, mAh M, mMs M, mLm M, mLs M, mFe M, mUf M, mWr M, mCo M, mNa M, mCr M, mCa M, 3, mNm M, mAc M, mCk M, mCp M) ⟨(Eq.symm (by unfold mAddr; rw [hv_n, inR_nI hn9 (by omega)]; dsimp only; rw [o_19]; dsimp only; rw [inR_none_of c_39]; try rfl)), (Eq.symm (by unfold mAddr; rw [hv_n, inR_nI hn9 (by omega)]; dsimp only; rw [o_19]; dsimp only; rw [inR_none_of c_39]; try rfl))⟩  rfl (Nat.le_of_ble_eq_true rfl) (Nat.le_of_ble_eq_true rfl) dX4_addressOf_69
    refine lv_iconst (v := nI 2) C.1 C.2.1 dX4_addressOf_22 (by decide) ?_
    refine lv_goto (tgt := 47) C.1 C.2.1 dX4_addressOf_23 (by decide) ?_
    refine q_put C hW 0 rfl rfl 17 (by decide) gu_X4 tyX4_ok nmX4 (C.2.2.2.2 _ fl_X4_63) rfl rfl rfl rfl (Nat.le_of_ble_eq_true rfl) (wMc g h a (mWd M) (mPl M) (mSt M) (mUs M) (mLb M) (mNw M) (mAh M) (mMs M) (mLm M) (mLs M) (mFe M) (mUf M) (mWr M) (mCo M) (mNa M) (mCr M) (mCa M) 2 (mNm M) (mAc M) (mCk M) (mCp M)) rfl dX4_addressOf_47 (fun H locs hW => ?_)
    refine lv_aload_n C.1 C.2.1 dX4_addressOf_50 rfl (lv_at hl 0 rfl) ?_
    refine q_get (v := .int (nI 2)) C hW 0 rfl rfl 17 (by decide) gu_X4 (C.2.2.2.2 _ fl_X4_63) rfl rfl dX4_addressOf_51 ?_
    refine q_zle (tgt := 61) C (by omega) dX4_addressOf_54 (by decide) (fun c_54 => absurd c_54 (by decide)) (fun c_54 => ?_)
    refine lv_iconst (v := nI 0) C.1 C.2.1 dX4_addressOf_57 (by decide) ?_
    refine lv_goto (tgt := 69) C.1 C.2.1 dX4_addressOf_58 (by decide) ?_
    exact q_iret C hRt hLk hW rfl (mWd M, mPl M, mSt M, mUs M, mLb M, mNw M, mAh M, mMs M, mLm M, mLs M, mFe M, mUf M, mWr M, mCo M, mNa M, mCr M, mCa M, 2, mNm M, mAc M, mCk M, mCp M) ⟨(Eq.symm (by unfold mAddr; rw [hv_n, inR_nI hn9 (by omega)]; dsimp only; rw [o_19]; try rfl)), (Eq.symm (by unfold mAddr; rw [hv_n, inR_nI hn9 (by omega)]; dsimp only; rw [o_19]; try rfl))⟩  rfl (Nat.le_of_ble_eq_true rfl) (Nat.le_of_ble_eq_true rfl) dX4_addressOf_69
  refine lv_iconst (v := nI 1) C.1 C.2.1 dX4_addressOf_9 (by decide) ?_
  refine lv_goto (tgt := 47) C.1 C.2.1 dX4_addressOf_10 (by decide) ?_
  refine q_put C hW 0 rfl rfl 17 (by decide) gu_X4 tyX4_ok nmX4 (C.2.2.2.2 _ fl_X4_63) rfl rfl rfl rfl (Nat.le_of_ble_eq_true rfl) (wMc g h a (mWd M) (mPl M) (mSt M) (mUs M) (mLb M) (mNw M) (mAh M) (mMs M) (mLm M) (mLs M) (mFe M) (mUf M) (mWr M) (mCo M) (mNa M) (mCr M) (mCa M) 1 (mNm M) (mAc M) (mCk M) (mCp M)) rfl dX4_addressOf_47 (fun H locs hW => ?_)
  refine lv_aload_n C.1 C.2.1 dX4_addressOf_50 rfl (lv_at hl 0 rfl) ?_
  refine q_get (v := .int (nI 1)) C hW 0 rfl rfl 17 (by decide) gu_X4 (C.2.2.2.2 _ fl_X4_63) rfl rfl dX4_addressOf_51 ?_
  refine q_zle (tgt := 61) C (by omega) dX4_addressOf_54 (by decide) (fun c_54 => absurd c_54 (by decide)) (fun c_54 => ?_)
  refine lv_iconst (v := nI 0) C.1 C.2.1 dX4_addressOf_57 (by decide) ?_
  refine lv_goto (tgt := 69) C.1 C.2.1 dX4_addressOf_58 (by decide) ?_
  exact q_iret C hRt hLk hW rfl (mWd M, mPl M, mSt M, mUs M, mLb M, mNw M, mAh M, mMs M, mLm M, mLs M, mFe M, mUf M, mWr M, mCo M, mNa M, mCr M, mCa M, 1, mNm M, mAc M, mCk M, mCp M) ⟨(Eq.symm (by unfold mAddr; rw [inR_none_of c_6]; try rfl)), (Eq.symm (by unfold mAddr; rw [inR_none_of c_6]; try rfl))⟩  rfl (Nat.le_of_ble_eq_true rfl) (Nat.le_of_ble_eq_true rfl) dX4_addressOf_69

theorem hd_X4_nameAt : yX4_nameAt.cls = RX4 ∧ yX4_nameAt.cls ≠ "java/lang/invoke/MethodHandle" ∧ yX4_nameAt.cls ≠ "java/lang/invoke/VarHandle" ∧ (parseMethodDescriptor yX4_nameAt.desc).map (fun d => d.parameters.length) = some 1 := by decide +kernel
set_option maxHeartbeats 4000000 in
set_option maxRecDepth 100000 in
theorem c_X4_nameAt (l : Launch) (D : va_G) (g : Nat → ClassId) (h : Nat) (a : Nat → Nat) (M : MdS) (v : Int32) (hM : MOK M) (sz : Nat) : qMi l yX4_nameAt (.code yX4_nameAt cX4_nameAt 2 (some .int) :: GW) ({ frames := 2, cells := 0, slots := 0, locals := 44 } : Room) D g [.ref h, .int v] (wM g h a M) sz (fun (r : Int32) (u : MdS) => nI ((mNameAt M v).1) = r ∧ ((mNameAt M v).2) = u) (fun (u : MdS) => (wM g h a u)) 0 0 := by
  refine q_entry (cc := cX4_nameAt) (nL := 2) (ret := (some .int)) rfl (by decide) (Nat.le_of_ble_eq_true rfl) (fun pp ee ss mm bb mt kc ls C hRt hLk hin hsz hW hl => ?_)
  have hl : lv_has ls 2 [(0, .ref h), (1, .int v)] := hl
  have h12 := hM.1
  have hcp1 := hM.2.2.2.2.1
  have hcp2 := hM.2.2.2.2.2.2
  refine lv_aload_n C.1 C.2.1 dX4_nameAt_0 rfl (lv_at hl 0 rfl) ?_
  refine lv_iload_n C.1 C.2.1 dX4_nameAt_1 rfl (lv_at hl 1 rfl) ?_
  refine lv_iconst (v := nI 0) C.1 C.2.1 dX4_nameAt_2 (by decide) ?_
  refine lv_sipush (v := nI 511) C.1 C.2.1 dX4_nameAt_3 (by decide) ?_
  refine q_callSi (rest := [.ref h]) C (c_X4_in l D g v (nI 0) (nI 511) _) (gw_S ml_X4_76 sm_X4_in ini_X4 cd_X4_in rfl) rfl rfl rfl hd_X4_in ⟨Nat.le_of_ble_eq_true rfl, Nat.le_of_ble_eq_true rfl⟩ hW (List.Perm.refl _) (fun (u_1 : Unit) => (wM g h a M)) (fun _ => List.Perm.refl _) hl.1 rfl (Nat.le_of_ble_eq_true rfl) ⟨Nat.le_of_ble_eq_true rfl, Nat.le_of_ble_eq_true rfl⟩ dX4_nameAt_6 (fun r_1 u_1 H locs e_1 hW => ?_)
  subst e_1
  refine q_to (y := bI ((inR 512 v).isSome)) (by rw [inB_lit (by omega)]) ?_
  refine q_bf (b := (inR 512 v).isSome) (tgt := 16) C dX4_nameAt_9 (by decide) (fun c_9 => ?_) (fun c_9 => ?_)
  · obtain ⟨x, hx9, hv_x⟩ := inR_of (by omega) c_9
    rw [hv_x] at hl
    have hl : lv_has ls 2 [(0, .ref h), (1, .int (nI x))] := hl
    refine lv_aload_n C.1 C.2.1 dX4_nameAt_16 rfl (lv_at hl 0 rfl) ?_
    refine lv_iload_n C.1 C.2.1 dX4_nameAt_17 rfl (lv_at hl 1 rfl) ?_
    refine q_callVi (rest := [.ref h]) C (c_X4_nameOn l D g h a M x hM (by omega) _) (gw_V ml_X4_80 im_X4_nameOn se_X4_X4_nameOn ini_X4 cd_X4_nameOn rfl) rfl rfl rfl hd_X4_nameOn ⟨Nat.le_of_ble_eq_true rfl, Nat.le_of_ble_eq_true rfl⟩ hW pm_all (fun u_2 => (wM g h a u_2)) (fun _ => pm_all) rfl rfl hl.1 rfl (Nat.le_of_ble_eq_true rfl) ⟨Nat.le_of_ble_eq_true rfl, Nat.le_of_ble_eq_true rfl⟩ dX4_nameAt_18 (fun r_2 u_2 H locs e_2 hW => ?_)
    obtain ⟨rfl, rfl⟩ := e_2
    refine q_oge (o := mNameOn M x) (tgt := 28) C (fun i9 e9 => by have := (srch_spec e9).1; omega) dX4_nameAt_21 (by decide) (fun j_21 o_21 => ?_) (fun o_21 => ?_)
    · refine lv_iconst (v := nI 0) C.1 C.2.1 dX4_nameAt_28 (by decide) ?_
      refine q_put C hW 0 rfl rfl 17 (by decide) gu_X4 tyX4_ok nmX4 (C.2.2.2.2 _ fl_X4_63) rfl rfl rfl rfl (Nat.le_of_ble_eq_true rfl) (wMc g h a (mWd M) (mPl M) (mSt M) (mUs M) (mLb M) (mNw M) (mAh M) (mMs M) (mLm M) (mLs M) (mFe M) (mUf M) (mWr M) (mCo M) (mNa M) (mCr M) (mCa M) 0 (mNm M) (mAc M) (mCk M) (mCp M)) rfl dX4_nameAt_29 (fun H locs hW => ?_)
      refine lv_aload_n C.1 C.2.1 dX4_nameAt_32 rfl (lv_at hl 0 rfl) ?_
      refine q_get (v := .int (nI 0)) C hW 0 rfl rfl 17 (by decide) gu_X4 (C.2.2.2.2 _ fl_X4_63) rfl rfl dX4_nameAt_33 ?_
      refine q_zle (tgt := 43) C (by omega) dX4_nameAt_36 (by decide) (fun c_36 => ?_) (fun c_36 => absurd c_36 (by decide))
      have hMu : MOK (sTh M 0) := hM.same ⟨rfl, rfl, rfl, rfl, rfl⟩
      refine lv_aload_n C.1 C.2.1 dX4_nameAt_43 rfl (lv_at hl 0 rfl) ?_
      refine lv_iload_n C.1 C.2.1 dX4_nameAt_44 rfl (lv_at hl 1 rfl) ?_
      refine q_callVi (rest := []) C (c_X4_nameOn l D g h a (mWd M, mPl M, mSt M, mUs M, mLb M, mNw M, mAh M, mMs M, mLm M, mLs M, mFe M, mUf M, mWr M, mCo M, mNa M, mCr M, mCa M, 0, mNm M, mAc M, mCk M, mCp M) x hMu (by omega) _) (gw_V ml_X4_80 im_X4_nameOn se_X4_X4_nameOn ini_X4 cd_X4_nameOn rfl) rfl rfl rfl hd_X4_nameOn ⟨Nat.le_of_ble_eq_true rfl, Nat.le_of_ble_eq_true rfl⟩ hW pm_all (fun u_3 => (wM g h a u_3)) (fun _ => pm_all) rfl rfl hl.1 rfl (Nat.le_of_ble_eq_true rfl) ⟨Nat.le_of_ble_eq_true rfl, Nat.le_of_ble_eq_true rfl⟩ dX4_nameAt_45 (fun r_3 u_3 H locs e_3 hW => ?_)
      obtain ⟨rfl, rfl⟩ := e_3
      exact q_iret C hRt hLk hW rfl (mWd M, mPl M, mSt M, mUs M, mLb M, mNw M, mAh M, mMs M, mLm M, mLs M, mFe M, mUf M, mWr M, mCo M, mNa M, mCr M, mCa M, 0, mNm M, mAc M, mCk M, mCp M) ⟨(Eq.symm (by have h9 : mNameOn (mWd M, mPl M, mSt M, mUs M, mLb M, mNw M, mAh M, mMs M, mLm M, mLs M, mFe M, mUf M, mWr M, mCo M, mNa M, mCr M, mCa M, 0, mNm M, mAc M, mCk M, mCp M) x = some j_21 := o_21; rw [h9]; unfold mNameAt; rw [hv_x, inR_nI hx9 (by omega)]; dsimp only; rw [o_21]; try rfl)), (Eq.symm (by unfold mNameAt; rw [hv_x, inR_nI hx9 (by omega)]; dsimp only; rw [o_21]; try rfl))⟩  rfl (Nat.le_of_ble_eq_true rfl) (Nat.le_of_ble_eq_true rfl) dX4_nameAt_48
    refine lv_iconst (v := nI 2) C.1 C.2.1 dX4_nameAt_24 (by decide) ?_
    refine lv_goto (tgt := 29) C.1 C.2.1 dX4_nameAt_25 (by decide) ?_
    refine q_put C hW 0 rfl rfl 17 (by decide) gu_X4 tyX4_ok nmX4 (C.2.2.2.2 _ fl_X4_63) rfl rfl rfl rfl (Nat.le_of_ble_eq_true rfl) (wMc g h a (mWd M) (mPl M) (mSt M) (mUs M) (mLb M) (mNw M) (mAh M) (mMs M) (mLm M) (mLs M) (mFe M) (mUf M) (mWr M) (mCo M) (mNa M) (mCr M) (mCa M) 2 (mNm M) (mAc M) (mCk M) (mCp M)) rfl dX4_nameAt_29 (fun H locs hW => ?_)
    refine lv_aload_n C.1 C.2.1 dX4_nameAt_32 rfl (lv_at hl 0 rfl) ?_
    refine q_get (v := .int (nI 2)) C hW 0 rfl rfl 17 (by decide) gu_X4 (C.2.2.2.2 _ fl_X4_63) rfl rfl dX4_nameAt_33 ?_
    refine q_zle (tgt := 43) C (by omega) dX4_nameAt_36 (by decide) (fun c_36 => absurd c_36 (by decide)) (fun c_36 => ?_)
    refine lv_iconst (v := nI 0) C.1 C.2.1 dX4_nameAt_39 (by decide) ?_
    refine lv_goto (tgt := 48) C.1 C.2.1 dX4_nameAt_40 (by decide) ?_
    exact q_iret C hRt hLk hW rfl (mWd M, mPl M, mSt M, mUs M, mLb M, mNw M, mAh M, mMs M, mLm M, mLs M, mFe M, mUf M, mWr M, mCo M, mNa M, mCr M, mCa M, 2, mNm M, mAc M, mCk M, mCp M) ⟨(Eq.symm (by unfold mNameAt; rw [hv_x, inR_nI hx9 (by omega)]; dsimp only; rw [o_21]; try rfl)), (Eq.symm (by unfold mNameAt; rw [hv_x, inR_nI hx9 (by omega)]; dsimp only; rw [o_21]; try rfl))⟩  rfl (Nat.le_of_ble_eq_true rfl) (Nat.le_of_ble_eq_true rfl) dX4_nameAt_48
  refine lv_iconst (v := nI 1) C.1 C.2.1 dX4_nameAt_12 (by decide) ?_
  refine lv_goto (tgt := 29) C.1 C.2.1 dX4_nameAt_13 (by decide) ?_
  refine q_put C hW 0 rfl rfl 17 (by decide) gu_X4 tyX4_ok nmX4 (C.2.2.2.2 _ fl_X4_63) rfl rfl rfl rfl (Nat.le_of_ble_eq_true rfl) (wMc g h a (mWd M) (mPl M) (mSt M) (mUs M) (mLb M) (mNw M) (mAh M) (mMs M) (mLm M) (mLs M) (mFe M) (mUf M) (mWr M) (mCo M) (mNa M) (mCr M) (mCa M) 1 (mNm M) (mAc M) (mCk M) (mCp M)) rfl dX4_nameAt_29 (fun H locs hW => ?_)
  refine lv_aload_n C.1 C.2.1 dX4_nameAt_32 rfl (lv_at hl 0 rfl) ?_
  refine q_get (v := .int (nI 1)) C hW 0 rfl rfl 17 (by decide) gu_X4 (C.2.2.2.2 _ fl_X4_63) rfl rfl dX4_nameAt_33 ?_
  refine q_zle (tgt := 43) C (by omega) dX4_nameAt_36 (by decide) (fun c_36 => absurd c_36 (by decide)) (fun c_36 => ?_)
  refine lv_iconst (v := nI 0) C.1 C.2.1 dX4_nameAt_39 (by decide) ?_
  refine lv_goto (tgt := 48) C.1 C.2.1 dX4_nameAt_40 (by decide) ?_
  exact q_iret C hRt hLk hW rfl (mWd M, mPl M, mSt M, mUs M, mLb M, mNw M, mAh M, mMs M, mLm M, mLs M, mFe M, mUf M, mWr M, mCo M, mNa M, mCr M, mCa M, 1, mNm M, mAc M, mCk M, mCp M) ⟨(Eq.symm (by unfold mNameAt; rw [inR_none_of c_9]; try rfl)), (Eq.symm (by unfold mNameAt; rw [inR_none_of c_9]; try rfl))⟩  rfl (Nat.le_of_ble_eq_true rfl) (Nat.le_of_ble_eq_true rfl) dX4_nameAt_48

theorem hd_X4_meet : yX4_meet.cls = RX4 ∧ yX4_meet.cls ≠ "java/lang/invoke/MethodHandle" ∧ yX4_meet.cls ≠ "java/lang/invoke/VarHandle" ∧ (parseMethodDescriptor yX4_meet.desc).map (fun d => d.parameters.length) = some 2 := by decide +kernel
set_option maxHeartbeats 4000000 in
set_option maxRecDepth 100000 in
theorem c_X4_meet (l : Launch) (D : va_G) (g : Nat → ClassId) (h : Nat) (a : Nat → Nat) (M : MdS) (v1 : Int32) (v2 : Int32) (hM : MOK M) (sz : Nat) : qMi l yX4_meet (.code yX4_meet cX4_meet 5 (some .boolean) :: GW) ({ frames := 2, cells := 0, slots := 0, locals := 43 } : Room) D g [.ref h, .int v1, .int v2] (wM g h a M) sz (fun (r : Int32) (u : MdS) => bI ((mMeet M v1 v2).1) = r ∧ ((mMeet M v1 v2).2) = u) (fun (u : MdS) => (wM g h a u)) 0 0 := by
  refine q_entry (cc := cX4_meet) (nL := 5) (ret := (some .boolean)) rfl (by decide) (Nat.le_of_ble_eq_true rfl) (fun pp ee ss mm bb mt kc ls C hRt hLk hin hsz hW hl => ?_)
  have hl : lv_has ls 5 [(0, .ref h), (1, .int v1), (2, .int v2)] := hl
  have h12 := hM.1
  have hcp1 := hM.2.2.2.2.1
  have hcp2 := hM.2.2.2.2.2.2
  refine lv_aload_n C.1 C.2.1 dX4_meet_0 rfl (lv_at hl 0 rfl) ?_
  refine lv_aload_n C.1 C.2.1 dX4_meet_1 rfl (lv_at hl 0 rfl) ?_
  refine lv_iload_n C.1 C.2.1 dX4_meet_2 rfl (lv_at hl 1 rfl) ?_
  refine q_callVi (rest := [.ref h]) C (c_X4_isName l D g h a M v1 hM _) (gw_V ml_X4_84 im_X4_isName se_X4_X4_isName ini_X4 cd_X4_isName rfl) rfl rfl rfl hd_X4_isName ⟨Nat.le_of_ble_eq_true rfl, Nat.le_of_ble_eq_true rfl⟩ hW pm_all (fun u_1 => (wM g h a u_1)) (fun _ => pm_all) rfl rfl hl.1 rfl (Nat.le_of_ble_eq_true rfl) ⟨Nat.le_of_ble_eq_true rfl, Nat.le_of_ble_eq_true rfl⟩ dX4_meet_3 (fun r_1 u_1 H locs e_1 hW => ?_)
  obtain ⟨rfl, rfl⟩ := e_1
  refine q_bt (b := (inR (mNm M) v1).isSome) (tgt := 17) C dX4_meet_6 (by decide) (fun c_6 => ?_) (fun c_6 => ?_)
  · refine lv_iconst (v := nI 1) C.1 C.2.1 dX4_meet_17 (by decide) ?_
    refine lv_goto (tgt := 31) C.1 C.2.1 dX4_meet_18 (by decide) ?_
    refine q_put C hW 0 rfl rfl 17 (by decide) gu_X4 tyX4_ok nmX4 (C.2.2.2.2 _ fl_X4_63) rfl rfl rfl rfl (Nat.le_of_ble_eq_true rfl) (wMc g h a (mWd M) (mPl M) (mSt M) (mUs M) (mLb M) (mNw M) (mAh M) (mMs M) (mLm M) (mLs M) (mFe M) (mUf M) (mWr M) (mCo M) (mNa M) (mCr M) (mCa M) 1 (mNm M) (mAc M) (mCk M) (mCp M)) rfl dX4_meet_31 (fun H locs hW => ?_)
    refine lv_aload_n C.1 C.2.1 dX4_meet_34 rfl (lv_at hl 0 rfl) ?_
    refine q_get (v := .int (nI 1)) C hW 0 rfl rfl 17 (by decide) gu_X4 (C.2.2.2.2 _ fl_X4_63) rfl rfl dX4_meet_35 ?_
    refine q_zgt (tgt := 59) C (by omega) dX4_meet_38 (by decide) (fun c_38 => ?_) (fun c_38 => absurd c_38 (by decide))
    refine lv_iconst (v := nI 0) C.1 C.2.1 dX4_meet_59 (by decide) ?_
    exact q_iret C hRt hLk hW (by decide) (mWd M, mPl M, mSt M, mUs M, mLb M, mNw M, mAh M, mMs M, mLm M, mLs M, mFe M, mUf M, mWr M, mCo M, mNa M, mCr M, mCa M, 1, mNm M, mAc M, mCk M, mCp M) ⟨(Eq.symm (by unfold mMeet; rw [inR_none_of c_6]; try rfl)), (Eq.symm (by unfold mMeet; rw [inR_none_of c_6]; try rfl))⟩  rfl (Nat.le_of_ble_eq_true rfl) (Nat.le_of_ble_eq_true rfl) dX4_meet_60
  obtain ⟨n, hn9, hv_n⟩ := inR_of (by omega) c_6
  rw [hv_n] at hl
  have hl : lv_has ls 5 [(0, .ref h), (1, .int (nI n)), (2, .int v2)] := hl
  refine lv_aload_n C.1 C.2.1 dX4_meet_9 rfl (lv_at hl 0 rfl) ?_
  refine lv_iload_n C.1 C.2.1 dX4_meet_10 rfl (lv_at hl 2 rfl) ?_
  refine q_callVi (rest := [.ref h]) C (c_X4_isName l D g h a M v2 hM _) (gw_V ml_X4_84 im_X4_isName se_X4_X4_isName ini_X4 cd_X4_isName rfl) rfl rfl rfl hd_X4_isName ⟨Nat.le_of_ble_eq_true rfl, Nat.le_of_ble_eq_true rfl⟩ hW pm_all (fun u_2 => (wM g h a u_2)) (fun _ => pm_all) rfl rfl hl.1 rfl (Nat.le_of_ble_eq_true rfl) ⟨Nat.le_of_ble_eq_true rfl, Nat.le_of_ble_eq_true rfl⟩ dX4_meet_11 (fun r_2 u_2 H locs e_2 hW => ?_)
  obtain ⟨rfl, rfl⟩ := e_2
  refine q_bf (b := (inR (mNm M) v2).isSome) (tgt := 21) C dX4_meet_14 (by decide) (fun c_14 => ?_) (fun c_14 => ?_)
  · obtain ⟨m, hm9, hv_m⟩ := inR_of (by omega) c_14
    rw [hv_m] at hl
    have hl : lv_has ls 5 [(0, .ref h), (1, .int (nI n)), (2, .int (nI m))] := hl
    have hz1 := hM.sz (i := n) (by omega)
    have hz2 := hM.sz (i := m) (by omega)
    have hy1 := hM.2.2.2.1 n hn9
    have hy2 := hM.2.2.2.1 m hm9
    refine lv_iload_n C.1 C.2.1 dX4_meet_21 rfl (lv_at hl 1 rfl) ?_
    refine lv_iload_n C.1 C.2.1 dX4_meet_22 rfl (lv_at hl 2 rfl) ?_
    refine q_ne (tgt := 30) C (by omega) (by omega) dX4_meet_23 (by decide) (fun c_23 => ?_) (fun c_23 => ?_)
    · refine lv_iconst (v := nI 0) C.1 C.2.1 dX4_meet_30 (by decide) ?_
      refine q_put C hW 0 rfl rfl 17 (by decide) gu_X4 tyX4_ok nmX4 (C.2.2.2.2 _ fl_X4_63) rfl rfl rfl rfl (Nat.le_of_ble_eq_true rfl) (wMc g h a (mWd M) (mPl M) (mSt M) (mUs M) (mLb M) (mNw M) (mAh M) (mMs M) (mLm M) (mLs M) (mFe M) (mUf M) (mWr M) (mCo M) (mNa M) (mCr M) (mCa M) 0 (mNm M) (mAc M) (mCk M) (mCp M)) rfl dX4_meet_31 (fun H locs hW => ?_)
      refine lv_aload_n C.1 C.2.1 dX4_meet_34 rfl (lv_at hl 0 rfl) ?_
      refine q_get (v := .int (nI 0)) C hW 0 rfl rfl 17 (by decide) gu_X4 (C.2.2.2.2 _ fl_X4_63) rfl rfl dX4_meet_35 ?_
      refine q_zgt (tgt := 59) C (by omega) dX4_meet_38 (by decide) (fun c_38 => absurd c_38 (by decide)) (fun c_38 => ?_)
      refine lv_aload_n C.1 C.2.1 dX4_meet_41 rfl (lv_at hl 0 rfl) ?_
      refine q_get (v := .ref (a 1)) C hW 0 rfl rfl 1 (by decide) gu_X4 (C.2.2.2.2 _ fl_X4_13) rfl rfl dX4_meet_42 ?_
      refine lv_iload_n C.1 C.2.1 dX4_meet_45 rfl (lv_at hl 1 rfl) ?_
      refine q_ialdO (f := mPl M) C hW 2 rfl (k := n) (by omega) (by decide) dX4_meet_46 ?_
      refine q_olt (o := (mPl M) n) (tgt := 59) C (fun i9 e9 => by have := hM.st (by omega) e9; omega) dX4_meet_47 (by decide) (fun o_47 => ?_) (fun j_47 o_47 => ?_)
      · refine lv_iconst (v := nI 0) C.1 C.2.1 dX4_meet_59 (by decide) ?_
        exact q_iret C hRt hLk hW (by decide) (mWd M, mPl M, mSt M, mUs M, mLb M, mNw M, mAh M, mMs M, mLm M, mLs M, mFe M, mUf M, mWr M, mCo M, mNa M, mCr M, mCa M, 0, mNm M, mAc M, mCk M, mCp M) ⟨(Eq.symm (by unfold mMeet; rw [hv_n, hv_m, inR_nI hn9 (by omega), inR_nI hm9 (by omega)]; dsimp only; rw [if_neg c_23]; dsimp only; unfold mMeets; rw [o_47]; try rfl)), (Eq.symm (by unfold mMeet; rw [hv_n, hv_m, inR_nI hn9 (by omega), inR_nI hm9 (by omega)]; dsimp only; rw [if_neg c_23]; try rfl))⟩  rfl (Nat.le_of_ble_eq_true rfl) (Nat.le_of_ble_eq_true rfl) dX4_meet_60
      have hj_47 := hM.st (i := n) (by omega) o_47
      refine lv_aload_n C.1 C.2.1 dX4_meet_50 rfl (lv_at hl 0 rfl) ?_
      refine q_get (v := .ref (a 1)) C hW 0 rfl rfl 1 (by decide) gu_X4 (C.2.2.2.2 _ fl_X4_13) rfl rfl dX4_meet_51 ?_
      refine lv_iload_n C.1 C.2.1 dX4_meet_54 rfl (lv_at hl 2 rfl) ?_
      refine q_ialdO (f := mPl M) C hW 2 rfl (k := m) (by omega) (by decide) dX4_meet_55 ?_
      refine q_oge (o := (mPl M) m) (tgt := 61) C (fun i9 e9 => by have := hM.st (by omega) e9; omega) dX4_meet_56 (by decide) (fun j_56 o_56 => ?_) (fun o_56 => ?_)
      · have hj_56 := hM.st (i := m) (by omega) o_56
        refine lv_aload_n C.1 C.2.1 dX4_meet_61 rfl (lv_at hl 0 rfl) ?_
        refine q_get (v := .ref (a 1)) C hW 0 rfl rfl 1 (by decide) gu_X4 (C.2.2.2.2 _ fl_X4_13) rfl rfl dX4_meet_62 ?_
        refine lv_iload_n C.1 C.2.1 dX4_meet_65 rfl (lv_at hl 1 rfl) ?_
        refine q_ialdO (f := mPl M) C hW 2 rfl (k := n) (by omega) (by decide) dX4_meet_66 ?_
        refine q_to (y := nI j_47) (by rw [o_47]; rfl) ?_
        refine lv_bipush (v := nI 8) C.1 C.2.1 dX4_meet_67 (by decide) ?_
        refine q_idiv C (by omega) (by omega) (by omega) dX4_meet_69 ?_
        refine lv_istore_n (lv' := [(3, .int (nI (j_47 / 8))), (0, .ref h), (1, .int (nI n)), (2, .int (nI m))]) C.1 C.2.1 dX4_meet_70 rfl hl (by decide) rfl (fun ls hl => ?_)
        refine lv_aload_n C.1 C.2.1 dX4_meet_71 rfl (lv_at hl 1 rfl) ?_
        refine q_get (v := .ref (a 1)) C hW 0 rfl rfl 1 (by decide) gu_X4 (C.2.2.2.2 _ fl_X4_13) rfl rfl dX4_meet_72 ?_
        refine lv_iload_n C.1 C.2.1 dX4_meet_75 rfl (lv_at hl 2 rfl) ?_
        refine q_ialdO (f := mPl M) C hW 2 rfl (k := n) (by omega) (by decide) dX4_meet_76 ?_
        refine q_to (y := nI j_47) (by rw [o_47]; rfl) ?_
        refine lv_aload_n C.1 C.2.1 dX4_meet_77 rfl (lv_at hl 1 rfl) ?_
        refine q_get (v := .ref (a 0)) C hW 0 rfl rfl 0 (by decide) gu_X4 (C.2.2.2.2 _ fl_X4_7) rfl rfl dX4_meet_78 ?_
        refine lv_iload_n C.1 C.2.1 dX4_meet_81 rfl (lv_at hl 2 rfl) ?_
        refine q_ialdN (f := mWd M) C hW 1 rfl (k := n) (by omega) (by decide) dX4_meet_82 ?_
        refine q_iadd C dX4_meet_83 ?_
        refine lv_iconst (v := nI 1) C.1 C.2.1 dX4_meet_84 (by decide) ?_
        refine q_isub C (by omega) dX4_meet_85 ?_
        refine lv_bipush (v := nI 8) C.1 C.2.1 dX4_meet_86 (by decide) ?_
        refine q_idiv C (by omega) (by omega) (by omega) dX4_meet_88 ?_
        refine lv_istore (lv' := [(4, .int (nI ((j_47 + (mWd M) n - 1) / 8))), (3, .int (nI (j_47 / 8))), (0, .ref h), (1, .int (nI n)), (2, .int (nI m))]) C.1 C.2.1 dX4_meet_89 hl (by decide) rfl (fun ls hl => ?_)
        refine lv_aload_n C.1 C.2.1 dX4_meet_91 rfl (lv_at hl 2 rfl) ?_
        refine q_get (v := .ref (a 1)) C hW 0 rfl rfl 1 (by decide) gu_X4 (C.2.2.2.2 _ fl_X4_13) rfl rfl dX4_meet_92 ?_
        refine lv_iload_n C.1 C.2.1 dX4_meet_95 rfl (lv_at hl 4 rfl) ?_
        refine q_ialdO (f := mPl M) C hW 2 rfl (k := m) (by omega) (by decide) dX4_meet_96 ?_
        refine q_to (y := nI j_56) (by rw [o_56]; rfl) ?_
        refine lv_bipush (v := nI 8) C.1 C.2.1 dX4_meet_97 (by decide) ?_
        refine q_idiv C (by omega) (by omega) (by omega) dX4_meet_99 ?_
        refine lv_iload C.1 C.2.1 dX4_meet_100 (lv_at hl 0 rfl) ?_
        refine q_gt (tgt := 131) C (by omega) (by omega) dX4_meet_102 (by decide) (fun c_102 => ?_) (fun c_102 => ?_)
        · refine lv_iconst (v := nI 0) C.1 C.2.1 dX4_meet_131 (by decide) ?_
          exact q_iret C hRt hLk hW (by decide) (mWd M, mPl M, mSt M, mUs M, mLb M, mNw M, mAh M, mMs M, mLm M, mLs M, mFe M, mUf M, mWr M, mCo M, mNa M, mCr M, mCa M, 0, mNm M, mAc M, mCk M, mCp M) ⟨(Eq.symm (by unfold mMeet; rw [hv_n, hv_m, inR_nI hn9 (by omega), inR_nI hm9 (by omega)]; dsimp only; rw [if_neg c_23]; dsimp only; unfold mMeets; rw [o_47, o_56]; dsimp only; rw [decide_eq_false (by omega)]; try rfl)), (Eq.symm (by unfold mMeet; rw [hv_n, hv_m, inR_nI hn9 (by omega), inR_nI hm9 (by omega)]; dsimp only; rw [if_neg c_23]; try rfl))⟩  rfl (Nat.le_of_ble_eq_true rfl) (Nat.le_of_ble_eq_true rfl) dX4_meet_132
        refine lv_aload_n C.1 C.2.1 dX4_meet_105 rfl (lv_at hl 2 rfl) ?_
        refine q_get (v := .ref (a 1)) C hW 0 rfl rfl 1 (by decide) gu_X4 (C.2.2.2.2 _ fl_X4_13) rfl rfl dX4_meet_106 ?_
        refine lv_iload_n C.1 C.2.1 dX4_meet_109 rfl (lv_at hl 4 rfl) ?_
        refine q_ialdO (f := mPl M) C hW 2 rfl (k := m) (by omega) (by decide) dX4_meet_110 ?_
        refine q_to (y := nI j_56) (by rw [o_56]; rfl) ?_
        refine lv_aload_n C.1 C.2.1 dX4_meet_111 rfl (lv_at hl 2 rfl) ?_
        refine q_get (v := .ref (a 0)) C hW 0 rfl rfl 0 (by decide) gu_X4 (C.2.2.2.2 _ fl_X4_7) rfl rfl dX4_meet_112 ?_
        refine lv_iload_n C.1 C.2.1 dX4_meet_115 rfl (lv_at hl 4 rfl) ?_
        refine q_ialdN (f := mWd M) C hW 1 rfl (k := m) (by omega) (by decide) dX4_meet_116 ?_
        refine q_iadd C dX4_meet_117 ?_
        refine lv_iconst (v := nI 1) C.1 C.2.1 dX4_meet_118 (by decide) ?_
        refine q_isub C (by omega) dX4_meet_119 ?_
        refine lv_bipush (v := nI 8) C.1 C.2.1 dX4_meet_120 (by decide) ?_
        refine q_idiv C (by omega) (by omega) (by omega) dX4_meet_122 ?_
        refine lv_iload_n C.1 C.2.1 dX4_meet_123 rfl (lv_at hl 1 rfl) ?_
        refine q_lt (tgt := 131) C (by omega) (by omega) dX4_meet_124 (by decide) (fun c_124 => ?_) (fun c_124 => ?_)
        · refine lv_iconst (v := nI 0) C.1 C.2.1 dX4_meet_131 (by decide) ?_
          exact q_iret C hRt hLk hW (by decide) (mWd M, mPl M, mSt M, mUs M, mLb M, mNw M, mAh M, mMs M, mLm M, mLs M, mFe M, mUf M, mWr M, mCo M, mNa M, mCr M, mCa M, 0, mNm M, mAc M, mCk M, mCp M) ⟨(Eq.symm (by unfold mMeet; rw [hv_n, hv_m, inR_nI hn9 (by omega), inR_nI hm9 (by omega)]; dsimp only; rw [if_neg c_23]; dsimp only; unfold mMeets; rw [o_47, o_56]; dsimp only; rw [decide_eq_true (by omega), decide_eq_false (by omega)]; try rfl)), (Eq.symm (by unfold mMeet; rw [hv_n, hv_m, inR_nI hn9 (by omega), inR_nI hm9 (by omega)]; dsimp only; rw [if_neg c_23]; try rfl))⟩  rfl (Nat.le_of_ble_eq_true rfl) (Nat.le_of_ble_eq_true rfl) dX4_meet_132
        refine lv_iconst (v := nI 1) C.1 C.2.1 dX4_meet_127 (by decide) ?_
        refine lv_goto (tgt := 132) C.1 C.2.1 dX4_meet_128 (by decide) ?_
        exact q_iret C hRt hLk hW (by decide) (mWd M, mPl M, mSt M, mUs M, mLb M, mNw M, mAh M, mMs M, mLm M, mLs M, mFe M, mUf M, mWr M, mCo M, mNa M, mCr M, mCa M, 0, mNm M, mAc M, mCk M, mCp M) ⟨(Eq.symm (by unfold mMeet; rw [hv_n, hv_m, inR_nI hn9 (by omega), inR_nI hm9 (by omega)]; dsimp only; rw [if_neg c_23]; dsimp only; unfold mMeets; rw [o_47, o_56]; dsimp only; rw [decide_eq_true (by omega), decide_eq_true (by omega)]; try rfl)), (Eq.symm (by unfold mMeet; rw [hv_n, hv_m, inR_nI hn9 (by omega), inR_nI hm9 (by omega)]; dsimp only; rw [if_neg c_23]; try rfl))⟩  rfl (Nat.le_of_ble_eq_true rfl) (Nat.le_of_ble_eq_true rfl) dX4_meet_132
      refine lv_iconst (v := nI 0) C.1 C.2.1 dX4_meet_59 (by decide) ?_
      exact q_iret C hRt hLk hW (by decide) (mWd M, mPl M, mSt M, mUs M, mLb M, mNw M, mAh M, mMs M, mLm M, mLs M, mFe M, mUf M, mWr M, mCo M, mNa M, mCr M, mCa M, 0, mNm M, mAc M, mCk M, mCp M) ⟨(Eq.symm (by unfold mMeet; rw [hv_n, hv_m, inR_nI hn9 (by omega), inR_nI hm9 (by omega)]; dsimp only; rw [if_neg c_23]; dsimp only; unfold mMeets; rw [o_47, o_56]; try rfl)), (Eq.symm (by unfold mMeet; rw [hv_n, hv_m, inR_nI hn9 (by omega), inR_nI hm9 (by omega)]; dsimp only; rw [if_neg c_23]; try rfl))⟩  rfl (Nat.le_of_ble_eq_true rfl) (Nat.le_of_ble_eq_true rfl) dX4_meet_60
    refine lv_iconst (v := nI 2) C.1 C.2.1 dX4_meet_26 (by decide) ?_
    refine lv_goto (tgt := 31) C.1 C.2.1 dX4_meet_27 (by decide) ?_
    refine q_put C hW 0 rfl rfl 17 (by decide) gu_X4 tyX4_ok nmX4 (C.2.2.2.2 _ fl_X4_63) rfl rfl rfl rfl (Nat.le_of_ble_eq_true rfl) (wMc g h a (mWd M) (mPl M) (mSt M) (mUs M) (mLb M) (mNw M) (mAh M) (mMs M) (mLm M) (mLs M) (mFe M) (mUf M) (mWr M) (mCo M) (mNa M) (mCr M) (mCa M) 2 (mNm M) (mAc M) (mCk M) (mCp M)) rfl dX4_meet_31 (fun H locs hW => ?_)
    refine lv_aload_n C.1 C.2.1 dX4_meet_34 rfl (lv_at hl 0 rfl) ?_
    refine q_get (v := .int (nI 2)) C hW 0 rfl rfl 17 (by decide) gu_X4 (C.2.2.2.2 _ fl_X4_63) rfl rfl dX4_meet_35 ?_
    refine q_zgt (tgt := 59) C (by omega) dX4_meet_38 (by decide) (fun c_38 => ?_) (fun c_38 => absurd c_38 (by decide))
    refine lv_iconst (v := nI 0) C.1 C.2.1 dX4_meet_59 (by decide) ?_
    exact q_iret C hRt hLk hW (by decide) (mWd M, mPl M, mSt M, mUs M, mLb M, mNw M, mAh M, mMs M, mLm M, mLs M, mFe M, mUf M, mWr M, mCo M, mNa M, mCr M, mCa M, 2, mNm M, mAc M, mCk M, mCp M) ⟨(Eq.symm (by unfold mMeet; rw [hv_n, hv_m, inR_nI hn9 (by omega), inR_nI hm9 (by omega)]; dsimp only; rw [if_pos c_23]; try rfl)), (Eq.symm (by unfold mMeet; rw [hv_n, hv_m, inR_nI hn9 (by omega), inR_nI hm9 (by omega)]; dsimp only; rw [if_pos c_23]; try rfl))⟩  rfl (Nat.le_of_ble_eq_true rfl) (Nat.le_of_ble_eq_true rfl) dX4_meet_60
  refine lv_iconst (v := nI 1) C.1 C.2.1 dX4_meet_17 (by decide) ?_
  refine lv_goto (tgt := 31) C.1 C.2.1 dX4_meet_18 (by decide) ?_
  refine q_put C hW 0 rfl rfl 17 (by decide) gu_X4 tyX4_ok nmX4 (C.2.2.2.2 _ fl_X4_63) rfl rfl rfl rfl (Nat.le_of_ble_eq_true rfl) (wMc g h a (mWd M) (mPl M) (mSt M) (mUs M) (mLb M) (mNw M) (mAh M) (mMs M) (mLm M) (mLs M) (mFe M) (mUf M) (mWr M) (mCo M) (mNa M) (mCr M) (mCa M) 1 (mNm M) (mAc M) (mCk M) (mCp M)) rfl dX4_meet_31 (fun H locs hW => ?_)
  refine lv_aload_n C.1 C.2.1 dX4_meet_34 rfl (lv_at hl 0 rfl) ?_
  refine q_get (v := .int (nI 1)) C hW 0 rfl rfl 17 (by decide) gu_X4 (C.2.2.2.2 _ fl_X4_63) rfl rfl dX4_meet_35 ?_
  refine q_zgt (tgt := 59) C (by omega) dX4_meet_38 (by decide) (fun c_38 => ?_) (fun c_38 => absurd c_38 (by decide))
  refine lv_iconst (v := nI 0) C.1 C.2.1 dX4_meet_59 (by decide) ?_
  exact q_iret C hRt hLk hW (by decide) (mWd M, mPl M, mSt M, mUs M, mLb M, mNw M, mAh M, mMs M, mLm M, mLs M, mFe M, mUf M, mWr M, mCo M, mNa M, mCr M, mCa M, 1, mNm M, mAc M, mCk M, mCp M) ⟨(Eq.symm (by unfold mMeet; rw [hv_n, inR_nI hn9 (by omega), inR_none_of c_14]; try rfl)), (Eq.symm (by unfold mMeet; rw [hv_n, inR_nI hn9 (by omega), inR_none_of c_14]; try rfl))⟩  rfl (Nat.le_of_ble_eq_true rfl) (Nat.le_of_ble_eq_true rfl) dX4_meet_60
