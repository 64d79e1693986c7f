theorem hd_X4_state : yX4_state.cls = RX4 ∧ yX4_state.cls ≠ "java/lang/invoke/MethodHandle" ∧ yX4_state.cls ≠ "java/lang/invoke/VarHandle" ∧ (parseMethodDescriptor yX4_state.desc).map (fun d => d.parameters.length) = some 2 := by decide +kernel
set_option maxHeartbeats 4000000 in
set_option maxRecDepth 100000 in
theorem c_X4_state (l : Launch) (D : va_G) (g : Nat → ClassId) (h : Nat) (a : Nat → Nat) (M : MdS) (v1 : Int32) (v2 : Int32) (hM : MOK M) (sz : Nat) : qMi l yX4_state (.code yX4_state cX4_state 3 (some .char) :: GW) ({ frames := 2, cells := 0, slots := 0, locals := 42 } : Room) D g [.ref h, .int v1, .int v2] (wM g h a M) sz (fun (r : Int32) (u : MdS) => cI ((mState M v1 v2).1) = r ∧ ((mState M v1 v2).2) = u) (fun (u : MdS) => (wM g h a u)) 0 0 := by
  refine q_entry (cc := cX4_state) (nL := 3) (ret := (some .char)) rfl (by decide) (Nat.le_of_ble_eq_true rfl) (fun pp ee ss mm bb mt kc ls C hRt hLk hin hsz hW hl => ?_)
  have hl : lv_has ls 3 [(0, .ref h), (1, .int v1), (2, .int v2)] := hl
  have h12 := hM.1
  have hcp1 := hM.2.2.2.2.1
  have hcp2 := hM.2.2.2.2.2.2
  refine lv_aload_n C.1 C.2.1 dX4_state_0 rfl (lv_at hl 0 rfl) ?_
  refine lv_iload_n C.1 C.2.1 dX4_state_1 rfl (lv_at hl 1 rfl) ?_
  refine q_callSi (rest := [.ref h]) C (c_X4_isCore l D g v1 _) (gw_S ml_X4_130 sm_X4_isCore ini_X4 cd_X4_isCore rfl) rfl rfl rfl hd_X4_isCore ⟨Nat.le_of_ble_eq_true rfl, Nat.le_of_ble_eq_true rfl⟩ hW (List.Perm.refl _) (fun (u_1 : Unit) => (wM g h a M)) (fun _ => List.Perm.refl _) hl.1 rfl (Nat.le_of_ble_eq_true rfl) ⟨Nat.le_of_ble_eq_true rfl, Nat.le_of_ble_eq_true rfl⟩ dX4_state_2 (fun r_1 u_1 H locs e_1 hW => ?_)
  subst e_1
  refine q_bf (b := (inR 4 v1).isSome) (tgt := 12) C dX4_state_5 (by decide) (fun c_5 => ?_) (fun c_5 => ?_)
  · obtain ⟨c, hc9, hv_c⟩ := inR_of (by omega) c_5
    rw [hv_c] at hl
    have hl : lv_has ls 3 [(0, .ref h), (1, .int (nI c)), (2, .int v2)] := hl
    refine lv_iload_n C.1 C.2.1 dX4_state_12 rfl (lv_at hl 2 rfl) ?_
    refine q_callSi (rest := [.ref h]) C (c_X4_isLine l D g v2 _) (gw_S ml_X4_161 sm_X4_isLine ini_X4 cd_X4_isLine rfl) rfl rfl rfl hd_X4_isLine ⟨Nat.le_of_ble_eq_true rfl, Nat.le_of_ble_eq_true rfl⟩ hW (List.Perm.refl _) (fun (u_2 : Unit) => (wM g h a M)) (fun _ => List.Perm.refl _) hl.1 rfl (Nat.le_of_ble_eq_true rfl) ⟨Nat.le_of_ble_eq_true rfl, Nat.le_of_ble_eq_true rfl⟩ dX4_state_13 (fun r_2 u_2 H locs e_2 hW => ?_)
    subst e_2
    refine q_bf (b := (inR 64 v2).isSome) (tgt := 23) C dX4_state_16 (by decide) (fun c_16 => ?_) (fun c_16 => ?_)
    · obtain ⟨k, hk9, hv_k⟩ := inR_of (by omega) c_16
      rw [hv_k] at hl
      have hl : lv_has ls 3 [(0, .ref h), (1, .int (nI c)), (2, .int (nI k))] := hl
      refine lv_iconst (v := nI 0) C.1 C.2.1 dX4_state_23 (by decide) ?_
      refine q_put C hW 0 rfl rfl 17 (by decide) gu_X4 tyX4_ok nmX4 (C.2.2.2.2 _ fl_X4_63) rfl rfl rfl rfl (Nat.le_of_ble_eq_true rfl) (wMc g h a (mWd M) (mPl M) (mSt M) (mUs M) (mLb M) (mNw M) (mAh M) (mMs M) (mLm M) (mLs M) (mFe M) (mUf M) (mWr M) (mCo M) (mNa M) (mCr M) (mCa M) 0 (mNm M) (mAc M) (mCk M) (mCp M)) rfl dX4_state_24 (fun H locs hW => ?_)
      refine lv_aload_n C.1 C.2.1 dX4_state_27 rfl (lv_at hl 0 rfl) ?_
      refine q_get (v := .int (nI 0)) C hW 0 rfl rfl 17 (by decide) gu_X4 (C.2.2.2.2 _ fl_X4_63) rfl rfl dX4_state_28 ?_
      refine q_zle (tgt := 39) C (by omega) dX4_state_31 (by decide) (fun c_31 => ?_) (fun c_31 => absurd c_31 (by decide))
      refine lv_aload_n C.1 C.2.1 dX4_state_39 rfl (lv_at hl 0 rfl) ?_
      refine q_get (v := .ref (a 2)) C hW 0 rfl rfl 2 (by decide) gu_X4 (C.2.2.2.2 _ fl_X4_16) rfl rfl dX4_state_40 ?_
      refine lv_iload_n C.1 C.2.1 dX4_state_43 rfl (lv_at hl 1 rfl) ?_
      refine lv_iload_n C.1 C.2.1 dX4_state_44 rfl (lv_at hl 2 rfl) ?_
      refine q_callSi (rest := [.ref (a 2)]) C (c_X4_at l D g c k _) (gw_S ml_X4_100 sm_X4_at ini_X4 cd_X4_at rfl) rfl rfl rfl hd_X4_at ⟨Nat.le_of_ble_eq_true rfl, Nat.le_of_ble_eq_true rfl⟩ hW (List.Perm.refl _) (fun (u_3 : Unit) => (wMc g h a (mWd M) (mPl M) (mSt M) (mUs M) (mLb M) (mNw M) (mAh M) (mMs M) (mLm M) (mLs M) (mFe M) (mUf M) (mWr M) (mCo M) (mNa M) (mCr M) (mCa M) 0 (mNm M) (mAc M) (mCk M) (mCp M))) (fun _ => List.Perm.refl _) hl.1 rfl (Nat.le_of_ble_eq_true rfl) ⟨Nat.le_of_ble_eq_true rfl, Nat.le_of_ble_eq_true rfl⟩ dX4_state_45 (fun r_3 u_3 H locs e_3 hW => ?_)
      subst e_3
      refine q_caldC (f := mSt M) C hW 3 rfl (k := 64 * c + k) (by omega) (by decide) dX4_state_48 ?_
      exact q_iret C hRt hLk hW (narC _) (mWd M, mPl M, mSt M, mUs M, mLb M, mNw M, mAh M, mMs M, mLm M, mLs M, mFe M, mUf M, mWr M, mCo M, mNa M, mCr M, mCa M, 0, mNm M, mAc M, mCk M, mCp M) ⟨(Eq.symm (by unfold mState; rw [hv_c, inR_nI hc9 (by omega)]; dsimp only; rw [hv_k, inR_nI hk9 (by omega)]; try rfl)), (Eq.symm (by unfold mState; rw [hv_c, inR_nI hc9 (by omega)]; dsimp only; rw [hv_k, inR_nI hk9 (by omega)]; try rfl))⟩  rfl (Nat.le_of_ble_eq_true rfl) (Nat.le_of_ble_eq_true rfl) dX4_state_49
    refine lv_iconst (v := nI 2) C.1 C.2.1 dX4_state_19 (by decide) ?_
    refine lv_goto (tgt := 24) C.1 C.2.1 dX4_state_20 (by decide) ?_
    refine q_put C hW 0 rfl rfl 17 (by decide) gu_X4 tyX4_ok nmX4 (C.2.2.2.2 _ fl_X4_63) rfl rfl rfl rfl (Nat.le_of_ble_eq_true rfl) (wMc g h a (mWd M) (mPl M) (mSt M) (mUs M) (mLb M) (mNw M) (mAh M) (mMs M) (mLm M) (mLs M) (mFe M) (mUf M) (mWr M) (mCo M) (mNa M) (mCr M) (mCa M) 2 (mNm M) (mAc M) (mCk M) (mCp M)) rfl dX4_state_24 (fun H locs hW => ?_)
    refine lv_aload_n C.1 C.2.1 dX4_state_27 rfl (lv_at hl 0 rfl) ?_
    refine q_get (v := .int (nI 2)) C hW 0 rfl rfl 17 (by decide) gu_X4 (C.2.2.2.2 _ fl_X4_63) rfl rfl dX4_state_28 ?_
    refine q_zle (tgt := 39) C (by omega) dX4_state_31 (by decide) (fun c_31 => absurd c_31 (by decide)) (fun c_31 => ?_)
    refine lv_bipush (v := nI 32) C.1 C.2.1 dX4_state_34 (by decide) ?_
    refine lv_goto (tgt := 49) C.1 C.2.1 dX4_state_36 (by decide) ?_
    exact q_iret C hRt hLk hW (by decide) (mWd M, mPl M, mSt M, mUs M, mLb M, mNw M, mAh M, mMs M, mLm M, mLs M, mFe M, mUf M, mWr M, mCo M, mNa M, mCr M, mCa M, 2, mNm M, mAc M, mCk M, mCp M) ⟨(Eq.symm (by unfold mState; rw [hv_c, inR_nI hc9 (by omega)]; dsimp only; rw [inR_none_of c_16]; try rfl)), (Eq.symm (by unfold mState; rw [hv_c, inR_nI hc9 (by omega)]; dsimp only; rw [inR_none_of c_16]; try rfl))⟩  rfl (Nat.le_of_ble_eq_true rfl) (Nat.le_of_ble_eq_true rfl) dX4_state_49
  refine lv_iconst (v := nI 1) C.1 C.2.1 dX4_state_8 (by decide) ?_
  refine lv_goto (tgt := 24) C.1 C.2.1 dX4_state_9 (by decide) ?_
  refine q_put C hW 0 rfl rfl 17 (by decide) gu_X4 tyX4_ok nmX4 (C.2.2.2.2 _ fl_X4_63) rfl rfl rfl rfl (Nat.le_of_ble_eq_true rfl) (wMc g h a (mWd M) (mPl M) (mSt M) (mUs M) (mLb M) (mNw M) (mAh M) (mMs M) (mLm M) (mLs M) (mFe M) (mUf M) (mWr M) (mCo M) (mNa M) (mCr M) (mCa M) 1 (mNm M) (mAc M) (mCk M) (mCp M)) rfl dX4_state_24 (fun H locs hW => ?_)
  refine lv_aload_n C.1 C.2.1 dX4_state_27 rfl (lv_at hl 0 rfl) ?_
  refine q_get (v := .int (nI 1)) C hW 0 rfl rfl 17 (by decide) gu_X4 (C.2.2.2.2 _ fl_X4_63) rfl rfl dX4_state_28 ?_
  refine q_zle (tgt := 39) C (by omega) dX4_state_31 (by decide) (fun c_31 => absurd c_31 (by decide)) (fun c_31 => ?_)
  refine lv_bipush (v := nI 32) C.1 C.2.1 dX4_state_34 (by decide) ?_
  refine lv_goto (tgt := 49) C.1 C.2.1 dX4_state_36 (by decide) ?_
  exact q_iret C hRt hLk hW (by decide) (mWd M, mPl M, mSt M, mUs M, mLb M, mNw M, mAh M, mMs M, mLm M, mLs M, mFe M, mUf M, mWr M, mCo M, mNa M, mCr M, mCa M, 1, mNm M, mAc M, mCk M, mCp M) ⟨(Eq.symm (by unfold mState; rw [inR_none_of c_5]; try rfl)), (Eq.symm (by unfold mState; rw [inR_none_of c_5]; try rfl))⟩  rfl (Nat.le_of_ble_eq_true rfl) (Nat.le_of_ble_eq_true rfl) dX4_state_49

theorem hd_X4_owner : yX4_owner.cls = RX4 ∧ yX4_owner.cls ≠ "java/lang/invoke/MethodHandle" ∧ yX4_owner.cls ≠ "java/lang/invoke/VarHandle" ∧ (parseMethodDescriptor yX4_owner.desc).map (fun d => d.parameters.length) = some 1 := by decide +kernel
set_option maxHeartbeats 4000000 in
set_option maxRecDepth 100000 in
theorem c_X4_owner (l : Launch) (D : va_G) (g : Nat → ClassId) (h : Nat) (a : Nat → Nat) (M : MdS) (v : Int32) (hM : MOK M) (sz : Nat) : qMi l yX4_owner (.code yX4_owner cX4_owner 2 (some .int) :: GW) ({ frames := 2, cells := 0, slots := 0, locals := 43 } : Room) D g [.ref h, .int v] (wM g h a M) sz (fun (r : Int32) (u : MdS) => nI ((mOwnr M v).1) = r ∧ ((mOwnr M v).2) = u) (fun (u : MdS) => (wM g h a u)) 0 0 := by
  refine q_entry (cc := cX4_owner) (nL := 2) (ret := (some .int)) rfl (by decide) (Nat.le_of_ble_eq_true rfl) (fun pp ee ss mm bb mt kc ls C hRt hLk hin hsz hW hl => ?_)
  have hl : lv_has ls 2 [(0, .ref h), (1, .int v)] := hl
  have h12 := hM.1
  have hcp1 := hM.2.2.2.2.1
  have hcp2 := hM.2.2.2.2.2.2
  refine lv_aload_n C.1 C.2.1 dX4_owner_0 rfl (lv_at hl 0 rfl) ?_
  refine lv_iload_n C.1 C.2.1 dX4_owner_1 rfl (lv_at hl 1 rfl) ?_
  refine q_callSi (rest := [.ref h]) C (c_X4_isLine l D g v _) (gw_S ml_X4_161 sm_X4_isLine ini_X4 cd_X4_isLine rfl) rfl rfl rfl hd_X4_isLine ⟨Nat.le_of_ble_eq_true rfl, Nat.le_of_ble_eq_true rfl⟩ hW (List.Perm.refl _) (fun (u_1 : Unit) => (wM g h a M)) (fun _ => List.Perm.refl _) hl.1 rfl (Nat.le_of_ble_eq_true rfl) ⟨Nat.le_of_ble_eq_true rfl, Nat.le_of_ble_eq_true rfl⟩ dX4_owner_2 (fun r_1 u_1 H locs e_1 hW => ?_)
  subst e_1
  refine q_bf (b := (inR 64 v).isSome) (tgt := 12) C dX4_owner_5 (by decide) (fun c_5 => ?_) (fun c_5 => ?_)
  · obtain ⟨k, hk9, hv_k⟩ := inR_of (by omega) c_5
    rw [hv_k] at hl
    have hl : lv_has ls 2 [(0, .ref h), (1, .int (nI k))] := hl
    refine lv_aload_n C.1 C.2.1 dX4_owner_12 rfl (lv_at hl 0 rfl) ?_
    refine lv_iload_n C.1 C.2.1 dX4_owner_13 rfl (lv_at hl 1 rfl) ?_
    refine q_callVi (rest := [.ref h]) C (c_X4_ownerOf l D g h a M k hM (by omega) _) (gw_V ml_X4_120 im_X4_ownerOf se_X4_X4_ownerOf ini_X4 cd_X4_ownerOf rfl) rfl rfl rfl hd_X4_ownerOf ⟨Nat.le_of_ble_eq_true rfl, Nat.le_of_ble_eq_true rfl⟩ hW pm_all (fun u_2 => (wM g h a u_2)) (fun _ => pm_all) rfl rfl hl.1 rfl (Nat.le_of_ble_eq_true rfl) ⟨Nat.le_of_ble_eq_true rfl, Nat.le_of_ble_eq_true rfl⟩ dX4_owner_14 (fun r_2 u_2 H locs e_2 hW => ?_)
    obtain ⟨rfl, rfl⟩ := e_2
    refine q_oge (o := mOwner M k) (tgt := 24) C (fun i9 e9 => by have := (srch_spec e9).1; omega) dX4_owner_17 (by decide) (fun j_17 o_17 => ?_) (fun o_17 => ?_)
    · refine lv_iconst (v := nI 0) C.1 C.2.1 dX4_owner_24 (by decide) ?_
      refine q_put C hW 0 rfl rfl 17 (by decide) gu_X4 tyX4_ok nmX4 (C.2.2.2.2 _ fl_X4_63) rfl rfl rfl rfl (Nat.le_of_ble_eq_true rfl) (wMc g h a (mWd M) (mPl M) (mSt M) (mUs M) (mLb M) (mNw M) (mAh M) (mMs M) (mLm M) (mLs M) (mFe M) (mUf M) (mWr M) (mCo M) (mNa M) (mCr M) (mCa M) 0 (mNm M) (mAc M) (mCk M) (mCp M)) rfl dX4_owner_25 (fun H locs hW => ?_)
      refine lv_aload_n C.1 C.2.1 dX4_owner_28 rfl (lv_at hl 0 rfl) ?_
      refine q_get (v := .int (nI 0)) C hW 0 rfl rfl 17 (by decide) gu_X4 (C.2.2.2.2 _ fl_X4_63) rfl rfl dX4_owner_29 ?_
      refine q_zle (tgt := 39) C (by omega) dX4_owner_32 (by decide) (fun c_32 => ?_) (fun c_32 => absurd c_32 (by decide))
      have hMu : MOK (sTh M 0) := hM.same ⟨rfl, rfl, rfl, rfl, rfl⟩
      refine lv_aload_n C.1 C.2.1 dX4_owner_39 rfl (lv_at hl 0 rfl) ?_
      refine lv_iload_n C.1 C.2.1 dX4_owner_40 rfl (lv_at hl 1 rfl) ?_
      refine q_callVi (rest := []) C (c_X4_ownerOf l D g h a (mWd M, mPl M, mSt M, mUs M, mLb M, mNw M, mAh M, mMs M, mLm M, mLs M, mFe M, mUf M, mWr M, mCo M, mNa M, mCr M, mCa M, 0, mNm M, mAc M, mCk M, mCp M) k hMu (by omega) _) (gw_V ml_X4_120 im_X4_ownerOf se_X4_X4_ownerOf ini_X4 cd_X4_ownerOf rfl) rfl rfl rfl hd_X4_ownerOf ⟨Nat.le_of_ble_eq_true rfl, Nat.le_of_ble_eq_true rfl⟩ hW pm_all (fun u_3 => (wM g h a u_3)) (fun _ => pm_all) rfl rfl hl.1 rfl (Nat.le_of_ble_eq_true rfl) ⟨Nat.le_of_ble_eq_true rfl, Nat.le_of_ble_eq_true rfl⟩ dX4_owner_41 (fun r_3 u_3 H locs e_3 hW => ?_)
      obtain ⟨rfl, rfl⟩ := e_3
      exact q_iret C hRt hLk hW rfl (mWd M, mPl M, mSt M, mUs M, mLb M, mNw M, mAh M, mMs M, mLm M, mLs M, mFe M, mUf M, mWr M, mCo M, mNa M, mCr M, mCa M, 0, mNm M, mAc M, mCk M, mCp M) ⟨(Eq.symm (by have h9 : mOwner (mWd M, mPl M, mSt M, mUs M, mLb M, mNw M, mAh M, mMs M, mLm M, mLs M, mFe M, mUf M, mWr M, mCo M, mNa M, mCr M, mCa M, 0, mNm M, mAc M, mCk M, mCp M) k = some j_17 := o_17; rw [h9]; unfold mOwnr; rw [hv_k, inR_nI hk9 (by omega)]; dsimp only; rw [o_17]; try rfl)), (Eq.symm (by unfold mOwnr; rw [hv_k, inR_nI hk9 (by omega)]; dsimp only; rw [o_17]; try rfl))⟩  rfl (Nat.le_of_ble_eq_true rfl) (Nat.le_of_ble_eq_true rfl) dX4_owner_44
    refine lv_iconst (v := nI 2) C.1 C.2.1 dX4_owner_20 (by decide) ?_
    refine lv_goto (tgt := 25) C.1 C.2.1 dX4_owner_21 (by decide) ?_
    refine q_put C hW 0 rfl rfl 17 (by decide) gu_X4 tyX4_ok nmX4 (C.2.2.2.2 _ fl_X4_63) rfl rfl rfl rfl (Nat.le_of_ble_eq_true rfl) (wMc g h a (mWd M) (mPl M) (mSt M) (mUs M) (mLb M) (mNw M) (mAh M) (mMs M) (mLm M) (mLs M) (mFe M) (mUf M) (mWr M) (mCo M) (mNa M) (mCr M) (mCa M) 2 (mNm M) (mAc M) (mCk M) (mCp M)) rfl dX4_owner_25 (fun H locs hW => ?_)
    refine lv_aload_n C.1 C.2.1 dX4_owner_28 rfl (lv_at hl 0 rfl) ?_
    refine q_get (v := .int (nI 2)) C hW 0 rfl rfl 17 (by decide) gu_X4 (C.2.2.2.2 _ fl_X4_63) rfl rfl dX4_owner_29 ?_
    refine q_zle (tgt := 39) C (by omega) dX4_owner_32 (by decide) (fun c_32 => absurd c_32 (by decide)) (fun c_32 => ?_)
    refine lv_iconst (v := nI 0) C.1 C.2.1 dX4_owner_35 (by decide) ?_
    refine lv_goto (tgt := 44) C.1 C.2.1 dX4_owner_36 (by decide) ?_
    exact q_iret C hRt hLk hW rfl (mWd M, mPl M, mSt M, mUs M, mLb M, mNw M, mAh M, mMs M, mLm M, mLs M, mFe M, mUf M, mWr M, mCo M, mNa M, mCr M, mCa M, 2, mNm M, mAc M, mCk M, mCp M) ⟨(Eq.symm (by unfold mOwnr; rw [hv_k, inR_nI hk9 (by omega)]; dsimp only; rw [o_17]; try rfl)), (Eq.symm (by unfold mOwnr; rw [hv_k, inR_nI hk9 (by omega)]; dsimp only; rw [o_17]; try rfl))⟩  rfl (Nat.le_of_ble_eq_true rfl) (Nat.le_of_ble_eq_true rfl) dX4_owner_44
  refine lv_iconst (v := nI 1) C.1 C.2.1 dX4_owner_8 (by decide) ?_
  refine lv_goto (tgt := 25) C.1 C.2.1 dX4_owner_9 (by decide) ?_
  refine q_put C hW 0 rfl rfl 17 (by decide) gu_X4 tyX4_ok nmX4 (C.2.2.2.2 _ fl_X4_63) rfl rfl rfl rfl (Nat.le_of_ble_eq_true rfl) (wMc g h a (mWd M) (mPl M) (mSt M) (mUs M) (mLb M) (mNw M) (mAh M) (mMs M) (mLm M) (mLs M) (mFe M) (mUf M) (mWr M) (mCo M) (mNa M) (mCr M) (mCa M) 1 (mNm M) (mAc M) (mCk M) (mCp M)) rfl dX4_owner_25 (fun H locs hW => ?_)
  refine lv_aload_n C.1 C.2.1 dX4_owner_28 rfl (lv_at hl 0 rfl) ?_
  refine q_get (v := .int (nI 1)) C hW 0 rfl rfl 17 (by decide) gu_X4 (C.2.2.2.2 _ fl_X4_63) rfl rfl dX4_owner_29 ?_
  refine q_zle (tgt := 39) C (by omega) dX4_owner_32 (by decide) (fun c_32 => absurd c_32 (by decide)) (fun c_32 => ?_)
  refine lv_iconst (v := nI 0) C.1 C.2.1 dX4_owner_35 (by decide) ?_
  refine lv_goto (tgt := 44) C.1 C.2.1 dX4_owner_36 (by decide) ?_
  exact q_iret C hRt hLk hW rfl (mWd M, mPl M, mSt M, mUs M, mLb M, mNw M, mAh M, mMs M, mLm M, mLs M, mFe M, mUf M, mWr M, mCo M, mNa M, mCr M, mCa M, 1, mNm M, mAc M, mCk M, mCp M) ⟨(Eq.symm (by unfold mOwnr; rw [inR_none_of c_5]; try rfl)), (Eq.symm (by unfold mOwnr; rw [inR_none_of c_5]; try rfl))⟩  rfl (Nat.le_of_ble_eq_true rfl) (Nat.le_of_ble_eq_true rfl) dX4_owner_44

theorem hd_X4_oldest : yX4_oldest.cls = RX4 ∧ yX4_oldest.cls ≠ "java/lang/invoke/MethodHandle" ∧ yX4_oldest.cls ≠ "java/lang/invoke/VarHandle" ∧ (parseMethodDescriptor yX4_oldest.desc).map (fun d => d.parameters.length) = some 2 := by decide +kernel
set_option maxHeartbeats 4000000 in
set_option maxRecDepth 100000 in
theorem c_X4_oldest (l : Launch) (D : va_G) (g : Nat → ClassId) (h : Nat) (a : Nat → Nat) (M : MdS) (v1 : Int32) (v2 : Int32) (hM : MOK M) (sz : Nat) : qMi l yX4_oldest (.code yX4_oldest cX4_oldest 3 (some .int) :: GW) ({ frames := 3, cells := 0, slots := 0, locals := 67 } : Room) D g [.ref h, .int v1, .int v2] (wM g h a M) sz (fun (r : Int32) (u : MdS) => nI ((mOldst M v1 v2).1) = r ∧ ((mOldst M v1 v2).2) = u) (fun (u : MdS) => (wM g h a u)) 0 0 := by
  refine q_entry (cc := cX4_oldest) (nL := 3) (ret := (some .int)) rfl (by decide) (Nat.le_of_ble_eq_true rfl) (fun pp ee ss mm bb mt kc ls C hRt hLk hin hsz hW hl => ?_)
  have hl : lv_has ls 3 [(0, .ref h), (1, .int v1), (2, .int v2)] := hl
  have h12 := hM.1
  have hcp1 := hM.2.2.2.2.1
  have hcp2 := hM.2.2.2.2.2.2
  refine lv_aload_n C.1 C.2.1 dX4_oldest_0 rfl (lv_at hl 0 rfl) ?_
  refine lv_iload_n C.1 C.2.1 dX4_oldest_1 rfl (lv_at hl 1 rfl) ?_
  refine q_callSi (rest := [.ref h]) C (c_X4_isCore l D g v1 _) (gw_S ml_X4_130 sm_X4_isCore ini_X4 cd_X4_isCore rfl) rfl rfl rfl hd_X4_isCore ⟨Nat.le_of_ble_eq_true rfl, Nat.le_of_ble_eq_true rfl⟩ hW (List.Perm.refl _) (fun (u_1 : Unit) => (wM g h a M)) (fun _ => List.Perm.refl _) hl.1 rfl (Nat.le_of_ble_eq_true rfl) ⟨Nat.le_of_ble_eq_true rfl, Nat.le_of_ble_eq_true rfl⟩ dX4_oldest_2 (fun r_1 u_1 H locs e_1 hW => ?_)
  subst e_1
  refine q_bf (b := (inR 4 v1).isSome) (tgt := 12) C dX4_oldest_5 (by decide) (fun c_5 => ?_) (fun c_5 => ?_)
  · obtain ⟨c, hc9, hv_c⟩ := inR_of (by omega) c_5
    rw [hv_c] at hl
    have hl : lv_has ls 3 [(0, .ref h), (1, .int (nI c)), (2, .int v2)] := hl
    refine lv_iload_n C.1 C.2.1 dX4_oldest_12 rfl (lv_at hl 2 rfl) ?_
    refine lv_iconst (v := nI 0) C.1 C.2.1 dX4_oldest_13 (by decide) ?_
    refine lv_iconst (v := nI 3) C.1 C.2.1 dX4_oldest_14 (by decide) ?_
    refine q_callSi (rest := [.ref h]) C (c_X4_in l D g v2 (nI 0) (nI 3) _) (gw_S ml_X4_76 sm_X4_in ini_X4 cd_X4_in rfl) rfl rfl rfl hd_X4_in ⟨Nat.le_of_ble_eq_true rfl, Nat.le_of_ble_eq_true rfl⟩ hW (List.Perm.refl _) (fun (u_2 : Unit) => (wM g h a M)) (fun _ => List.Perm.refl _) hl.1 rfl (Nat.le_of_ble_eq_true rfl) ⟨Nat.le_of_ble_eq_true rfl, Nat.le_of_ble_eq_true rfl⟩ dX4_oldest_15 (fun r_2 u_2 H locs e_2 hW => ?_)
    subst e_2
    refine q_to (y := bI ((inR 4 v2).isSome)) (by rw [inB_lit (by omega)]) ?_
    refine q_bf (b := (inR 4 v2).isSome) (tgt := 25) C dX4_oldest_18 (by decide) (fun c_18 => ?_) (fun c_18 => ?_)
    · obtain ⟨s, hs9, hv_s⟩ := inR_of (by omega) c_18
      rw [hv_s] at hl
      have hl : lv_has ls 3 [(0, .ref h), (1, .int (nI c)), (2, .int (nI s))] := hl
      refine lv_aload_n C.1 C.2.1 dX4_oldest_25 rfl (lv_at hl 0 rfl) ?_
      refine lv_iload_n C.1 C.2.1 dX4_oldest_26 rfl (lv_at hl 1 rfl) ?_
      refine lv_iload_n C.1 C.2.1 dX4_oldest_27 rfl (lv_at hl 2 rfl) ?_
      refine q_callVi (rest := [.ref h]) C (c_X4_oldestIn l D g h a M c s hM (by omega) (by omega) _) (gw_V ml_X4_109 im_X4_oldestIn se_X4_X4_oldestIn ini_X4 cd_X4_oldestIn rfl) rfl rfl rfl hd_X4_oldestIn ⟨Nat.le_of_ble_eq_true rfl, Nat.le_of_ble_eq_true rfl⟩ hW pm_all (fun u_3 => (wM g h a u_3)) (fun _ => pm_all) rfl rfl hl.1 rfl (Nat.le_of_ble_eq_true rfl) ⟨Nat.le_of_ble_eq_true rfl, Nat.le_of_ble_eq_true rfl⟩ dX4_oldest_28 (fun r_3 u_3 H locs e_3 hW => ?_)
      obtain ⟨rfl, rfl⟩ := e_3
      refine q_oge (o := mOldest M c s) (tgt := 38) C (fun i9 e9 => by have := (mOldest_spec e9 (by omega)).1; omega) dX4_oldest_31 (by decide) (fun j_31 o_31 => ?_) (fun o_31 => ?_)
      · refine lv_iconst (v := nI 0) C.1 C.2.1 dX4_oldest_38 (by decide) ?_
        refine q_put C hW 0 rfl rfl 17 (by decide) gu_X4 tyX4_ok nmX4 (C.2.2.2.2 _ fl_X4_63) rfl rfl rfl rfl (Nat.le_of_ble_eq_true rfl) (wMc g h a (mWd M) (mPl M) (mSt M) (mUs M) (mLb M) (mNw M) (mAh M) (mMs M) (mLm M) (mLs M) (mFe M) (mUf M) (mWr M) (mCo M) (mNa M) (mCr M) (mCa M) 0 (mNm M) (mAc M) (mCk M) (mCp M)) rfl dX4_oldest_39 (fun H locs hW => ?_)
        refine lv_aload_n C.1 C.2.1 dX4_oldest_42 rfl (lv_at hl 0 rfl) ?_
        refine q_get (v := .int (nI 0)) C hW 0 rfl rfl 17 (by decide) gu_X4 (C.2.2.2.2 _ fl_X4_63) rfl rfl dX4_oldest_43 ?_
        refine q_zle (tgt := 53) C (by omega) dX4_oldest_46 (by decide) (fun c_46 => ?_) (fun c_46 => absurd c_46 (by decide))
        have hMu : MOK (sTh M 0) := hM.same ⟨rfl, rfl, rfl, rfl, rfl⟩
        refine lv_aload_n C.1 C.2.1 dX4_oldest_53 rfl (lv_at hl 0 rfl) ?_
        refine lv_iload_n C.1 C.2.1 dX4_oldest_54 rfl (lv_at hl 1 rfl) ?_
        refine lv_iload_n C.1 C.2.1 dX4_oldest_55 rfl (lv_at hl 2 rfl) ?_
        refine q_callVi (rest := []) C (c_X4_oldestIn l D g h a (mWd M, mPl M, mSt M, mUs M, mLb M, mNw M, mAh M, mMs M, mLm M, mLs M, mFe M, mUf M, mWr M, mCo M, mNa M, mCr M, mCa M, 0, mNm M, mAc M, mCk M, mCp M) c s hMu (by omega) (by omega) _) (gw_V ml_X4_109 im_X4_oldestIn se_X4_X4_oldestIn ini_X4 cd_X4_oldestIn rfl) rfl rfl rfl hd_X4_oldestIn ⟨Nat.le_of_ble_eq_true rfl, Nat.le_of_ble_eq_true rfl⟩ hW pm_all (fun u_4 => (wM g h a u_4)) (fun _ => pm_all) rfl rfl hl.1 rfl (Nat.le_of_ble_eq_true rfl) ⟨Nat.le_of_ble_eq_true rfl, Nat.le_of_ble_eq_true rfl⟩ dX4_oldest_56 (fun r_4 u_4 H locs e_4 hW => ?_)
        obtain ⟨rfl, rfl⟩ := e_4
        exact q_iret C hRt hLk hW rfl (mWd M, mPl M, mSt M, mUs M, mLb M, mNw M, mAh M, mMs M, mLm M, mLs M, mFe M, mUf M, mWr M, mCo M, mNa M, mCr M, mCa M, 0, mNm M, mAc M, mCk M, mCp M) ⟨(Eq.symm (by have h9 : mOldest (mWd M, mPl M, mSt M, mUs M, mLb M, mNw M, mAh M, mMs M, mLm M, mLs M, mFe M, mUf M, mWr M, mCo M, mNa M, mCr M, mCa M, 0, mNm M, mAc M, mCk M, mCp M) c s = some j_31 := o_31; rw [h9]; unfold mOldst; rw [hv_c, inR_nI hc9 (by omega)]; dsimp only; rw [hv_s, inR_nI hs9 (by omega)]; dsimp only; rw [o_31]; try rfl)), (Eq.symm (by unfold mOldst; rw [hv_c, inR_nI hc9 (by omega)]; dsimp only; rw [hv_s, inR_nI hs9 (by omega)]; dsimp only; rw [o_31]; try rfl))⟩  rfl (Nat.le_of_ble_eq_true rfl) (Nat.le_of_ble_eq_true rfl) dX4_oldest_59
      refine lv_iconst (v := nI 3) C.1 C.2.1 dX4_oldest_34 (by decide) ?_
      refine lv_goto (tgt := 39) C.1 C.2.1 dX4_oldest_35 (by decide) ?_
      refine q_put C hW 0 rfl rfl 17 (by decide) gu_X4 tyX4_ok nmX4 (C.2.2.2.2 _ fl_X4_63) rfl rfl rfl rfl (Nat.le_of_ble_eq_true rfl) (wMc g h a (mWd M) (mPl M) (mSt M) (mUs M) (mLb M) (mNw M) (mAh M) (mMs M) (mLm M) (mLs M) (mFe M) (mUf M) (mWr M) (mCo M) (mNa M) (mCr M) (mCa M) 3 (mNm M) (mAc M) (mCk M) (mCp M)) rfl dX4_oldest_39 (fun H locs hW => ?_)
      refine lv_aload_n C.1 C.2.1 dX4_oldest_42 rfl (lv_at hl 0 rfl) ?_
      refine q_get (v := .int (nI 3)) C hW 0 rfl rfl 17 (by decide) gu_X4 (C.2.2.2.2 _ fl_X4_63) rfl rfl dX4_oldest_43 ?_
      refine q_zle (tgt := 53) C (by omega) dX4_oldest_46 (by decide) (fun c_46 => absurd c_46 (by decide)) (fun c_46 => ?_)
      refine lv_iconst (v := nI 0) C.1 C.2.1 dX4_oldest_49 (by decide) ?_
      refine lv_goto (tgt := 59) C.1 C.2.1 dX4_oldest_50 (by decide) ?_
      exact q_iret C hRt hLk hW rfl (mWd M, mPl M, mSt M, mUs M, mLb M, mNw M, mAh M, mMs M, mLm M, mLs M, mFe M, mUf M, mWr M, mCo M, mNa M, mCr M, mCa M, 3, mNm M, mAc M, mCk M, mCp M) ⟨(Eq.symm (by unfold mOldst; rw [hv_c, inR_nI hc9 (by omega)]; dsimp only; rw [hv_s, inR_nI hs9 (by omega)]; dsimp only; rw [o_31]; try rfl)), (Eq.symm (by unfold mOldst; rw [hv_c, inR_nI hc9 (by omega)]; dsimp only; rw [hv_s, inR_nI hs9 (by omega)]; dsimp only; rw [o_31]; try rfl))⟩  rfl (Nat.le_of_ble_eq_true rfl) (Nat.le_of_ble_eq_true rfl) dX4_oldest_59
    refine lv_iconst (v := nI 2) C.1 C.2.1 dX4_oldest_21 (by decide) ?_
    refine lv_goto (tgt := 39) C.1 C.2.1 dX4_oldest_22 (by decide) ?_
    refine q_put C hW 0 rfl rfl 17 (by decide) gu_X4 tyX4_ok nmX4 (C.2.2.2.2 _ fl_X4_63) rfl rfl rfl rfl (Nat.le_of_ble_eq_true rfl) (wMc g h a (mWd M) (mPl M) (mSt M) (mUs M) (mLb M) (mNw M) (mAh M) (mMs M) (mLm M) (mLs M) (mFe M) (mUf M) (mWr M) (mCo M) (mNa M) (mCr M) (mCa M) 2 (mNm M) (mAc M) (mCk M) (mCp M)) rfl dX4_oldest_39 (fun H locs hW => ?_)
    refine lv_aload_n C.1 C.2.1 dX4_oldest_42 rfl (lv_at hl 0 rfl) ?_
    refine q_get (v := .int (nI 2)) C hW 0 rfl rfl 17 (by decide) gu_X4 (C.2.2.2.2 _ fl_X4_63) rfl rfl dX4_oldest_43 ?_
    refine q_zle (tgt := 53) C (by omega) dX4_oldest_46 (by decide) (fun c_46 => absurd c_46 (by decide)) (fun c_46 => ?_)
    refine lv_iconst (v := nI 0) C.1 C.2.1 dX4_oldest_49 (by decide) ?_
    refine lv_goto (tgt := 59) C.1 C.2.1 dX4_oldest_50 (by decide) ?_
    exact q_iret C hRt hLk hW rfl (mWd M, mPl M, mSt M, mUs M, mLb M, mNw M, mAh M, mMs M, mLm M, mLs M, mFe M, mUf M, mWr M, mCo M, mNa M, mCr M, mCa M, 2, mNm M, mAc M, mCk M, mCp M) ⟨(Eq.symm (by unfold mOldst; rw [hv_c, inR_nI hc9 (by omega)]; dsimp only; rw [inR_none_of c_18]; try rfl)), (Eq.symm (by unfold mOldst; rw [hv_c, inR_nI hc9 (by omega)]; dsimp only; rw [inR_none_of c_18]; try rfl))⟩  rfl (Nat.le_of_ble_eq_true rfl) (Nat.le_of_ble_eq_true rfl) dX4_oldest_59
  refine lv_iconst (v := nI 1) C.1 C.2.1 dX4_oldest_8 (by decide) ?_
  refine lv_goto (tgt := 39) C.1 C.2.1 dX4_oldest_9 (by decide) ?_
  refine q_put C hW 0 rfl rfl 17 (by decide) gu_X4 tyX4_ok nmX4 (C.2.2.2.2 _ fl_X4_63) rfl rfl rfl rfl (Nat.le_of_ble_eq_true rfl) (wMc g h a (mWd M) (mPl M) (mSt M) (mUs M) (mLb M) (mNw M) (mAh M) (mMs M) (mLm M) (mLs M) (mFe M) (mUf M) (mWr M) (mCo M) (mNa M) (mCr M) (mCa M) 1 (mNm M) (mAc M) (mCk M) (mCp M)) rfl dX4_oldest_39 (fun H locs hW => ?_)
  refine lv_aload_n C.1 C.2.1 dX4_oldest_42 rfl (lv_at hl 0 rfl) ?_
  refine q_get (v := .int (nI 1)) C hW 0 rfl rfl 17 (by decide) gu_X4 (C.2.2.2.2 _ fl_X4_63) rfl rfl dX4_oldest_43 ?_
  refine q_zle (tgt := 53) C (by omega) dX4_oldest_46 (by decide) (fun c_46 => absurd c_46 (by decide)) (fun c_46 => ?_)
  refine lv_iconst (v := nI 0) C.1 C.2.1 dX4_oldest_49 (by decide) ?_
  refine lv_goto (tgt := 59) C.1 C.2.1 dX4_oldest_50 (by decide) ?_
  exact q_iret C hRt hLk hW rfl (mWd M, mPl M, mSt M, mUs M, mLb M, mNw M, mAh M, mMs M, mLm M, mLs M, mFe M, mUf M, mWr M, mCo M, mNa M, mCr M, mCa M, 1, mNm M, mAc M, mCk M, mCp M) ⟨(Eq.symm (by unfold mOldst; rw [inR_none_of c_5]; try rfl)), (Eq.symm (by unfold mOldst; rw [inR_none_of c_5]; try rfl))⟩  rfl (Nat.le_of_ble_eq_true rfl) (Nat.le_of_ble_eq_true rfl) dX4_oldest_59
