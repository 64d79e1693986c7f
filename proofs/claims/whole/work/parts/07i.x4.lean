theorem hd_X4_accesses : yX4_accesses.cls = RX4 ∧ yX4_accesses.cls ≠ "java/lang/invoke/MethodHandle" ∧ yX4_accesses.cls ≠ "java/lang/invoke/VarHandle" ∧ (parseMethodDescriptor yX4_accesses.desc).map (fun d => d.parameters.length) = some 0 := by decide +kernel
set_option maxHeartbeats 4000000 in
set_option maxRecDepth 100000 in
theorem c_X4_accesses (l : Launch) (D : va_G) (g : Nat → ClassId) (h : Nat) (a : Nat → Nat) (M : MdS) (hM : MOK M) (sz : Nat) : qMi l yX4_accesses (.code yX4_accesses cX4_accesses 1 (some .int) :: GW) ({ frames := 0, cells := 0, slots := 0, locals := 0 } : Room) D g [.ref h] (wM g h a M) sz (fun (r : Int32) (u : MdS) => nI (mAc M) = r ∧ (sTh M 0) = u) (fun (u : MdS) => (wM g h a u)) 0 0 := by
  refine q_entry (cc := cX4_accesses) (nL := 1) (ret := (some .int)) rfl (by decide) (Nat.le_of_ble_eq_true rfl) (fun pp ee ss mm bb mt kc ls C hRt hLk hin hsz hW hl => ?_)
  have hl : lv_has ls 1 [(0, .ref h)] := hl
  have h12 := hM.1
  have hcp1 := hM.2.2.2.2.1
  have hcp2 := hM.2.2.2.2.2.2
  refine lv_aload_n C.1 C.2.1 dX4_accesses_0 rfl (lv_at hl 0 rfl) ?_
  refine lv_iconst (v := nI 0) C.1 C.2.1 dX4_accesses_1 (by decide) ?_
  refine q_put C hW 0 rfl rfl 17 (by decide) gu_X4 tyX4_ok nmX4 (C.2.2.2.2 _ fl_X4_63) rfl rfl rfl rfl (Nat.le_of_ble_eq_true rfl) (wMc g h a (mWd M) (mPl M) (mSt M) (mUs M) (mLb M) (mNw M) (mAh M) (mMs M) (mLm M) (mLs M) (mFe M) (mUf M) (mWr M) (mCo M) (mNa M) (mCr M) (mCa M) 0 (mNm M) (mAc M) (mCk M) (mCp M)) rfl dX4_accesses_2 (fun H locs hW => ?_)
  refine lv_aload_n C.1 C.2.1 dX4_accesses_5 rfl (lv_at hl 0 rfl) ?_
  refine q_get (v := .int (nI (mAc M))) C hW 0 rfl rfl 19 (by decide) gu_X4 (C.2.2.2.2 _ fl_X4_70) rfl rfl dX4_accesses_6 ?_
  exact q_iret C hRt hLk hW rfl (mWd M, mPl M, mSt M, mUs M, mLb M, mNw M, mAh M, mMs M, mLm M, mLs M, mFe M, mUf M, mWr M, mCo M, mNa M, mCr M, mCa M, 0, mNm M, mAc M, mCk M, mCp M) ⟨rfl, rfl⟩  rfl (Nat.le_of_ble_eq_true rfl) (Nat.le_of_ble_eq_true rfl) dX4_accesses_9

theorem hd_X4_isCoherent : yX4_isCoherent.cls = RX4 ∧ yX4_isCoherent.cls ≠ "java/lang/invoke/MethodHandle" ∧ yX4_isCoherent.cls ≠ "java/lang/invoke/VarHandle" ∧ (parseMethodDescriptor yX4_isCoherent.desc).map (fun d => d.parameters.length) = some 0 := by decide +kernel
set_option maxHeartbeats 4000000 in
set_option maxRecDepth 100000 in
theorem c_X4_isCoherent (l : Launch) (D : va_G) (g : Nat → ClassId) (h : Nat) (a : Nat → Nat) (M : MdS) (hM : MOK M) (sz : Nat) : qMi l yX4_isCoherent (.code yX4_isCoherent cX4_isCoherent 1 (some .boolean) :: GW) ({ frames := 0, cells := 0, slots := 0, locals := 0 } : Room) D g [.ref h] (wM g h a M) sz (fun (r : Int32) (u : MdS) => bI true = r ∧ (sTh M 0) = u) (fun (u : MdS) => (wM g h a u)) 0 0 := by
  refine q_entry (cc := cX4_isCoherent) (nL := 1) (ret := (some .boolean)) rfl (by decide) (Nat.le_of_ble_eq_true rfl) (fun pp ee ss mm bb mt kc ls C hRt hLk hin hsz hW hl => ?_)
  have hl : lv_has ls 1 [(0, .ref h)] := hl
  have h12 := hM.1
  have hcp1 := hM.2.2.2.2.1
  have hcp2 := hM.2.2.2.2.2.2
  refine lv_aload_n C.1 C.2.1 dX4_isCoherent_0 rfl (lv_at hl 0 rfl) ?_
  refine lv_iconst (v := nI 0) C.1 C.2.1 dX4_isCoherent_1 (by decide) ?_
  refine q_put C hW 0 rfl rfl 17 (by decide) gu_X4 tyX4_ok nmX4 (C.2.2.2.2 _ fl_X4_63) rfl rfl rfl rfl (Nat.le_of_ble_eq_true rfl) (wMc g h a (mWd M) (mPl M) (mSt M) (mUs M) (mLb M) (mNw M) (mAh M) (mMs M) (mLm M) (mLs M) (mFe M) (mUf M) (mWr M) (mCo M) (mNa M) (mCr M) (mCa M) 0 (mNm M) (mAc M) (mCk M) (mCp M)) rfl dX4_isCoherent_2 (fun H locs hW => ?_)
  refine lv_iconst (v := nI 1) C.1 C.2.1 dX4_isCoherent_5 (by decide) ?_
  exact q_iret C hRt hLk hW (by decide) (mWd M, mPl M, mSt M, mUs M, mLb M, mNw M, mAh M, mMs M, mLm M, mLs M, mFe M, mUf M, mWr M, mCo M, mNa M, mCr M, mCa M, 0, mNm M, mAc M, mCk M, mCp M) ⟨rfl, rfl⟩  rfl (Nat.le_of_ble_eq_true rfl) (Nat.le_of_ble_eq_true rfl) dX4_isCoherent_6

theorem hd_X4_costOf : yX4_costOf.cls = RX4 ∧ yX4_costOf.cls ≠ "java/lang/invoke/MethodHandle" ∧ yX4_costOf.cls ≠ "java/lang/invoke/VarHandle" ∧ (parseMethodDescriptor yX4_costOf.desc).map (fun d => d.parameters.length) = some 1 := by decide +kernel
set_option maxHeartbeats 4000000 in
set_option maxRecDepth 100000 in
theorem c_X4_costOf (l : Launch) (D : va_G) (g : Nat → ClassId) (h : Nat) (a : Nat → Nat) (M : MdS) (v : Int32) (hM : MOK M) (sz : Nat) : qMi l yX4_costOf (.code yX4_costOf cX4_costOf 2 (some .int) :: GW) ({ frames := 2, cells := 0, slots := 0, locals := 43 } : Room) D g [.ref h, .int v] (wM g h a M) sz (fun (r : Int32) (u : MdS) => nI ((mCost M v).1) = r ∧ ((mCost M v).2) = u) (fun (u : MdS) => (wM g h a u)) 0 0 := by
  refine q_entry (cc := cX4_costOf) (nL := 2) (ret := (some .int)) rfl (by decide) (Nat.le_of_ble_eq_true rfl) (fun pp ee ss mm bb mt kc ls C hRt hLk hin hsz hW hl => ?_)
  have hl : lv_has ls 2 [(0, .ref h), (1, .int v)] := hl
  have h12 := hM.1
  have hcp1 := hM.2.2.2.2.1
  have hcp2 := hM.2.2.2.2.2.2
  refine lv_aload_n C.1 C.2.1 dX4_costOf_0 rfl (lv_at hl 0 rfl) ?_
  refine lv_aload_n C.1 C.2.1 dX4_costOf_1 rfl (lv_at hl 0 rfl) ?_
  refine lv_iload_n C.1 C.2.1 dX4_costOf_2 rfl (lv_at hl 1 rfl) ?_
  refine q_callVi (rest := [.ref h]) C (c_X4_isAccess l D g h a M v hM _) (gw_V ml_X4_155 im_X4_isAccess se_X4_X4_isAccess ini_X4 cd_X4_isAccess rfl) rfl rfl rfl hd_X4_isAccess ⟨Nat.le_of_ble_eq_true rfl, Nat.le_of_ble_eq_true rfl⟩ hW pm_all (fun u_1 => (wM g h a u_1)) (fun _ => pm_all) rfl rfl hl.1 rfl (Nat.le_of_ble_eq_true rfl) ⟨Nat.le_of_ble_eq_true rfl, Nat.le_of_ble_eq_true rfl⟩ dX4_costOf_3 (fun r_1 u_1 H locs e_1 hW => ?_)
  obtain ⟨rfl, rfl⟩ := e_1
  rcases hb : (inR (mAc M) v).isSome with _ | _
  · refine q_callVi (rest := []) C (c_X4_checked_F l D g h a M hM _) (gw_V ml_X4_92 im_X4_checked se_X4_X4_checked ini_X4 cd_X4_checked rfl) rfl rfl rfl hd_X4_checked ⟨Nat.le_of_ble_eq_true rfl, Nat.le_of_ble_eq_true rfl⟩ hW pm_all (fun u_2 => (wM g h a u_2)) (fun _ => pm_all) rfl rfl hl.1 rfl (Nat.le_of_ble_eq_true rfl) ⟨Nat.le_of_ble_eq_true rfl, Nat.le_of_ble_eq_true rfl⟩ dX4_costOf_6 (fun r_2 u_2 H locs e_2 hW => ?_)
    obtain ⟨rfl, e_2⟩ := e_2
    refine q_zle (tgt := 16) C (by omega) dX4_costOf_9 (by decide) (fun c_9 => absurd c_9 (by decide)) (fun c_9 => ?_)
    refine lv_iconst (v := nI 0) C.1 C.2.1 dX4_costOf_12 (by decide) ?_
    refine lv_goto (tgt := 22) C.1 C.2.1 dX4_costOf_13 (by decide) ?_
    exact q_iret C hRt hLk hW rfl u_2 ⟨(Eq.symm (by unfold mCost; rw [inR_none_of hb]; try rfl)), (Eq.symm (by unfold mCost; rw [inR_none_of hb]; exact e_2.symm))⟩  rfl (Nat.le_of_ble_eq_true rfl) (Nat.le_of_ble_eq_true rfl) dX4_costOf_22
  obtain ⟨c, hc9, hv9⟩ := inR_of (by omega) hb
  rw [hv9] at hl
  have hl : lv_has ls 2 [(0, .ref h), (1, .int (nI c))] := hl
  refine q_callVi (rest := []) C (c_X4_checked_T l D g h a M hM _) (gw_V ml_X4_92 im_X4_checked se_X4_X4_checked ini_X4 cd_X4_checked rfl) rfl rfl rfl hd_X4_checked ⟨Nat.le_of_ble_eq_true rfl, Nat.le_of_ble_eq_true rfl⟩ hW pm_all (fun u_3 => (wM g h a u_3)) (fun _ => pm_all) rfl rfl hl.1 rfl (Nat.le_of_ble_eq_true rfl) ⟨Nat.le_of_ble_eq_true rfl, Nat.le_of_ble_eq_true rfl⟩ dX4_costOf_6 (fun r_3 u_3 H locs e_3 hW => ?_)
  obtain ⟨rfl, e_3⟩ := e_3
  subst e_3
  have hMu : MOK (sTh M 0) := hM.same ⟨rfl, rfl, rfl, rfl, rfl⟩
  have hAu : mAc (sTh M 0) = mAc M := rfl
  have hNu : mNm (sTh M 0) = mNm M := rfl
  have hCu : mCp (sTh M 0) = mCp M := rfl
  refine q_zle (tgt := 16) C (by omega) dX4_costOf_9 (by decide) (fun c_9 => ?_) (fun c_9 => absurd c_9 (by decide))
  refine lv_aload_n C.1 C.2.1 dX4_costOf_16 rfl (lv_at hl 0 rfl) ?_
  refine q_get (v := .ref (a 13)) C hW 0 rfl rfl 13 (by decide) gu_X4 (C.2.2.2.2 _ fl_X4_51) rfl rfl dX4_costOf_17 ?_
  refine lv_iload_n C.1 C.2.1 dX4_costOf_20 rfl (lv_at hl 1 rfl) ?_
  refine q_ialdN (f := mCo (sTh M 0)) C hW 14 rfl (k := c) (by omega) (by omega) dX4_costOf_21 ?_
  exact q_iret C hRt hLk hW rfl (sTh M 0) ⟨(Eq.symm (by unfold mCost; rw [hv9, inR_nI hc9 (by omega)]; try rfl)), (Eq.symm (by unfold mCost; rw [hv9, inR_nI hc9 (by omega)]; try rfl))⟩  rfl (Nat.le_of_ble_eq_true rfl) (Nat.le_of_ble_eq_true rfl) dX4_costOf_22

theorem hd_X4_costByReplay : yX4_costByReplay.cls = RX4 ∧ yX4_costByReplay.cls ≠ "java/lang/invoke/MethodHandle" ∧ yX4_costByReplay.cls ≠ "java/lang/invoke/VarHandle" ∧ (parseMethodDescriptor yX4_costByReplay.desc).map (fun d => d.parameters.length) = some 1 := by decide +kernel
set_option maxHeartbeats 4000000 in
set_option maxRecDepth 100000 in
theorem c_X4_costByReplay (l : Launch) (D : va_G) (g : Nat → ClassId) (h : Nat) (a : Nat → Nat) (M : MdS) (v : Int32) (hM : MOK M) (sz : Nat) : qMi l yX4_costByReplay (.code yX4_costByReplay cX4_costByReplay 2 (some .int) :: GW) ({ frames := 3, cells := 0, slots := 0, locals := 64 } : Room) D g [.ref h, .int v] (wM g h a M) sz (fun (r : Int32) (u : MdS) => nI ((mCost M v).1) = r ∧ ((mCost M v).2) = u) (fun (u : MdS) => (wM g h a u)) 0 0 := by
  refine q_entry (cc := cX4_costByReplay) (nL := 2) (ret := (some .int)) rfl (by decide) (Nat.le_of_ble_eq_true rfl) (fun pp ee ss mm bb mt kc ls C hRt hLk hin hsz hW hl => ?_)
  have hl : lv_has ls 2 [(0, .ref h), (1, .int v)] := hl
  have h12 := hM.1
  have hcp1 := hM.2.2.2.2.1
  have hcp2 := hM.2.2.2.2.2.2
  refine lv_aload_n C.1 C.2.1 dX4_costByReplay_0 rfl (lv_at hl 0 rfl) ?_
  refine lv_iload_n C.1 C.2.1 dX4_costByReplay_1 rfl (lv_at hl 1 rfl) ?_
  refine q_callVi (rest := []) C (c_X4_costOf l D g h a M v hM _) (gw_V ml_X4_158 im_X4_costOf se_X4_X4_costOf ini_X4 cd_X4_costOf rfl) rfl rfl rfl hd_X4_costOf ⟨Nat.le_of_ble_eq_true rfl, Nat.le_of_ble_eq_true rfl⟩ hW pm_all (fun u_1 => (wM g h a u_1)) (fun _ => pm_all) rfl rfl hl.1 rfl (Nat.le_of_ble_eq_true rfl) ⟨Nat.le_of_ble_eq_true rfl, Nat.le_of_ble_eq_true rfl⟩ dX4_costByReplay_2 (fun r_1 u_1 H locs e_1 hW => ?_)
  obtain ⟨rfl, e_1⟩ := e_1
  exact q_iret C hRt hLk hW rfl u_1 ⟨rfl, (Eq.symm e_1.symm)⟩  rfl (Nat.le_of_ble_eq_true rfl) (Nat.le_of_ble_eq_true rfl) dX4_costByReplay_5

theorem hd_X4_causeOf : yX4_causeOf.cls = RX4 ∧ yX4_causeOf.cls ≠ "java/lang/invoke/MethodHandle" ∧ yX4_causeOf.cls ≠ "java/lang/invoke/VarHandle" ∧ (parseMethodDescriptor yX4_causeOf.desc).map (fun d => d.parameters.length) = some 1 := by decide +kernel
set_option maxHeartbeats 4000000 in
set_option maxRecDepth 100000 in
theorem c_X4_causeOf (l : Launch) (D : va_G) (g : Nat → ClassId) (h : Nat) (a : Nat → Nat) (M : MdS) (v : Int32) (hM : MOK M) (sz : Nat) : qMi l yX4_causeOf (.code yX4_causeOf cX4_causeOf 2 (some .char) :: GW) ({ frames := 2, cells := 0, slots := 0, locals := 43 } : Room) D g [.ref h, .int v] (wM g h a M) sz (fun (r : Int32) (u : MdS) => cI ((mCausOf M v).1) = r ∧ ((mCausOf M v).2) = u) (fun (u : MdS) => (wM g h a u)) 0 0 := by
  refine q_entry (cc := cX4_causeOf) (nL := 2) (ret := (some .char)) rfl (by decide) (Nat.le_of_ble_eq_true rfl) (fun pp ee ss mm bb mt kc ls C hRt hLk hin hsz hW hl => ?_)
  have hl : lv_has ls 2 [(0, .ref h), (1, .int v)] := hl
  have h12 := hM.1
  have hcp1 := hM.2.2.2.2.1
  have hcp2 := hM.2.2.2.2.2.2
  refine lv_aload_n C.1 C.2.1 dX4_causeOf_0 rfl (lv_at hl 0 rfl) ?_
  refine lv_aload_n C.1 C.2.1 dX4_causeOf_1 rfl (lv_at hl 0 rfl) ?_
  refine lv_iload_n C.1 C.2.1 dX4_causeOf_2 rfl (lv_at hl 1 rfl) ?_
  refine q_callVi (rest := [.ref h]) C (c_X4_isAccess l D g h a M v hM _) (gw_V ml_X4_155 im_X4_isAccess se_X4_X4_isAccess ini_X4 cd_X4_isAccess rfl) rfl rfl rfl hd_X4_isAccess ⟨Nat.le_of_ble_eq_true rfl, Nat.le_of_ble_eq_true rfl⟩ hW pm_all (fun u_1 => (wM g h a u_1)) (fun _ => pm_all) rfl rfl hl.1 rfl (Nat.le_of_ble_eq_true rfl) ⟨Nat.le_of_ble_eq_true rfl, Nat.le_of_ble_eq_true rfl⟩ dX4_causeOf_3 (fun r_1 u_1 H locs e_1 hW => ?_)
  obtain ⟨rfl, rfl⟩ := e_1
  rcases hb : (inR (mAc M) v).isSome with _ | _
  · refine q_callVi (rest := []) C (c_X4_checked_F l D g h a M hM _) (gw_V ml_X4_92 im_X4_checked se_X4_X4_checked ini_X4 cd_X4_checked rfl) rfl rfl rfl hd_X4_checked ⟨Nat.le_of_ble_eq_true rfl, Nat.le_of_ble_eq_true rfl⟩ hW pm_all (fun u_2 => (wM g h a u_2)) (fun _ => pm_all) rfl rfl hl.1 rfl (Nat.le_of_ble_eq_true rfl) ⟨Nat.le_of_ble_eq_true rfl, Nat.le_of_ble_eq_true rfl⟩ dX4_causeOf_6 (fun r_2 u_2 H locs e_2 hW => ?_)
    obtain ⟨rfl, e_2⟩ := e_2
    refine q_zle (tgt := 17) C (by omega) dX4_causeOf_9 (by decide) (fun c_9 => absurd c_9 (by decide)) (fun c_9 => ?_)
    refine lv_bipush (v := nI 32) C.1 C.2.1 dX4_causeOf_12 (by decide) ?_
    refine lv_goto (tgt := 23) C.1 C.2.1 dX4_causeOf_14 (by decide) ?_
    exact q_iret C hRt hLk hW (by decide) u_2 ⟨(Eq.symm (by unfold mCausOf; rw [inR_none_of hb]; try rfl)), (Eq.symm (by unfold mCausOf; rw [inR_none_of hb]; exact e_2.symm))⟩  rfl (Nat.le_of_ble_eq_true rfl) (Nat.le_of_ble_eq_true rfl) dX4_causeOf_23
  obtain ⟨c, hc9, hv9⟩ := inR_of (by omega) hb
  rw [hv9] at hl
  have hl : lv_has ls 2 [(0, .ref h), (1, .int (nI c))] := hl
  refine q_callVi (rest := []) C (c_X4_checked_T l D g h a M hM _) (gw_V ml_X4_92 im_X4_checked se_X4_X4_checked ini_X4 cd_X4_checked rfl) rfl rfl rfl hd_X4_checked ⟨Nat.le_of_ble_eq_true rfl, Nat.le_of_ble_eq_true rfl⟩ hW pm_all (fun u_3 => (wM g h a u_3)) (fun _ => pm_all) rfl rfl hl.1 rfl (Nat.le_of_ble_eq_true rfl) ⟨Nat.le_of_ble_eq_true rfl, Nat.le_of_ble_eq_true rfl⟩ dX4_causeOf_6 (fun r_3 u_3 H locs e_3 hW => ?_)
  obtain ⟨rfl, e_3⟩ := e_3
  subst e_3
  have hMu : MOK (sTh M 0) := hM.same ⟨rfl, rfl, rfl, rfl, rfl⟩
  have hAu : mAc (sTh M 0) = mAc M := rfl
  have hNu : mNm (sTh M 0) = mNm M := rfl
  have hCu : mCp (sTh M 0) = mCp M := rfl
  refine q_zle (tgt := 17) C (by omega) dX4_causeOf_9 (by decide) (fun c_9 => ?_) (fun c_9 => absurd c_9 (by decide))
  refine lv_aload_n C.1 C.2.1 dX4_causeOf_17 rfl (lv_at hl 0 rfl) ?_
  refine q_get (v := .ref (a 16)) C hW 0 rfl rfl 16 (by decide) gu_X4 (C.2.2.2.2 _ fl_X4_60) rfl rfl dX4_causeOf_18 ?_
  refine lv_iload_n C.1 C.2.1 dX4_causeOf_21 rfl (lv_at hl 1 rfl) ?_
  refine q_caldC (f := mCa (sTh M 0)) C hW 17 rfl (k := c) (by omega) (by omega) dX4_causeOf_22 ?_
  exact q_iret C hRt hLk hW (narC _) (sTh M 0) ⟨(Eq.symm (by unfold mCausOf; rw [hv9, inR_nI hc9 (by omega)]; try rfl)), (Eq.symm (by unfold mCausOf; rw [hv9, inR_nI hc9 (by omega)]; try rfl))⟩  rfl (Nat.le_of_ble_eq_true rfl) (Nat.le_of_ble_eq_true rfl) dX4_causeOf_23

theorem hd_X4_holders : yX4_holders.cls = RX4 ∧ yX4_holders.cls ≠ "java/lang/invoke/MethodHandle" ∧ yX4_holders.cls ≠ "java/lang/invoke/VarHandle" ∧ (parseMethodDescriptor yX4_holders.desc).map (fun d => d.parameters.length) = some 1 := by decide +kernel
set_option maxHeartbeats 4000000 in
set_option maxRecDepth 100000 in
theorem c_X4_holders (l : Launch) (D : va_G) (g : Nat → ClassId) (h : Nat) (a : Nat → Nat) (M : MdS) (v : Int32) (hM : MOK M) (sz : Nat) : qMi l yX4_holders (.code yX4_holders cX4_holders 2 (some .int) :: GW) ({ frames := 3, cells := 0, slots := 0, locals := 67 } : Room) D g [.ref h, .int v] (wM g h a M) sz (fun (r : Int32) (u : MdS) => nI ((mHold M v).1) = r ∧ ((mHold M v).2) = u) (fun (u : MdS) => (wM g h a u)) 0 0 := by
  refine q_entry (cc := cX4_holders) (nL := 2) (ret := (some .int)) rfl (by decide) (Nat.le_of_ble_eq_true rfl) (fun pp ee ss mm bb mt kc ls C hRt hLk hin hsz hW hl => ?_)
  have hl : lv_has ls 2 [(0, .ref h), (1, .int v)] := hl
  have h12 := hM.1
  have hcp1 := hM.2.2.2.2.1
  have hcp2 := hM.2.2.2.2.2.2
  refine lv_aload_n C.1 C.2.1 dX4_holders_0 rfl (lv_at hl 0 rfl) ?_
  refine lv_iload_n C.1 C.2.1 dX4_holders_1 rfl (lv_at hl 1 rfl) ?_
  refine q_callSi (rest := [.ref h]) C (c_X4_isLine l D g v _) (gw_S ml_X4_161 sm_X4_isLine ini_X4 cd_X4_isLine rfl) rfl rfl rfl hd_X4_isLine ⟨Nat.le_of_ble_eq_true rfl, Nat.le_of_ble_eq_true rfl⟩ hW (List.Perm.refl _) (fun (u_1 : Unit) => (wM g h a M)) (fun _ => List.Perm.refl _) hl.1 rfl (Nat.le_of_ble_eq_true rfl) ⟨Nat.le_of_ble_eq_true rfl, Nat.le_of_ble_eq_true rfl⟩ dX4_holders_2 (fun r_1 u_1 H locs e_1 hW => ?_)
  subst e_1
  rcases hb : (inR 64 v).isSome with _ | _
  · refine q_callVi (rest := []) C (c_X4_checked_F l D g h a M hM _) (gw_V ml_X4_92 im_X4_checked se_X4_X4_checked ini_X4 cd_X4_checked rfl) rfl rfl rfl hd_X4_checked ⟨Nat.le_of_ble_eq_true rfl, Nat.le_of_ble_eq_true rfl⟩ hW pm_all (fun u_2 => (wM g h a u_2)) (fun _ => pm_all) rfl rfl hl.1 rfl (Nat.le_of_ble_eq_true rfl) ⟨Nat.le_of_ble_eq_true rfl, Nat.le_of_ble_eq_true rfl⟩ dX4_holders_5 (fun r_2 u_2 H locs e_2 hW => ?_)
    obtain ⟨rfl, e_2⟩ := e_2
    refine q_zle (tgt := 15) C (by omega) dX4_holders_8 (by decide) (fun c_8 => absurd c_8 (by decide)) (fun c_8 => ?_)
    refine lv_iconst (v := nI 0) C.1 C.2.1 dX4_holders_11 (by decide) ?_
    refine lv_goto (tgt := 21) C.1 C.2.1 dX4_holders_12 (by decide) ?_
    exact q_iret C hRt hLk hW rfl u_2 ⟨(Eq.symm (by unfold mHold; rw [inR_none_of hb]; try rfl)), (Eq.symm (by unfold mHold; rw [inR_none_of hb]; exact e_2.symm))⟩  rfl (Nat.le_of_ble_eq_true rfl) (Nat.le_of_ble_eq_true rfl) dX4_holders_21
  obtain ⟨c, hc9, hv9⟩ := inR_of (by omega) hb
  rw [hv9] at hl
  have hl : lv_has ls 2 [(0, .ref h), (1, .int (nI c))] := hl
  refine q_callVi (rest := []) C (c_X4_checked_T l D g h a M hM _) (gw_V ml_X4_92 im_X4_checked se_X4_X4_checked ini_X4 cd_X4_checked rfl) rfl rfl rfl hd_X4_checked ⟨Nat.le_of_ble_eq_true rfl, Nat.le_of_ble_eq_true rfl⟩ hW pm_all (fun u_3 => (wM g h a u_3)) (fun _ => pm_all) rfl rfl hl.1 rfl (Nat.le_of_ble_eq_true rfl) ⟨Nat.le_of_ble_eq_true rfl, Nat.le_of_ble_eq_true rfl⟩ dX4_holders_5 (fun r_3 u_3 H locs e_3 hW => ?_)
  obtain ⟨rfl, e_3⟩ := e_3
  subst e_3
  have hMu : MOK (sTh M 0) := hM.same ⟨rfl, rfl, rfl, rfl, rfl⟩
  have hAu : mAc (sTh M 0) = mAc M := rfl
  have hNu : mNm (sTh M 0) = mNm M := rfl
  have hCu : mCp (sTh M 0) = mCp M := rfl
  refine q_zle (tgt := 15) C (by omega) dX4_holders_8 (by decide) (fun c_8 => ?_) (fun c_8 => absurd c_8 (by decide))
  refine lv_aload_n C.1 C.2.1 dX4_holders_15 rfl (lv_at hl 0 rfl) ?_
  refine lv_iconst (v := (-1)) C.1 C.2.1 dX4_holders_16 (by decide) ?_
  refine lv_iload_n C.1 C.2.1 dX4_holders_17 rfl (lv_at hl 1 rfl) ?_
  refine q_callVi (rest := []) C (c_X4_othersWith l D g h a (sTh M 0) (-1) c hMu (by omega) _) (gw_V ml_X4_123 im_X4_othersWith se_X4_X4_othersWith ini_X4 cd_X4_othersWith rfl) rfl rfl rfl hd_X4_othersWith ⟨Nat.le_of_ble_eq_true rfl, Nat.le_of_ble_eq_true rfl⟩ hW pm_all (fun u_4 => (wM g h a u_4)) (fun _ => pm_all) rfl rfl hl.1 rfl (Nat.le_of_ble_eq_true rfl) ⟨Nat.le_of_ble_eq_true rfl, Nat.le_of_ble_eq_true rfl⟩ dX4_holders_18 (fun r_4 u_4 H locs e_4 hW => ?_)
  obtain ⟨rfl, rfl⟩ := e_4
  exact q_iret C hRt hLk hW rfl (sTh M 0) ⟨(Eq.symm (by unfold mHold; rw [hv9, inR_nI hc9 (by omega)]; try rfl)), (Eq.symm (by unfold mHold; rw [hv9, inR_nI hc9 (by omega)]; try rfl))⟩  rfl (Nat.le_of_ble_eq_true rfl) (Nat.le_of_ble_eq_true rfl) dX4_holders_21

theorem hd_X4_fetched : yX4_fetched.cls = RX4 ∧ yX4_fetched.cls ≠ "java/lang/invoke/MethodHandle" ∧ yX4_fetched.cls ≠ "java/lang/invoke/VarHandle" ∧ (parseMethodDescriptor yX4_fetched.desc).map (fun d => d.parameters.length) = some 1 := by decide +kernel
set_option maxHeartbeats 4000000 in
set_option maxRecDepth 100000 in
theorem c_X4_fetched (l : Launch) (D : va_G) (g : Nat → ClassId) (h : Nat) (a : Nat → Nat) (M : MdS) (v : Int32) (hM : MOK M) (sz : Nat) : qMi l yX4_fetched (.code yX4_fetched cX4_fetched 2 (some .int) :: GW) ({ frames := 2, cells := 0, slots := 0, locals := 42 } : Room) D g [.ref h, .int v] (wM g h a M) sz (fun (r : Int32) (u : MdS) => (mFetc M v).1 = r ∧ ((mFetc M v).2) = u) (fun (u : MdS) => (wM g h a u)) 0 0 := by
  refine q_entry (cc := cX4_fetched) (nL := 2) (ret := (some .int)) rfl (by decide) (Nat.le_of_ble_eq_true rfl) (fun pp ee ss mm bb mt kc ls C hRt hLk hin hsz hW hl => ?_)
  have hl : lv_has ls 2 [(0, .ref h), (1, .int v)] := hl
  have h12 := hM.1
  have hcp1 := hM.2.2.2.2.1
  have hcp2 := hM.2.2.2.2.2.2
  refine lv_aload_n C.1 C.2.1 dX4_fetched_0 rfl (lv_at hl 0 rfl) ?_
  refine lv_iload_n C.1 C.2.1 dX4_fetched_1 rfl (lv_at hl 1 rfl) ?_
  refine q_callSi (rest := [.ref h]) C (c_X4_isCore l D g v _) (gw_S ml_X4_130 sm_X4_isCore ini_X4 cd_X4_isCore rfl) rfl rfl rfl hd_X4_isCore ⟨Nat.le_of_ble_eq_true rfl, Nat.le_of_ble_eq_true rfl⟩ hW (List.Perm.refl _) (fun (u_1 : Unit) => (wM g h a M)) (fun _ => List.Perm.refl _) hl.1 rfl (Nat.le_of_ble_eq_true rfl) ⟨Nat.le_of_ble_eq_true rfl, Nat.le_of_ble_eq_true rfl⟩ dX4_fetched_2 (fun r_1 u_1 H locs e_1 hW => ?_)
  subst e_1
  rcases hb : (inR 4 v).isSome with _ | _
  · refine q_callVi (rest := []) C (c_X4_checked_F l D g h a M hM _) (gw_V ml_X4_92 im_X4_checked se_X4_X4_checked ini_X4 cd_X4_checked rfl) rfl rfl rfl hd_X4_checked ⟨Nat.le_of_ble_eq_true rfl, Nat.le_of_ble_eq_true rfl⟩ hW pm_all (fun u_2 => (wM g h a u_2)) (fun _ => pm_all) rfl rfl hl.1 rfl (Nat.le_of_ble_eq_true rfl) ⟨Nat.le_of_ble_eq_true rfl, Nat.le_of_ble_eq_true rfl⟩ dX4_fetched_5 (fun r_2 u_2 H locs e_2 hW => ?_)
    obtain ⟨rfl, e_2⟩ := e_2
    refine q_zle (tgt := 15) C (by omega) dX4_fetched_8 (by decide) (fun c_8 => absurd c_8 (by decide)) (fun c_8 => ?_)
    refine lv_iconst (v := nI 0) C.1 C.2.1 dX4_fetched_11 (by decide) ?_
    refine lv_goto (tgt := 21) C.1 C.2.1 dX4_fetched_12 (by decide) ?_
    exact q_iret C hRt hLk hW rfl u_2 ⟨(Eq.symm (by unfold mFetc; rw [inR_none_of hb]; try rfl)), (Eq.symm (by unfold mFetc; rw [inR_none_of hb]; exact e_2.symm))⟩  rfl (Nat.le_of_ble_eq_true rfl) (Nat.le_of_ble_eq_true rfl) dX4_fetched_21
  obtain ⟨c, hc9, hv9⟩ := inR_of (by omega) hb
  rw [hv9] at hl
  have hl : lv_has ls 2 [(0, .ref h), (1, .int (nI c))] := hl
  refine q_callVi (rest := []) C (c_X4_checked_T l D g h a M hM _) (gw_V ml_X4_92 im_X4_checked se_X4_X4_checked ini_X4 cd_X4_checked rfl) rfl rfl rfl hd_X4_checked ⟨Nat.le_of_ble_eq_true rfl, Nat.le_of_ble_eq_true rfl⟩ hW pm_all (fun u_3 => (wM g h a u_3)) (fun _ => pm_all) rfl rfl hl.1 rfl (Nat.le_of_ble_eq_true rfl) ⟨Nat.le_of_ble_eq_true rfl, Nat.le_of_ble_eq_true rfl⟩ dX4_fetched_5 (fun r_3 u_3 H locs e_3 hW => ?_)
  obtain ⟨rfl, e_3⟩ := e_3
  subst e_3
  have hMu : MOK (sTh M 0) := hM.same ⟨rfl, rfl, rfl, rfl, rfl⟩
  have hAu : mAc (sTh M 0) = mAc M := rfl
  have hNu : mNm (sTh M 0) = mNm M := rfl
  have hCu : mCp (sTh M 0) = mCp M := rfl
  refine q_zle (tgt := 15) C (by omega) dX4_fetched_8 (by decide) (fun c_8 => ?_) (fun c_8 => absurd c_8 (by decide))
  refine lv_aload_n C.1 C.2.1 dX4_fetched_15 rfl (lv_at hl 0 rfl) ?_
  refine q_get (v := .ref (a 10)) C hW 0 rfl rfl 10 (by decide) gu_X4 (C.2.2.2.2 _ fl_X4_42) rfl rfl dX4_fetched_16 ?_
  refine lv_iload_n C.1 C.2.1 dX4_fetched_19 rfl (lv_at hl 1 rfl) ?_
  refine q_iald (f := mFe (sTh M 0)) C hW 11 rfl (k := c) (by omega) (by decide) dX4_fetched_20 ?_
  exact q_iret C hRt hLk hW rfl (sTh M 0) ⟨(Eq.symm (by unfold mFetc; rw [hv9, inR_nI hc9 (by omega)]; try rfl)), (Eq.symm (by unfold mFetc; rw [hv9, inR_nI hc9 (by omega)]; try rfl))⟩  rfl (Nat.le_of_ble_eq_true rfl) (Nat.le_of_ble_eq_true rfl) dX4_fetched_21

theorem hd_X4_useful : yX4_useful.cls = RX4 ∧ yX4_useful.cls ≠ "java/lang/invoke/MethodHandle" ∧ yX4_useful.cls ≠ "java/lang/invoke/VarHandle" ∧ (parseMethodDescriptor yX4_useful.desc).map (fun d => d.parameters.length) = some 1 := by decide +kernel
set_option maxHeartbeats 4000000 in
set_option maxRecDepth 100000 in
theorem c_X4_useful (l : Launch) (D : va_G) (g : Nat → ClassId) (h : Nat) (a : Nat → Nat) (M : MdS) (v : Int32) (hM : MOK M) (sz : Nat) : qMi l yX4_useful (.code yX4_useful cX4_useful 2 (some .int) :: GW) ({ frames := 2, cells := 0, slots := 0, locals := 42 } : Room) D g [.ref h, .int v] (wM g h a M) sz (fun (r : Int32) (u : MdS) => (mUsef M v).1 = r ∧ ((mUsef M v).2) = u) (fun (u : MdS) => (wM g h a u)) 0 0 := by
  refine q_entry (cc := cX4_useful) (nL := 2) (ret := (some .int)) rfl (by decide) (Nat.le_of_ble_eq_true rfl) (fun pp ee ss mm bb mt kc ls C hRt hLk hin hsz hW hl => ?_)
  have hl : lv_has ls 2 [(0, .ref h), (1, .int v)] := hl
  have h12 := hM.1
  have hcp1 := hM.2.2.2.2.1
  have hcp2 := hM.2.2.2.2.2.2
  refine lv_aload_n C.1 C.2.1 dX4_useful_0 rfl (lv_at hl 0 rfl) ?_
  refine lv_iload_n C.1 C.2.1 dX4_useful_1 rfl (lv_at hl 1 rfl) ?_
  refine q_callSi (rest := [.ref h]) C (c_X4_isCore l D g v _) (gw_S ml_X4_130 sm_X4_isCore ini_X4 cd_X4_isCore rfl) rfl rfl rfl hd_X4_isCore ⟨Nat.le_of_ble_eq_true rfl, Nat.le_of_ble_eq_true rfl⟩ hW (List.Perm.refl _) (fun (u_1 : Unit) => (wM g h a M)) (fun _ => List.Perm.refl _) hl.1 rfl (Nat.le_of_ble_eq_true rfl) ⟨Nat.le_of_ble_eq_true rfl, Nat.le_of_ble_eq_true rfl⟩ dX4_useful_2 (fun r_1 u_1 H locs e_1 hW => ?_)
  subst e_1
  rcases hb : (inR 4 v).isSome with _ | _
  · refine q_callVi (rest := []) C (c_X4_checked_F l D g h a M hM _) (gw_V ml_X4_92 im_X4_checked se_X4_X4_checked ini_X4 cd_X4_checked rfl) rfl rfl rfl hd_X4_checked ⟨Nat.le_of_ble_eq_true rfl, Nat.le_of_ble_eq_true rfl⟩ hW pm_all (fun u_2 => (wM g h a u_2)) (fun _ => pm_all) rfl rfl hl.1 rfl (Nat.le_of_ble_eq_true rfl) ⟨Nat.le_of_ble_eq_true rfl, Nat.le_of_ble_eq_true rfl⟩ dX4_useful_5 (fun r_2 u_2 H locs e_2 hW => ?_)
    obtain ⟨rfl, e_2⟩ := e_2
    refine q_zle (tgt := 15) C (by omega) dX4_useful_8 (by decide) (fun c_8 => absurd c_8 (by decide)) (fun c_8 => ?_)
    refine lv_iconst (v := nI 0) C.1 C.2.1 dX4_useful_11 (by decide) ?_
    refine lv_goto (tgt := 21) C.1 C.2.1 dX4_useful_12 (by decide) ?_
    exact q_iret C hRt hLk hW rfl u_2 ⟨(Eq.symm (by unfold mUsef; rw [inR_none_of hb]; try rfl)), (Eq.symm (by unfold mUsef; rw [inR_none_of hb]; exact e_2.symm))⟩  rfl (Nat.le_of_ble_eq_true rfl) (Nat.le_of_ble_eq_true rfl) dX4_useful_21
  obtain ⟨c, hc9, hv9⟩ := inR_of (by omega) hb
  rw [hv9] at hl
  have hl : lv_has ls 2 [(0, .ref h), (1, .int (nI c))] := hl
  refine q_callVi (rest := []) C (c_X4_checked_T l D g h a M hM _) (gw_V ml_X4_92 im_X4_checked se_X4_X4_checked ini_X4 cd_X4_checked rfl) rfl rfl rfl hd_X4_checked ⟨Nat.le_of_ble_eq_true rfl, Nat.le_of_ble_eq_true rfl⟩ hW pm_all (fun u_3 => (wM g h a u_3)) (fun _ => pm_all) rfl rfl hl.1 rfl (Nat.le_of_ble_eq_true rfl) ⟨Nat.le_of_ble_eq_true rfl, Nat.le_of_ble_eq_true rfl⟩ dX4_useful_5 (fun r_3 u_3 H locs e_3 hW => ?_)
  obtain ⟨rfl, e_3⟩ := e_3
  subst e_3
  have hMu : MOK (sTh M 0) := hM.same ⟨rfl, rfl, rfl, rfl, rfl⟩
  have hAu : mAc (sTh M 0) = mAc M := rfl
  have hNu : mNm (sTh M 0) = mNm M := rfl
  have hCu : mCp (sTh M 0) = mCp M := rfl
  refine q_zle (tgt := 15) C (by omega) dX4_useful_8 (by decide) (fun c_8 => ?_) (fun c_8 => absurd c_8 (by decide))
  refine lv_aload_n C.1 C.2.1 dX4_useful_15 rfl (lv_at hl 0 rfl) ?_
  refine q_get (v := .ref (a 11)) C hW 0 rfl rfl 11 (by decide) gu_X4 (C.2.2.2.2 _ fl_X4_45) rfl rfl dX4_useful_16 ?_
  refine lv_iload_n C.1 C.2.1 dX4_useful_19 rfl (lv_at hl 1 rfl) ?_
  refine q_iald (f := mUf (sTh M 0)) C hW 12 rfl (k := c) (by omega) (by decide) dX4_useful_20 ?_
  exact q_iret C hRt hLk hW rfl (sTh M 0) ⟨(Eq.symm (by unfold mUsef; rw [hv9, inR_nI hc9 (by omega)]; try rfl)), (Eq.symm (by unfold mUsef; rw [hv9, inR_nI hc9 (by omega)]; try rfl))⟩  rfl (Nat.le_of_ble_eq_true rfl) (Nat.le_of_ble_eq_true rfl) dX4_useful_21

theorem hd_X4_wrong : yX4_wrong.cls = RX4 ∧ yX4_wrong.cls ≠ "java/lang/invoke/MethodHandle" ∧ yX4_wrong.cls ≠ "java/lang/invoke/VarHandle" ∧ (parseMethodDescriptor yX4_wrong.desc).map (fun d => d.parameters.length) = some 1 := by decide +kernel
set_option maxHeartbeats 4000000 in
set_option maxRecDepth 100000 in
theorem c_X4_wrong (l : Launch) (D : va_G) (g : Nat → ClassId) (h : Nat) (a : Nat → Nat) (M : MdS) (v : Int32) (hM : MOK M) (sz : Nat) : qMi l yX4_wrong (.code yX4_wrong cX4_wrong 2 (some .int) :: GW) ({ frames := 2, cells := 0, slots := 0, locals := 42 } : Room) D g [.ref h, .int v] (wM g h a M) sz (fun (r : Int32) (u : MdS) => (mWron M v).1 = r ∧ ((mWron M v).2) = u) (fun (u : MdS) => (wM g h a u)) 0 0 := by
  refine q_entry (cc := cX4_wrong) (nL := 2) (ret := (some .int)) rfl (by decide) (Nat.le_of_ble_eq_true rfl) (fun pp ee ss mm bb mt kc ls C hRt hLk hin hsz hW hl => ?_)
  have hl : lv_has ls 2 [(0, .ref h), (1, .int v)] := hl
  have h12 := hM.1
  have hcp1 := hM.2.2.2.2.1
  have hcp2 := hM.2.2.2.2.2.2
  refine lv_aload_n C.1 C.2.1 dX4_wrong_0 rfl (lv_at hl 0 rfl) ?_
  refine lv_iload_n C.1 C.2.1 dX4_wrong_1 rfl (lv_at hl 1 rfl) ?_
  refine q_callSi (rest := [.ref h]) C (c_X4_isCore l D g v _) (gw_S ml_X4_130 sm_X4_isCore ini_X4 cd_X4_isCore rfl) rfl rfl rfl hd_X4_isCore ⟨Nat.le_of_ble_eq_true rfl, Nat.le_of_ble_eq_true rfl⟩ hW (List.Perm.refl _) (fun (u_1 : Unit) => (wM g h a M)) (fun _ => List.Perm.refl _) hl.1 rfl (Nat.le_of_ble_eq_true rfl) ⟨Nat.le_of_ble_eq_true rfl, Nat.le_of_ble_eq_true rfl⟩ dX4_wrong_2 (fun r_1 u_1 H locs e_1 hW => ?_)
  subst e_1
  rcases hb : (inR 4 v).isSome with _ | _
  · refine q_callVi (rest := []) C (c_X4_checked_F l D g h a M hM _) (gw_V ml_X4_92 im_X4_checked se_X4_X4_checked ini_X4 cd_X4_checked rfl) rfl rfl rfl hd_X4_checked ⟨Nat.le_of_ble_eq_true rfl, Nat.le_of_ble_eq_true rfl⟩ hW pm_all (fun u_2 => (wM g h a u_2)) (fun _ => pm_all) rfl rfl hl.1 rfl (Nat.le_of_ble_eq_true rfl) ⟨Nat.le_of_ble_eq_true rfl, Nat.le_of_ble_eq_true rfl⟩ dX4_wrong_5 (fun r_2 u_2 H locs e_2 hW => ?_)
    obtain ⟨rfl, e_2⟩ := e_2
    refine q_zle (tgt := 15) C (by omega) dX4_wrong_8 (by decide) (fun c_8 => absurd c_8 (by decide)) (fun c_8 => ?_)
    refine lv_iconst (v := nI 0) C.1 C.2.1 dX4_wrong_11 (by decide) ?_
    refine lv_goto (tgt := 21) C.1 C.2.1 dX4_wrong_12 (by decide) ?_
    exact q_iret C hRt hLk hW rfl u_2 ⟨(Eq.symm (by unfold mWron; rw [inR_none_of hb]; try rfl)), (Eq.symm (by unfold mWron; rw [inR_none_of hb]; exact e_2.symm))⟩  rfl (Nat.le_of_ble_eq_true rfl) (Nat.le_of_ble_eq_true rfl) dX4_wrong_21
  obtain ⟨c, hc9, hv9⟩ := inR_of (by omega) hb
  rw [hv9] at hl
  have hl : lv_has ls 2 [(0, .ref h), (1, .int (nI c))] := hl
  refine q_callVi (rest := []) C (c_X4_checked_T l D g h a M hM _) (gw_V ml_X4_92 im_X4_checked se_X4_X4_checked ini_X4 cd_X4_checked rfl) rfl rfl rfl hd_X4_checked ⟨Nat.le_of_ble_eq_true rfl, Nat.le_of_ble_eq_true rfl⟩ hW pm_all (fun u_3 => (wM g h a u_3)) (fun _ => pm_all) rfl rfl hl.1 rfl (Nat.le_of_ble_eq_true rfl) ⟨Nat.le_of_ble_eq_true rfl, Nat.le_of_ble_eq_true rfl⟩ dX4_wrong_5 (fun r_3 u_3 H locs e_3 hW => ?_)
  obtain ⟨rfl, e_3⟩ := e_3
  subst e_3
  have hMu : MOK (sTh M 0) := hM.same ⟨rfl, rfl, rfl, rfl, rfl⟩
  have hAu : mAc (sTh M 0) = mAc M := rfl
  have hNu : mNm (sTh M 0) = mNm M := rfl
  have hCu : mCp (sTh M 0) = mCp M := rfl
  refine q_zle (tgt := 15) C (by omega) dX4_wrong_8 (by decide) (fun c_8 => ?_) (fun c_8 => absurd c_8 (by decide))
  refine lv_aload_n C.1 C.2.1 dX4_wrong_15 rfl (lv_at hl 0 rfl) ?_
  refine q_get (v := .ref (a 12)) C hW 0 rfl rfl 12 (by decide) gu_X4 (C.2.2.2.2 _ fl_X4_48) rfl rfl dX4_wrong_16 ?_
  refine lv_iload_n C.1 C.2.1 dX4_wrong_19 rfl (lv_at hl 1 rfl) ?_
  refine q_iald (f := mWr (sTh M 0)) C hW 13 rfl (k := c) (by omega) (by decide) dX4_wrong_20 ?_
  exact q_iret C hRt hLk hW rfl (sTh M 0) ⟨(Eq.symm (by unfold mWron; rw [hv9, inR_nI hc9 (by omega)]; try rfl)), (Eq.symm (by unfold mWron; rw [hv9, inR_nI hc9 (by omega)]; try rfl))⟩  rfl (Nat.le_of_ble_eq_true rfl) (Nat.le_of_ble_eq_true rfl) dX4_wrong_21

theorem hd_X4_setAhead : yX4_setAhead.cls = RX4 ∧ yX4_setAhead.cls ≠ "java/lang/invoke/MethodHandle" ∧ yX4_setAhead.cls ≠ "java/lang/invoke/VarHandle" ∧ (parseMethodDescriptor yX4_setAhead.desc).map (fun d => d.parameters.length) = some 2 := by decide +kernel
set_option maxHeartbeats 4000000 in
set_option maxRecDepth 100000 in
theorem c_X4_setAhead (l : Launch) (D : va_G) (g : Nat → ClassId) (h : Nat) (a : Nat → Nat) (M : MdS) (v : Int32) (b : Bool) (hM : MOK M) (sz : Nat) : qMi l yX4_setAhead (.code yX4_setAhead cX4_setAhead 4 (some .boolean) :: GW) ({ frames := 2, cells := 0, slots := 0, locals := 42 } : Room) D g [.ref h, .int v, .int (bI b)] (wM g h a M) sz (fun (r : Int32) (u : MdS) => bI ((mAhead M v b).1) = r ∧ ((mAhead M v b).2) = u) (fun (u : MdS) => (wM g h a u)) 0 0 := by
  refine q_entry (cc := cX4_setAhead) (nL := 4) (ret := (some .boolean)) rfl (by decide) (Nat.le_of_ble_eq_true rfl) (fun pp ee ss mm bb mt kc ls C hRt hLk hin hsz hW hl => ?_)
  have hl : lv_has ls 4 [(0, .ref h), (1, .int v), (2, .int (bI b))] := hl
  have h12 := hM.1
  have hcp1 := hM.2.2.2.2.1
  have hcp2 := hM.2.2.2.2.2.2
  refine lv_aload_n C.1 C.2.1 dX4_setAhead_0 rfl (lv_at hl 0 rfl) ?_
  refine lv_iload_n C.1 C.2.1 dX4_setAhead_1 rfl (lv_at hl 1 rfl) ?_
  refine q_callSi (rest := [.ref h]) C (c_X4_isCore l D g v _) (gw_S ml_X4_130 sm_X4_isCore ini_X4 cd_X4_isCore rfl) rfl rfl rfl hd_X4_isCore ⟨Nat.le_of_ble_eq_true rfl, Nat.le_of_ble_eq_true rfl⟩ hW (List.Perm.refl _) (fun (u_1 : Unit) => (wM g h a M)) (fun _ => List.Perm.refl _) hl.1 rfl (Nat.le_of_ble_eq_true rfl) ⟨Nat.le_of_ble_eq_true rfl, Nat.le_of_ble_eq_true rfl⟩ dX4_setAhead_2 (fun r_1 u_1 H locs e_1 hW => ?_)
  subst e_1
  rcases hb : (inR 4 v).isSome with _ | _
  · refine q_callVi (rest := []) C (c_X4_checked_F l D g h a M hM _) (gw_V ml_X4_92 im_X4_checked se_X4_X4_checked ini_X4 cd_X4_checked rfl) rfl rfl rfl hd_X4_checked ⟨Nat.le_of_ble_eq_true rfl, Nat.le_of_ble_eq_true rfl⟩ hW pm_all (fun u_2 => (wM g h a u_2)) (fun _ => pm_all) rfl rfl hl.1 rfl (Nat.le_of_ble_eq_true rfl) ⟨Nat.le_of_ble_eq_true rfl, Nat.le_of_ble_eq_true rfl⟩ dX4_setAhead_5 (fun r_2 u_2 H locs e_2 hW => ?_)
    obtain ⟨rfl, e_2⟩ := e_2
    refine q_zle (tgt := 13) C (by omega) dX4_setAhead_8 (by decide) (fun c_8 => absurd c_8 (by decide)) (fun c_8 => ?_)
    refine lv_iconst (v := nI 0) C.1 C.2.1 dX4_setAhead_11 (by decide) ?_
    exact q_iret C hRt hLk hW (by decide) u_2 ⟨(Eq.symm (by unfold mAhead; rw [inR_none_of hb]; try rfl)), (Eq.symm (by unfold mAhead; rw [inR_none_of hb]; exact e_2.symm))⟩  rfl (Nat.le_of_ble_eq_true rfl) (Nat.le_of_ble_eq_true rfl) dX4_setAhead_12
  obtain ⟨c, hc9, hv9⟩ := inR_of (by omega) hb
  rw [hv9] at hl
  have hl : lv_has ls 4 [(0, .ref h), (1, .int (nI c)), (2, .int (bI b))] := hl
  refine q_callVi (rest := []) C (c_X4_checked_T l D g h a M hM _) (gw_V ml_X4_92 im_X4_checked se_X4_X4_checked ini_X4 cd_X4_checked rfl) rfl rfl rfl hd_X4_checked ⟨Nat.le_of_ble_eq_true rfl, Nat.le_of_ble_eq_true rfl⟩ hW pm_all (fun u_3 => (wM g h a u_3)) (fun _ => pm_all) rfl rfl hl.1 rfl (Nat.le_of_ble_eq_true rfl) ⟨Nat.le_of_ble_eq_true rfl, Nat.le_of_ble_eq_true rfl⟩ dX4_setAhead_5 (fun r_3 u_3 H locs e_3 hW => ?_)
  obtain ⟨rfl, e_3⟩ := e_3
  subst e_3
  have hMu : MOK (sTh M 0) := hM.same ⟨rfl, rfl, rfl, rfl, rfl⟩
  have hAu : mAc (sTh M 0) = mAc M := rfl
  have hNu : mNm (sTh M 0) = mNm M := rfl
  have hCu : mCp (sTh M 0) = mCp M := rfl
  refine q_zle (tgt := 13) C (by omega) dX4_setAhead_8 (by decide) (fun c_8 => ?_) (fun c_8 => absurd c_8 (by decide))
  refine lv_aload_n C.1 C.2.1 dX4_setAhead_13 rfl (lv_at hl 0 rfl) ?_
  refine q_get (v := .ref (a 6)) C hW 0 rfl rfl 6 (by decide) gu_X4 (C.2.2.2.2 _ fl_X4_30) rfl rfl dX4_setAhead_14 ?_
  refine lv_iload_n C.1 C.2.1 dX4_setAhead_17 rfl (lv_at hl 1 rfl) ?_
  refine q_zaldB (f := mAh (sTh M 0)) C hW 7 rfl (k := c) (by omega) (by decide) dX4_setAhead_18 ?_
  refine lv_istore_n (lv' := [(3, .int (bI ((mAh (sTh M 0)) c))), (0, .ref h), (1, .int (nI c)), (2, .int (bI b))]) C.1 C.2.1 dX4_setAhead_19 rfl hl (by decide) rfl (fun ls hl => ?_)
  refine lv_aload_n C.1 C.2.1 dX4_setAhead_20 rfl (lv_at hl 1 rfl) ?_
  refine q_get (v := .ref (a 6)) C hW 0 rfl rfl 6 (by decide) gu_X4 (C.2.2.2.2 _ fl_X4_30) rfl rfl dX4_setAhead_21 ?_
  refine lv_iload_n C.1 C.2.1 dX4_setAhead_24 rfl (lv_at hl 2 rfl) ?_
  refine lv_iload_n C.1 C.2.1 dX4_setAhead_25 rfl (lv_at hl 3 rfl) ?_
  refine q_zastB C hW 7 rfl (k := c) (by omega) (by decide) (v := b) (wMc g h a (mWd (sTh M 0)) (mPl (sTh M 0)) (mSt (sTh M 0)) (mUs (sTh M 0)) (mLb (sTh M 0)) (mNw (sTh M 0)) (va_up (mAh (sTh M 0)) c b) (mMs (sTh M 0)) (mLm (sTh M 0)) (mLs (sTh M 0)) (mFe (sTh M 0)) (mUf (sTh M 0)) (mWr (sTh M 0)) (mCo (sTh M 0)) (mNa (sTh M 0)) (mCr (sTh M 0)) (mCa (sTh M 0)) (mTh (sTh M 0)) (mNm (sTh M 0)) (mAc (sTh M 0)) (mCk (sTh M 0)) (mCp (sTh M 0))) rfl dX4_setAhead_26 (fun H locs hW => ?_)
  refine lv_aload_n C.1 C.2.1 dX4_setAhead_27 rfl (lv_at hl 1 rfl) ?_
  refine q_get (v := .ref (a 7)) C hW 0 rfl rfl 7 (by decide) gu_X4 (C.2.2.2.2 _ fl_X4_33) rfl rfl dX4_setAhead_28 ?_
  refine lv_iload_n C.1 C.2.1 dX4_setAhead_31 rfl (lv_at hl 2 rfl) ?_
  refine lv_iconst (v := nI 0) C.1 C.2.1 dX4_setAhead_32 (by decide) ?_
  refine q_iast C hW 8 rfl (k := c) (by omega) (by decide) (wMc g h a (mWd (sTh M 0)) (mPl (sTh M 0)) (mSt (sTh M 0)) (mUs (sTh M 0)) (mLb (sTh M 0)) (mNw (sTh M 0)) (va_up (mAh (sTh M 0)) c b) (upd (mMs (sTh M 0)) c (nI 0)) (mLm (sTh M 0)) (mLs (sTh M 0)) (mFe (sTh M 0)) (mUf (sTh M 0)) (mWr (sTh M 0)) (mCo (sTh M 0)) (mNa (sTh M 0)) (mCr (sTh M 0)) (mCa (sTh M 0)) (mTh (sTh M 0)) (mNm (sTh M 0)) (mAc (sTh M 0)) (mCk (sTh M 0)) (mCp (sTh M 0))) rfl dX4_setAhead_33 (fun H locs hW => ?_)
  refine lv_aload_n C.1 C.2.1 dX4_setAhead_34 rfl (lv_at hl 1 rfl) ?_
  refine q_get (v := .ref (a 9)) C hW 0 rfl rfl 9 (by decide) gu_X4 (C.2.2.2.2 _ fl_X4_39) rfl rfl dX4_setAhead_35 ?_
  refine lv_iload_n C.1 C.2.1 dX4_setAhead_38 rfl (lv_at hl 2 rfl) ?_
  refine lv_iconst (v := nI 0) C.1 C.2.1 dX4_setAhead_39 (by decide) ?_
  refine q_iast C hW 10 rfl (k := c) (by omega) (by decide) (wMc g h a (mWd (sTh M 0)) (mPl (sTh M 0)) (mSt (sTh M 0)) (mUs (sTh M 0)) (mLb (sTh M 0)) (mNw (sTh M 0)) (va_up (mAh (sTh M 0)) c b) (upd (mMs (sTh M 0)) c (nI 0)) (mLm (sTh M 0)) (upd (mLs (sTh M 0)) c (nI 0)) (mFe (sTh M 0)) (mUf (sTh M 0)) (mWr (sTh M 0)) (mCo (sTh M 0)) (mNa (sTh M 0)) (mCr (sTh M 0)) (mCa (sTh M 0)) (mTh (sTh M 0)) (mNm (sTh M 0)) (mAc (sTh M 0)) (mCk (sTh M 0)) (mCp (sTh M 0))) rfl dX4_setAhead_40 (fun H locs hW => ?_)
  refine lv_iload_n C.1 C.2.1 dX4_setAhead_41 rfl (lv_at hl 0 rfl) ?_
  exact q_iret C hRt hLk hW (narB _) (mWd (sTh M 0), mPl (sTh M 0), mSt (sTh M 0), mUs (sTh M 0), mLb (sTh M 0), mNw (sTh M 0), va_up (mAh (sTh M 0)) c b, upd (mMs (sTh M 0)) c (nI 0), mLm (sTh M 0), upd (mLs (sTh M 0)) c (nI 0), mFe (sTh M 0), mUf (sTh M 0), mWr (sTh M 0), mCo (sTh M 0), mNa (sTh M 0), mCr (sTh M 0), mCa (sTh M 0), mTh (sTh M 0), mNm (sTh M 0), mAc (sTh M 0), mCk (sTh M 0), mCp (sTh M 0)) ⟨(Eq.symm (by unfold mAhead; rw [hv9, inR_nI hc9 (by omega)]; try rfl)), (Eq.symm (by unfold mAhead; rw [hv9, inR_nI hc9 (by omega)]; try rfl))⟩  rfl (Nat.le_of_ble_eq_true rfl) (Nat.le_of_ble_eq_true rfl) dX4_setAhead_42
