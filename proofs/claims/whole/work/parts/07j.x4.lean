theorem hd_X4_empty : yX4_empty.cls = RX4 ∧ yX4_empty.cls ≠ "java/lang/invoke/MethodHandle" ∧ yX4_empty.cls ≠ "java/lang/invoke/VarHandle" ∧ (parseMethodDescriptor yX4_empty.desc).map (fun d => d.parameters.length) = some 1 := by decide +kernel
set_option maxHeartbeats 4000000 in
set_option maxRecDepth 100000 in
theorem c_X4_empty (l : Launch) (D : va_G) (g : Nat → ClassId) (h : Nat) (a : Nat → Nat) (M : MdS) (v : Int32) (hM : MOK M) (sz : Nat) : qMi l yX4_empty (.code yX4_empty cX4_empty 4 (some .int) :: GW) ({ frames := 2, cells := 0, slots := 0, locals := 45 } : Room) D g [.ref h, .int v] (wM g h a M) sz (fun (r : Int32) (u : MdS) => nI ((mEmpty M v).1) = r ∧ ((mEmpty M v).2) = u) (fun (u : MdS) => (wM g h a u)) 0 0 := by
  refine q_entry (cc := cX4_empty) (nL := 4) (ret := (some .int)) rfl (by decide) (Nat.le_of_ble_eq_true rfl) (fun pp ee ss mm bb mt kc ls C hRt hLk hin hsz hW hl => ?_)
  have hl : lv_has ls 4 [(0, .ref h), (1, .int v)] := hl
  have h12 := hM.1
  have hcp1 := hM.2.2.2.2.1
  have hcp2 := hM.2.2.2.2.2.2
  refine lv_aload_n C.1 C.2.1 dX4_empty_0 rfl (lv_at hl 0 rfl) ?_
  refine lv_iload_n C.1 C.2.1 dX4_empty_1 rfl (lv_at hl 1 rfl) ?_
  refine q_callSi (rest := [.ref h]) C (c_X4_isCore l D g v _) (gw_S ml_X4_130 sm_X4_isCore ini_X4 cd_X4_isCore rfl) rfl rfl rfl hd_X4_isCore ⟨Nat.le_of_ble_eq_true rfl, Nat.le_of_ble_eq_true rfl⟩ hW (List.Perm.refl _) (fun (u_1 : Unit) => (wM g h a M)) (fun _ => List.Perm.refl _) hl.1 rfl (Nat.le_of_ble_eq_true rfl) ⟨Nat.le_of_ble_eq_true rfl, Nat.le_of_ble_eq_true rfl⟩ dX4_empty_2 (fun r_1 u_1 H locs e_1 hW => ?_)
  subst e_1
  rcases hb : (inR 4 v).isSome with _ | _
  · refine q_callVi (rest := []) C (c_X4_checked_F l D g h a M hM _) (gw_V ml_X4_92 im_X4_checked se_X4_X4_checked ini_X4 cd_X4_checked rfl) rfl rfl rfl hd_X4_checked ⟨Nat.le_of_ble_eq_true rfl, Nat.le_of_ble_eq_true rfl⟩ hW pm_all (fun u_2 => (wM g h a u_2)) (fun _ => pm_all) rfl rfl hl.1 rfl (Nat.le_of_ble_eq_true rfl) ⟨Nat.le_of_ble_eq_true rfl, Nat.le_of_ble_eq_true rfl⟩ dX4_empty_5 (fun r_2 u_2 H locs e_2 hW => ?_)
    obtain ⟨rfl, e_2⟩ := e_2
    refine q_zle (tgt := 13) C (by omega) dX4_empty_8 (by decide) (fun c_8 => absurd c_8 (by decide)) (fun c_8 => ?_)
    refine lv_iconst (v := nI 0) C.1 C.2.1 dX4_empty_11 (by decide) ?_
    exact q_iret C hRt hLk hW rfl u_2 ⟨(Eq.symm (by unfold mEmpty; rw [inR_none_of hb]; try rfl)), (Eq.symm (by unfold mEmpty; rw [inR_none_of hb]; exact e_2.symm))⟩  rfl (Nat.le_of_ble_eq_true rfl) (Nat.le_of_ble_eq_true rfl) dX4_empty_12
  obtain ⟨c, hc9, hv9⟩ := inR_of (by omega) hb
  rw [hv9] at hl
  have hl : lv_has ls 4 [(0, .ref h), (1, .int (nI c))] := hl
  refine q_callVi (rest := []) C (c_X4_checked_T l D g h a M hM _) (gw_V ml_X4_92 im_X4_checked se_X4_X4_checked ini_X4 cd_X4_checked rfl) rfl rfl rfl hd_X4_checked ⟨Nat.le_of_ble_eq_true rfl, Nat.le_of_ble_eq_true rfl⟩ hW pm_all (fun u_3 => (wM g h a u_3)) (fun _ => pm_all) rfl rfl hl.1 rfl (Nat.le_of_ble_eq_true rfl) ⟨Nat.le_of_ble_eq_true rfl, Nat.le_of_ble_eq_true rfl⟩ dX4_empty_5 (fun r_3 u_3 H locs e_3 hW => ?_)
  obtain ⟨rfl, e_3⟩ := e_3
  have hMu : MOK u_3 := by rw [← e_3]; exact hM.same ⟨rfl, rfl, rfl, rfl, rfl⟩
  have hAu : mAc u_3 = mAc M := by rw [← e_3]
  have hNu : mNm u_3 = mNm M := by rw [← e_3]
  have hCu : mCp u_3 = mCp M := by rw [← e_3]
  obtain ⟨U9, hU9⟩ : ∃ U9, U9 = u_3 := ⟨_, rfl⟩
  rw [← hU9] at hW hMu hAu hNu hCu e_3
  refine q_zle (tgt := 13) C (by omega) dX4_empty_8 (by decide) (fun c_8 => ?_) (fun c_8 => absurd c_8 (by decide))
  refine lv_iconst (v := nI 0) C.1 C.2.1 dX4_empty_13 (by decide) ?_
  refine lv_istore_n (lv' := [(2, .int (nI 0)), (0, .ref h), (1, .int (nI c))]) C.1 C.2.1 dX4_empty_14 rfl hl (by decide) rfl (fun ls hl => ?_)
  refine lv_iconst (v := nI 0) C.1 C.2.1 dX4_empty_15 (by decide) ?_
  refine lv_istore_n (lv' := [(3, .int (nI 0)), (2, .int (nI 0)), (0, .ref h), (1, .int (nI c))]) C.1 C.2.1 dX4_empty_16 rfl hl (by decide) rfl (fun ls hl => ?_)
  have L_17 : ∀ (nf : Nat) (i : Nat) (hi : i ≤ 64) (x2 : Int32) (e2 : x2 = nI ((mEmN U9 c i).1)) (x3 : Int32) (e3 : x3 = nI i) (M2 : MdS) (eM2 : M2 = (mEmN U9 c i).2) (hmu : 64 - i < nf) (ls : Array Slot) (H : Heap) (locs : List Loc), lv_has ls 4 [(0, .ref h), (1, .int (nI c)), (2, .int x2), (3, .int x3)] → qW D g (va_A (wM g h a M) sz) ss.heap ss (wM g h a M2) H locs → W pp l ee ({ frames := 2, cells := 0, slots := 0, locals := 45 } : Room) ss mm [.ref h, .int v].toArray bb mt kc H locs 0 0 (MQ bb (va_Qi (fun (r : Int32) (u : MdS) => nI ((mEmpty M v).1) = r ∧ ((mEmpty M v).2) = u) (qB D g (wM g h a M) sz (fun (u : MdS) => (wM g h a u))) (va_A (wM g h a M) sz)) [.ref h, .int v].toArray ss 0 0 (va_A (wM g h a M) sz)) (F0 mm 17 ls []) := by
    intro nf
    induction nf with
    | zero =>
      intro i hi x2 e2 x3 e3 M2 eM2 hmu ls H locs hl hW
      exact absurd hmu (by omega)
    | succ nf ih =>
      intro i hi x2 e2 x3 e3 M2 eM2 hmu ls H locs hl hW
      subst e2
      subst e3
      refine lv_iload_n C.1 C.2.1 dX4_empty_17 rfl (lv_at hl 3 rfl) ?_
      refine lv_bipush (v := nI 64) C.1 C.2.1 dX4_empty_18 (by decide) ?_
      have hM2 : MOK M2 := by rw [eM2]; exact hMu.same (mSame_em _ _ _)
      refine q_ge (tgt := 72) C (by omega) (by omega) dX4_empty_20 (by decide) (fun c_20 => ?_) (fun c_20 => ?_)
      · refine lv_iload_n C.1 C.2.1 dX4_empty_72 rfl (lv_at hl 2 rfl) ?_
        exact q_iret C hRt hLk hW rfl M2 ⟨(Eq.symm (by unfold mEmpty; rw [hv9, inR_nI hc9 (by omega)]; dsimp only; rw [e_3]; obtain rfl : i = 64 := (by omega); rfl)), (Eq.symm (by unfold mEmpty; rw [hv9, inR_nI hc9 (by omega)]; dsimp only; rw [e_3]; obtain rfl : i = 64 := (by omega); exact eM2))⟩  rfl (Nat.le_of_ble_eq_true rfl) (Nat.le_of_ble_eq_true rfl) dX4_empty_73
      refine lv_aload_n C.1 C.2.1 dX4_empty_23 rfl (lv_at hl 0 rfl) ?_
      refine lv_iload_n C.1 C.2.1 dX4_empty_24 rfl (lv_at hl 1 rfl) ?_
      refine lv_iload_n C.1 C.2.1 dX4_empty_25 rfl (lv_at hl 3 rfl) ?_
      refine q_callVi (rest := []) C (c_X4_has l D g h a M2 c i hM2 (by omega) (by omega) _) (gw_V ml_X4_103 im_X4_has se_X4_X4_has ini_X4 cd_X4_has rfl) rfl rfl rfl hd_X4_has ⟨Nat.le_of_ble_eq_true rfl, Nat.le_of_ble_eq_true rfl⟩ hW pm_all (fun u_4 => (wM g h a u_4)) (fun _ => pm_all) rfl rfl hl.1 rfl (Nat.le_of_ble_eq_true rfl) ⟨Nat.le_of_ble_eq_true rfl, Nat.le_of_ble_eq_true rfl⟩ dX4_empty_26 (fun r_4 u_4 H locs e_4 hW => ?_)
      obtain ⟨rfl, rfl⟩ := e_4
      refine q_bf (b := hasM M2 (64 * c + i)) (tgt := 35) C dX4_empty_29 (by decide) (fun c_29 => ?_) (fun c_29 => ?_)
      · refine lv_iload_n C.1 C.2.1 dX4_empty_35 rfl (lv_at hl 2 rfl) ?_
        refine lv_aload_n C.1 C.2.1 dX4_empty_36 rfl (lv_at hl 0 rfl) ?_
        refine q_get (v := .ref (a 2)) C hW 0 rfl rfl 2 (by decide) gu_X4 (C.2.2.2.2 _ fl_X4_16) rfl rfl dX4_empty_37 ?_
        refine lv_iload_n C.1 C.2.1 dX4_empty_40 rfl (lv_at hl 1 rfl) ?_
        refine lv_iload_n C.1 C.2.1 dX4_empty_41 rfl (lv_at hl 3 rfl) ?_
        refine q_callSi (rest := [.ref (a 2), .int (nI ((mEmN U9 c i).1))]) C (c_X4_at l D g c i _) (gw_S ml_X4_100 sm_X4_at ini_X4 cd_X4_at rfl) rfl rfl rfl hd_X4_at ⟨Nat.le_of_ble_eq_true rfl, Nat.le_of_ble_eq_true rfl⟩ hW (List.Perm.refl _) (fun (u_5 : Unit) => (wM g h a M2)) (fun _ => List.Perm.refl _) hl.1 rfl (Nat.le_of_ble_eq_true rfl) ⟨Nat.le_of_ble_eq_true rfl, Nat.le_of_ble_eq_true rfl⟩ dX4_empty_42 (fun r_5 u_5 H locs e_5 hW => ?_)
        subst e_5
        refine q_caldC (f := mSt M2) C hW 3 rfl (k := 64 * c + i) (by omega) (by decide) dX4_empty_45 ?_
        refine lv_bipush (v := nI 109) C.1 C.2.1 dX4_empty_46 (by decide) ?_
        refine q_cne (tgt := 55) (y := 109) C (by decide) dX4_empty_48 (by decide) (fun c_48 => ?_) (fun c_48 => ?_)
        · refine lv_iconst (v := nI 0) C.1 C.2.1 dX4_empty_55 (by decide) ?_
          refine q_iadd C dX4_empty_56 ?_
          refine lv_istore_n (lv' := [(2, .int (nI ((mEmN U9 c i).1 + 0))), (0, .ref h), (1, .int (nI c)), (3, .int (nI i))]) C.1 C.2.1 dX4_empty_57 rfl hl (by decide) rfl (fun ls hl => ?_)
          refine lv_aload_n C.1 C.2.1 dX4_empty_58 rfl (lv_at hl 1 rfl) ?_
          refine lv_iload_n C.1 C.2.1 dX4_empty_59 rfl (lv_at hl 2 rfl) ?_
          refine lv_iload_n C.1 C.2.1 dX4_empty_60 rfl (lv_at hl 3 rfl) ?_
          refine lv_bipush (v := (-2)) C.1 C.2.1 dX4_empty_61 (by decide) ?_
          refine q_callVv (rest := []) C (c_X4_leaves l D g h a M2 c i (-2) hM2 (by omega) (by omega) _) (gw_V ml_X4_112 im_X4_leaves se_X4_X4_leaves ini_X4 cd_X4_leaves rfl) rfl rfl rfl hd_X4_leaves ⟨Nat.le_of_ble_eq_true rfl, Nat.le_of_ble_eq_true rfl⟩ hW pm_all (fun u_6 => (wM g h a u_6)) (fun _ => pm_all) rfl rfl hl.1 rfl (Nat.le_of_ble_eq_true rfl) ⟨Nat.le_of_ble_eq_true rfl, Nat.le_of_ble_eq_true rfl⟩ dX4_empty_63 (fun u_6 H locs e_6 hW => ?_)
          skip
          refine q_iinc (d := 1) (lv' := [(3, .int (nI (i + 1))), (2, .int (nI ((mEmN U9 c i).1 + 0))), (0, .ref h), (1, .int (nI c))]) C dX4_empty_66 (by decide) hl (k := 3) rfl (by decide) rfl (fun ls hl => ?_)
          refine lv_goto (tgt := 17) C.1 C.2.1 dX4_empty_69 (by decide) ?_
          exact ih (i + 1) (by omega) _ (by rw [mEmN, if_pos (by rw [← eM2]; exact c_29)]; dsimp only; rw [← eM2, if_neg c_48]) _ rfl u_6 (by rw [mEmN, if_pos (by rw [← eM2]; exact c_29)]; dsimp only; rw [← eM2]; exact e_6.symm) (by omega) ls _ _ (lv_sub hl [2, 3, 1, 0] rfl) hW
        refine lv_iconst (v := nI 1) C.1 C.2.1 dX4_empty_51 (by decide) ?_
        refine lv_goto (tgt := 56) C.1 C.2.1 dX4_empty_52 (by decide) ?_
        refine q_iadd C dX4_empty_56 ?_
        refine lv_istore_n (lv' := [(2, .int (nI ((mEmN U9 c i).1 + 1))), (0, .ref h), (1, .int (nI c)), (3, .int (nI i))]) C.1 C.2.1 dX4_empty_57 rfl hl (by decide) rfl (fun ls hl => ?_)
        refine lv_aload_n C.1 C.2.1 dX4_empty_58 rfl (lv_at hl 1 rfl) ?_
        refine lv_iload_n C.1 C.2.1 dX4_empty_59 rfl (lv_at hl 2 rfl) ?_
        refine lv_iload_n C.1 C.2.1 dX4_empty_60 rfl (lv_at hl 3 rfl) ?_
        refine lv_bipush (v := (-2)) C.1 C.2.1 dX4_empty_61 (by decide) ?_
        refine q_callVv (rest := []) C (c_X4_leaves l D g h a M2 c i (-2) hM2 (by omega) (by omega) _) (gw_V ml_X4_112 im_X4_leaves se_X4_X4_leaves ini_X4 cd_X4_leaves rfl) rfl rfl rfl hd_X4_leaves ⟨Nat.le_of_ble_eq_true rfl, Nat.le_of_ble_eq_true rfl⟩ hW pm_all (fun u_7 => (wM g h a u_7)) (fun _ => pm_all) rfl rfl hl.1 rfl (Nat.le_of_ble_eq_true rfl) ⟨Nat.le_of_ble_eq_true rfl, Nat.le_of_ble_eq_true rfl⟩ dX4_empty_63 (fun u_7 H locs e_7 hW => ?_)
        skip
        refine q_iinc (d := 1) (lv' := [(3, .int (nI (i + 1))), (2, .int (nI ((mEmN U9 c i).1 + 1))), (0, .ref h), (1, .int (nI c))]) C dX4_empty_66 (by decide) hl (k := 3) rfl (by decide) rfl (fun ls hl => ?_)
        refine lv_goto (tgt := 17) C.1 C.2.1 dX4_empty_69 (by decide) ?_
        exact ih (i + 1) (by omega) _ (by rw [mEmN, if_pos (by rw [← eM2]; exact c_29)]; dsimp only; rw [← eM2, if_pos c_48]) _ rfl u_7 (by rw [mEmN, if_pos (by rw [← eM2]; exact c_29)]; dsimp only; rw [← eM2]; exact e_7.symm) (by omega) ls _ _ (lv_sub hl [2, 3, 1, 0] rfl) hW
      refine lv_goto (tgt := 66) C.1 C.2.1 dX4_empty_32 (by decide) ?_
      refine q_iinc (d := 1) (lv' := [(3, .int (nI (i + 1))), (0, .ref h), (1, .int (nI c)), (2, .int (nI ((mEmN U9 c i).1)))]) C dX4_empty_66 (by decide) hl (k := 3) rfl (by decide) rfl (fun ls hl => ?_)
      refine lv_goto (tgt := 17) C.1 C.2.1 dX4_empty_69 (by decide) ?_
      exact ih (i + 1) (by omega) _ (by rw [mEmN, if_neg (by rw [← eM2, c_29]; decide)]) _ rfl M2 (by rw [mEmN, if_neg (by rw [← eM2, c_29]; decide)]; exact eM2) (by omega) ls _ _ (lv_sub hl [1, 2, 3, 0] rfl) hW
  exact L_17 (64 - 0 + 1) 0 (by omega) _ rfl _ rfl U9 rfl (by omega) ls _ _ (lv_sub hl [2, 3, 1, 0] rfl) hW

theorem hd_X4_lines : yX4_lines.cls = RX4 ∧ yX4_lines.cls ≠ "java/lang/invoke/MethodHandle" ∧ yX4_lines.cls ≠ "java/lang/invoke/VarHandle" ∧ (parseMethodDescriptor yX4_lines.desc).map (fun d => d.parameters.length) = some 1 := by decide +kernel
set_option maxHeartbeats 4000000 in
set_option maxRecDepth 100000 in
theorem c_X4_lines (l : Launch) (D : va_G) (g : Nat → ClassId) (h : Nat) (a : Nat → Nat) (M : MdS) (v : Int32) (hM : MOK M) (sz : Nat) : qMi l yX4_lines (.code yX4_lines cX4_lines 4 (some .int) :: GW) ({ frames := 3, cells := 0, slots := 0, locals := 67 } : Room) D g [.ref h, .int v] (wM g h a M) sz (fun (r : Int32) (u : MdS) => nI ((mLines M v).1) = r ∧ ((mLines M v).2) = u) (fun (u : MdS) => (wM g h a u)) 0 0 := by
  refine q_entry (cc := cX4_lines) (nL := 4) (ret := (some .int)) rfl (by decide) (Nat.le_of_ble_eq_true rfl) (fun pp ee ss mm bb mt kc ls C hRt hLk hin hsz hW hl => ?_)
  have hl : lv_has ls 4 [(0, .ref h), (1, .int v)] := hl
  have h12 := hM.1
  have hcp1 := hM.2.2.2.2.1
  have hcp2 := hM.2.2.2.2.2.2
  refine lv_aload_n C.1 C.2.1 dX4_lines_0 rfl (lv_at hl 0 rfl) ?_
  refine lv_iload_n C.1 C.2.1 dX4_lines_1 rfl (lv_at hl 1 rfl) ?_
  refine q_callSi (rest := [.ref h]) C (c_X4_isCore l D g v _) (gw_S ml_X4_130 sm_X4_isCore ini_X4 cd_X4_isCore rfl) rfl rfl rfl hd_X4_isCore ⟨Nat.le_of_ble_eq_true rfl, Nat.le_of_ble_eq_true rfl⟩ hW (List.Perm.refl _) (fun (u_1 : Unit) => (wM g h a M)) (fun _ => List.Perm.refl _) hl.1 rfl (Nat.le_of_ble_eq_true rfl) ⟨Nat.le_of_ble_eq_true rfl, Nat.le_of_ble_eq_true rfl⟩ dX4_lines_2 (fun r_1 u_1 H locs e_1 hW => ?_)
  subst e_1
  rcases hb : (inR 4 v).isSome with _ | _
  · refine q_callVi (rest := []) C (c_X4_checked_F l D g h a M hM _) (gw_V ml_X4_92 im_X4_checked se_X4_X4_checked ini_X4 cd_X4_checked rfl) rfl rfl rfl hd_X4_checked ⟨Nat.le_of_ble_eq_true rfl, Nat.le_of_ble_eq_true rfl⟩ hW pm_all (fun u_2 => (wM g h a u_2)) (fun _ => pm_all) rfl rfl hl.1 rfl (Nat.le_of_ble_eq_true rfl) ⟨Nat.le_of_ble_eq_true rfl, Nat.le_of_ble_eq_true rfl⟩ dX4_lines_5 (fun r_2 u_2 H locs e_2 hW => ?_)
    obtain ⟨rfl, e_2⟩ := e_2
    refine q_zle (tgt := 13) C (by omega) dX4_lines_8 (by decide) (fun c_8 => absurd c_8 (by decide)) (fun c_8 => ?_)
    refine lv_iconst (v := nI 0) C.1 C.2.1 dX4_lines_11 (by decide) ?_
    exact q_iret C hRt hLk hW rfl u_2 ⟨(Eq.symm (by unfold mLines; rw [inR_none_of hb]; try rfl)), (Eq.symm (by unfold mLines; rw [inR_none_of hb]; exact e_2.symm))⟩  rfl (Nat.le_of_ble_eq_true rfl) (Nat.le_of_ble_eq_true rfl) dX4_lines_12
  obtain ⟨c, hc9, hv9⟩ := inR_of (by omega) hb
  rw [hv9] at hl
  have hl : lv_has ls 4 [(0, .ref h), (1, .int (nI c))] := hl
  refine q_callVi (rest := []) C (c_X4_checked_T l D g h a M hM _) (gw_V ml_X4_92 im_X4_checked se_X4_X4_checked ini_X4 cd_X4_checked rfl) rfl rfl rfl hd_X4_checked ⟨Nat.le_of_ble_eq_true rfl, Nat.le_of_ble_eq_true rfl⟩ hW pm_all (fun u_3 => (wM g h a u_3)) (fun _ => pm_all) rfl rfl hl.1 rfl (Nat.le_of_ble_eq_true rfl) ⟨Nat.le_of_ble_eq_true rfl, Nat.le_of_ble_eq_true rfl⟩ dX4_lines_5 (fun r_3 u_3 H locs e_3 hW => ?_)
  obtain ⟨rfl, e_3⟩ := e_3
  have hMu : MOK u_3 := by rw [← e_3]; exact hM.same ⟨rfl, rfl, rfl, rfl, rfl⟩
  have hAu : mAc u_3 = mAc M := by rw [← e_3]
  have hNu : mNm u_3 = mNm M := by rw [← e_3]
  have hCu : mCp u_3 = mCp M := by rw [← e_3]
  obtain ⟨U9, hU9⟩ : ∃ U9, U9 = u_3 := ⟨_, rfl⟩
  rw [← hU9] at hW hMu hAu hNu hCu e_3
  refine q_zle (tgt := 13) C (by omega) dX4_lines_8 (by decide) (fun c_8 => ?_) (fun c_8 => absurd c_8 (by decide))
  refine lv_iconst (v := nI 0) C.1 C.2.1 dX4_lines_13 (by decide) ?_
  refine lv_istore_n (lv' := [(2, .int (nI 0)), (0, .ref h), (1, .int (nI c))]) C.1 C.2.1 dX4_lines_14 rfl hl (by decide) rfl (fun ls hl => ?_)
  refine lv_iconst (v := nI 0) C.1 C.2.1 dX4_lines_15 (by decide) ?_
  refine lv_istore_n (lv' := [(3, .int (nI 0)), (2, .int (nI 0)), (0, .ref h), (1, .int (nI c))]) C.1 C.2.1 dX4_lines_16 rfl hl (by decide) rfl (fun ls hl => ?_)
  have L_17 : ∀ (nf : Nat) (i : Nat) (hi : i ≤ 4) (x2 : Int32) (e2 : x2 = nI (sumN (fun s => mMany U9 c s) i)) (x3 : Int32) (e3 : x3 = nI i) (hmu : 4 - i < nf) (ls : Array Slot) (H : Heap) (locs : List Loc), lv_has ls 4 [(0, .ref h), (1, .int (nI c)), (2, .int x2), (3, .int x3)] → qW D g (va_A (wM g h a M) sz) ss.heap ss (wM g h a U9) H locs → W pp l ee ({ frames := 3, cells := 0, slots := 0, locals := 67 } : Room) ss mm [.ref h, .int v].toArray bb mt kc H locs 0 0 (MQ bb (va_Qi (fun (r : Int32) (u : MdS) => nI ((mLines M v).1) = r ∧ ((mLines M v).2) = u) (qB D g (wM g h a M) sz (fun (u : MdS) => (wM g h a u))) (va_A (wM g h a M) sz)) [.ref h, .int v].toArray ss 0 0 (va_A (wM g h a M) sz)) (F0 mm 17 ls []) := by
    intro nf
    induction nf with
    | zero =>
      intro i hi x2 e2 x3 e3 hmu ls H locs hl hW
      exact absurd hmu (by omega)
    | succ nf ih =>
      intro i hi x2 e2 x3 e3 hmu ls H locs hl hW
      subst e2
      subst e3
      refine lv_iload_n C.1 C.2.1 dX4_lines_17 rfl (lv_at hl 3 rfl) ?_
      refine lv_iconst (v := nI 4) C.1 C.2.1 dX4_lines_18 (by decide) ?_
      refine q_ge (tgt := 37) C (by omega) (by omega) dX4_lines_19 (by decide) (fun c_19 => ?_) (fun c_19 => ?_)
      · refine lv_iload_n C.1 C.2.1 dX4_lines_37 rfl (lv_at hl 2 rfl) ?_
        exact q_iret C hRt hLk hW rfl U9 ⟨(Eq.symm (by unfold mLines; rw [hv9, inR_nI hc9 (by omega)]; dsimp only; rw [e_3]; obtain rfl : i = 4 := (by omega); rfl)), (Eq.symm (by unfold mLines; rw [hv9, inR_nI hc9 (by omega)]; dsimp only; rw [e_3]))⟩  rfl (Nat.le_of_ble_eq_true rfl) (Nat.le_of_ble_eq_true rfl) dX4_lines_38
      refine lv_iload_n C.1 C.2.1 dX4_lines_22 rfl (lv_at hl 2 rfl) ?_
      refine lv_aload_n C.1 C.2.1 dX4_lines_23 rfl (lv_at hl 0 rfl) ?_
      refine lv_iload_n C.1 C.2.1 dX4_lines_24 rfl (lv_at hl 1 rfl) ?_
      refine lv_iload_n C.1 C.2.1 dX4_lines_25 rfl (lv_at hl 3 rfl) ?_
      refine q_callVi (rest := [.int (nI (sumN (fun s => mMany U9 c s) i))]) C (c_X4_manyIn l D g h a U9 c i hMu (by omega) (by omega) _) (gw_V ml_X4_106 im_X4_manyIn se_X4_X4_manyIn ini_X4 cd_X4_manyIn rfl) rfl rfl rfl hd_X4_manyIn ⟨Nat.le_of_ble_eq_true rfl, Nat.le_of_ble_eq_true rfl⟩ hW pm_all (fun u_4 => (wM g h a u_4)) (fun _ => pm_all) rfl rfl hl.1 rfl (Nat.le_of_ble_eq_true rfl) ⟨Nat.le_of_ble_eq_true rfl, Nat.le_of_ble_eq_true rfl⟩ dX4_lines_26 (fun r_4 u_4 H locs e_4 hW => ?_)
      obtain ⟨rfl, rfl⟩ := e_4
      have hs9 := sumN_le (f := fun s => mMany U9 c s) (fun s => mMany_le U9 c s) i
      have hm9 := mMany_le U9 c i
      refine q_iadd C dX4_lines_29 ?_
      refine lv_istore_n (lv' := [(2, .int (nI (sumN (fun s => mMany U9 c s) i + mMany U9 c i))), (0, .ref h), (1, .int (nI c)), (3, .int (nI i))]) C.1 C.2.1 dX4_lines_30 rfl hl (by decide) rfl (fun ls hl => ?_)
      refine q_iinc (d := 1) (lv' := [(3, .int (nI (i + 1))), (2, .int (nI (sumN (fun s => mMany U9 c s) i + mMany U9 c i))), (0, .ref h), (1, .int (nI c))]) C dX4_lines_31 (by decide) hl (k := 3) rfl (by decide) rfl (fun ls hl => ?_)
      refine lv_goto (tgt := 17) C.1 C.2.1 dX4_lines_34 (by decide) ?_
      exact ih (i + 1) (by omega) _ rfl _ rfl (by omega) ls _ _ (lv_sub hl [2, 3, 1, 0] rfl) hW
  exact L_17 (4 - 0 + 1) 0 (by omega) _ rfl _ rfl (by omega) ls _ _ (lv_sub hl [2, 3, 1, 0] rfl) hW

theorem hd_X4_billFor : yX4_billFor.cls = RX4 ∧ yX4_billFor.cls ≠ "java/lang/invoke/MethodHandle" ∧ yX4_billFor.cls ≠ "java/lang/invoke/VarHandle" ∧ (parseMethodDescriptor yX4_billFor.desc).map (fun d => d.parameters.length) = some 1 := by decide +kernel
set_option maxHeartbeats 4000000 in
set_option maxRecDepth 100000 in
theorem c_X4_billFor (l : Launch) (D : va_G) (g : Nat → ClassId) (h : Nat) (a : Nat → Nat) (M : MdS) (v : Int32) (hM : MOK M) (sz : Nat) : qMl l yX4_billFor (.code yX4_billFor cX4_billFor 5 (some .long) :: GW) ({ frames := 0, cells := 0, slots := 0, locals := 0 } : Room) D g [.ref h, .int v] (wM g h a M) sz (fun (r : Int64) (u : MdS) => mBillFor M v = r ∧ M = u) (fun (u : MdS) => (wM g h a u)) 0 0 := by
  refine q_entry (cc := cX4_billFor) (nL := 5) (ret := (some .long)) rfl (by decide) (Nat.le_of_ble_eq_true rfl) (fun pp ee ss mm bb mt kc ls C hRt hLk hin hsz hW hl => ?_)
  have hl : lv_has ls 5 [(0, .ref h), (1, .int v)] := hl
  have h12 := hM.1
  have hcp1 := hM.2.2.2.2.1
  have hcp2 := hM.2.2.2.2.2.2
  refine lv_lconst (v := 0) C.1 C.2.1 dX4_billFor_0 rfl ?_
  refine lv_lstore_n (lv' := [(2, .long 0), (0, .ref h), (1, .int v)]) C.1 C.2.1 dX4_billFor_1 rfl hl (by decide) rfl (fun ls hl => ?_)
  refine lv_iconst (v := nI 0) C.1 C.2.1 dX4_billFor_2 (by decide) ?_
  refine lv_istore (lv' := [(4, .int (nI 0)), (2, .long 0), (0, .ref h), (1, .int v)]) C.1 C.2.1 dX4_billFor_3 hl (by decide) rfl (fun ls hl => ?_)
  have L_5 : ∀ (nf : Nat) (i : Nat) (hi : i ≤ mAc M) (x2 : Int64) (e2 : x2 = mBillN M v i) (x4 : Int32) (e4 : x4 = nI i) (hmu : mAc M - i < nf) (ls : Array Slot) (H : Heap) (locs : List Loc), lv_has ls 5 [(0, .ref h), (1, .int v), (2, .long x2), (4, .int x4)] → qW D g (va_A (wM g h a M) sz) ss.heap ss (wM g h a M) H locs → W pp l ee ({ frames := 0, cells := 0, slots := 0, locals := 0 } : Room) ss mm [.ref h, .int v].toArray bb mt kc H locs 0 0 (MQ bb (va_Ql (fun (r : Int64) (u : MdS) => mBillFor M v = r ∧ M = u) (qB D g (wM g h a M) sz (fun (u : MdS) => (wM g h a u))) (va_A (wM g h a M) sz)) [.ref h, .int v].toArray ss 0 0 (va_A (wM g h a M) sz)) (F0 mm 5 ls []) := by
    intro nf
    induction nf with
    | zero =>
      intro i hi x2 e2 x4 e4 hmu ls H locs hl hW
      exact absurd hmu (by omega)
    | succ nf ih =>
      intro i hi x2 e2 x4 e4 hmu ls H locs hl hW
      subst e2
      subst e4
      refine lv_iload C.1 C.2.1 dX4_billFor_5 (lv_at hl 3 rfl) ?_
      refine lv_aload_n C.1 C.2.1 dX4_billFor_7 rfl (lv_at hl 0 rfl) ?_
      refine q_get (v := .int (nI (mAc M))) C hW 0 rfl rfl 19 (by decide) gu_X4 (C.2.2.2.2 _ fl_X4_70) rfl rfl dX4_billFor_8 ?_
      refine q_ge (tgt := 46) C (by omega) (by omega) dX4_billFor_11 (by decide) (fun c_11 => ?_) (fun c_11 => ?_)
      · refine lv_lload_n C.1 C.2.1 dX4_billFor_46 rfl (lv_at hl 2 rfl) ?_
        exact q_lret C hRt hLk hW M ⟨(Eq.symm (by obtain rfl : i = mAc M := (by omega); rfl)), rfl⟩  rfl (Nat.le_of_ble_eq_true rfl) (Nat.le_of_ble_eq_true rfl) dX4_billFor_47
      refine lv_lload_n C.1 C.2.1 dX4_billFor_14 rfl (lv_at hl 2 rfl) ?_
      refine lv_aload_n C.1 C.2.1 dX4_billFor_15 rfl (lv_at hl 0 rfl) ?_
      refine q_get (v := .ref (a 14)) C hW 0 rfl rfl 14 (by decide) gu_X4 (C.2.2.2.2 _ fl_X4_54) rfl rfl dX4_billFor_16 ?_
      refine lv_iload C.1 C.2.1 dX4_billFor_19 (lv_at hl 3 rfl) ?_
      refine q_ialdN (f := mNa M) C hW 15 rfl (k := i) (by omega) (by omega) dX4_billFor_21 ?_
      refine lv_iload_n C.1 C.2.1 dX4_billFor_22 rfl (lv_at hl 1 rfl) ?_
      refine lv_icmp_ne (tgt := 37) C.1 C.2.1 dX4_billFor_23 (by decide) (fun c_23 => ?_) (fun c_23 => ?_)
      · refine lv_lconst (v := 0) C.1 C.2.1 dX4_billFor_37 rfl ?_
        refine lv_ladd C.1 C.2.1 dX4_billFor_38 ?_
        refine lv_lstore_n (lv' := [(2, .long ((mBillN M v i) + 0)), (0, .ref h), (1, .int v), (4, .int (nI i))]) C.1 C.2.1 dX4_billFor_39 rfl hl (by decide) rfl (fun ls hl => ?_)
        refine q_iinc (d := 1) (lv' := [(4, .int (nI (i + 1))), (2, .long ((mBillN M v i) + 0)), (0, .ref h), (1, .int v)]) C dX4_billFor_40 (by decide) hl (k := 3) rfl (by decide) rfl (fun ls hl => ?_)
        refine lv_goto (tgt := 5) C.1 C.2.1 dX4_billFor_43 (by decide) ?_
        exact ih (i + 1) (by omega) _ (by unfold mBillN; rw [sumL, if_neg (by rw [decide_eq_false c_23]; decide)]) _ rfl (by omega) ls _ _ (lv_sub hl [2, 3, 1, 0] rfl) hW
      refine lv_aload_n C.1 C.2.1 dX4_billFor_26 rfl (lv_at hl 0 rfl) ?_
      refine q_get (v := .ref (a 13)) C hW 0 rfl rfl 13 (by decide) gu_X4 (C.2.2.2.2 _ fl_X4_51) rfl rfl dX4_billFor_27 ?_
      refine lv_iload C.1 C.2.1 dX4_billFor_30 (lv_at hl 3 rfl) ?_
      refine q_ialdN (f := mCo M) C hW 14 rfl (k := i) (by omega) (by omega) dX4_billFor_32 ?_
      refine lv_i2l (v := (nI ((mCo M) i)).toInt64) C.1 C.2.1 dX4_billFor_33 rfl ?_
      refine lv_goto (tgt := 38) C.1 C.2.1 dX4_billFor_34 (by decide) ?_
      refine lv_ladd C.1 C.2.1 dX4_billFor_38 ?_
      refine lv_lstore_n (lv' := [(2, .long ((mBillN M v i) + ((nI ((mCo M) i)).toInt64))), (0, .ref h), (1, .int v), (4, .int (nI i))]) C.1 C.2.1 dX4_billFor_39 rfl hl (by decide) rfl (fun ls hl => ?_)
      refine q_iinc (d := 1) (lv' := [(4, .int (nI (i + 1))), (2, .long ((mBillN M v i) + ((nI ((mCo M) i)).toInt64))), (0, .ref h), (1, .int v)]) C dX4_billFor_40 (by decide) hl (k := 3) rfl (by decide) rfl (fun ls hl => ?_)
      refine lv_goto (tgt := 5) C.1 C.2.1 dX4_billFor_43 (by decide) ?_
      exact ih (i + 1) (by omega) _ (by unfold mBillN; rw [sumL, if_pos (decide_eq_true c_23)]) _ rfl (by omega) ls _ _ (lv_sub hl [2, 3, 1, 0] rfl) hW
  exact L_5 (mAc M - 0 + 1) 0 (by omega) _ rfl _ rfl (by omega) ls _ _ (lv_sub hl [2, 3, 1, 0] rfl) hW

theorem hd_X4_bill : yX4_bill.cls = RX4 ∧ yX4_bill.cls ≠ "java/lang/invoke/MethodHandle" ∧ yX4_bill.cls ≠ "java/lang/invoke/VarHandle" ∧ (parseMethodDescriptor yX4_bill.desc).map (fun d => d.parameters.length) = some 1 := by decide +kernel
set_option maxHeartbeats 4000000 in
set_option maxRecDepth 100000 in
theorem c_X4_bill (l : Launch) (D : va_G) (g : Nat → ClassId) (h : Nat) (a : Nat → Nat) (M : MdS) (v : Int32) (hM : MOK M) (sz : Nat) : qMl l yX4_bill (.code yX4_bill cX4_bill 2 (some .long) :: GW) ({ frames := 2, cells := 0, slots := 0, locals := 43 } : Room) D g [.ref h, .int v] (wM g h a M) sz (fun (r : Int64) (u : MdS) => (mBill M v).1 = r ∧ ((mBill M v).2) = u) (fun (u : MdS) => (wM g h a u)) 0 0 := by
  refine q_entry (cc := cX4_bill) (nL := 2) (ret := (some .long)) rfl (by decide) (Nat.le_of_ble_eq_true rfl) (fun pp ee ss mm bb mt kc ls C hRt hLk hin hsz hW hl => ?_)
  have hl : lv_has ls 2 [(0, .ref h), (1, .int v)] := hl
  have h12 := hM.1
  have hcp1 := hM.2.2.2.2.1
  have hcp2 := hM.2.2.2.2.2.2
  refine lv_aload_n C.1 C.2.1 dX4_bill_0 rfl (lv_at hl 0 rfl) ?_
  refine lv_aload_n C.1 C.2.1 dX4_bill_1 rfl (lv_at hl 0 rfl) ?_
  refine lv_iload_n C.1 C.2.1 dX4_bill_2 rfl (lv_at hl 1 rfl) ?_
  refine q_callVi (rest := [.ref h]) C (c_X4_isName l D g h a M v hM _) (gw_V ml_X4_84 im_X4_isName se_X4_X4_isName ini_X4 cd_X4_isName rfl) rfl rfl rfl hd_X4_isName ⟨Nat.le_of_ble_eq_true rfl, Nat.le_of_ble_eq_true rfl⟩ hW pm_all (fun u_1 => (wM g h a u_1)) (fun _ => pm_all) rfl rfl hl.1 rfl (Nat.le_of_ble_eq_true rfl) ⟨Nat.le_of_ble_eq_true rfl, Nat.le_of_ble_eq_true rfl⟩ dX4_bill_3 (fun r_1 u_1 H locs e_1 hW => ?_)
  obtain ⟨rfl, rfl⟩ := e_1
  rcases hb : (inR (mNm M) v).isSome with _ | _
  · refine q_callVi (rest := []) C (c_X4_checked_F l D g h a M hM _) (gw_V ml_X4_92 im_X4_checked se_X4_X4_checked ini_X4 cd_X4_checked rfl) rfl rfl rfl hd_X4_checked ⟨Nat.le_of_ble_eq_true rfl, Nat.le_of_ble_eq_true rfl⟩ hW pm_all (fun u_2 => (wM g h a u_2)) (fun _ => pm_all) rfl rfl hl.1 rfl (Nat.le_of_ble_eq_true rfl) ⟨Nat.le_of_ble_eq_true rfl, Nat.le_of_ble_eq_true rfl⟩ dX4_bill_6 (fun r_2 u_2 H locs e_2 hW => ?_)
    obtain ⟨rfl, e_2⟩ := e_2
    refine q_zle (tgt := 16) C (by omega) dX4_bill_9 (by decide) (fun c_9 => absurd c_9 (by decide)) (fun c_9 => ?_)
    refine lv_lconst (v := 0) C.1 C.2.1 dX4_bill_12 rfl ?_
    refine lv_goto (tgt := 21) C.1 C.2.1 dX4_bill_13 (by decide) ?_
    exact q_lret C hRt hLk hW u_2 ⟨(Eq.symm (by unfold mBill; rw [inR_none_of hb]; try rfl)), (Eq.symm (by unfold mBill; rw [inR_none_of hb]; exact e_2.symm))⟩  rfl (Nat.le_of_ble_eq_true rfl) (Nat.le_of_ble_eq_true rfl) dX4_bill_21
  obtain ⟨c, hc9, hv9⟩ := inR_of (by omega) hb
  rw [hv9] at hl
  have hl : lv_has ls 2 [(0, .ref h), (1, .int (nI c))] := hl
  refine q_callVi (rest := []) C (c_X4_checked_T l D g h a M hM _) (gw_V ml_X4_92 im_X4_checked se_X4_X4_checked ini_X4 cd_X4_checked rfl) rfl rfl rfl hd_X4_checked ⟨Nat.le_of_ble_eq_true rfl, Nat.le_of_ble_eq_true rfl⟩ hW pm_all (fun u_3 => (wM g h a u_3)) (fun _ => pm_all) rfl rfl hl.1 rfl (Nat.le_of_ble_eq_true rfl) ⟨Nat.le_of_ble_eq_true rfl, Nat.le_of_ble_eq_true rfl⟩ dX4_bill_6 (fun r_3 u_3 H locs e_3 hW => ?_)
  obtain ⟨rfl, e_3⟩ := e_3
  have hMu : MOK u_3 := by rw [← e_3]; exact hM.same ⟨rfl, rfl, rfl, rfl, rfl⟩
  have hAu : mAc u_3 = mAc M := by rw [← e_3]
  have hNu : mNm u_3 = mNm M := by rw [← e_3]
  have hCu : mCp u_3 = mCp M := by rw [← e_3]
  refine q_zle (tgt := 16) C (by omega) dX4_bill_9 (by decide) (fun c_9 => ?_) (fun c_9 => absurd c_9 (by decide))
  refine lv_aload_n C.1 C.2.1 dX4_bill_16 rfl (lv_at hl 0 rfl) ?_
  refine lv_iload_n C.1 C.2.1 dX4_bill_17 rfl (lv_at hl 1 rfl) ?_
  refine q_callVl (rest := []) C (c_X4_billFor l D g h a u_3 (nI c) hMu _) (gw_V ml_X4_168 im_X4_billFor se_X4_X4_billFor ini_X4 cd_X4_billFor rfl) rfl rfl rfl hd_X4_billFor ⟨Nat.le_of_ble_eq_true rfl, Nat.le_of_ble_eq_true rfl⟩ hW pm_all (fun u_4 => (wM g h a u_4)) (fun _ => pm_all) rfl rfl hl.1 rfl (Nat.le_of_ble_eq_true rfl) ⟨Nat.le_of_ble_eq_true rfl, Nat.le_of_ble_eq_true rfl⟩ dX4_bill_18 (fun r_4 u_4 H locs e_4 hW => ?_)
  obtain ⟨rfl, rfl⟩ := e_4
  exact q_lret C hRt hLk hW u_3 ⟨(Eq.symm (by unfold mBill; rw [hv9, inR_nI hc9 (by omega)]; dsimp only; rw [e_3])), (Eq.symm (by unfold mBill; rw [hv9, inR_nI hc9 (by omega)]; dsimp only; rw [e_3]))⟩  rfl (Nat.le_of_ble_eq_true rfl) (Nat.le_of_ble_eq_true rfl) dX4_bill_21

theorem hd_X4_cycles : yX4_cycles.cls = RX4 ∧ yX4_cycles.cls ≠ "java/lang/invoke/MethodHandle" ∧ yX4_cycles.cls ≠ "java/lang/invoke/VarHandle" ∧ (parseMethodDescriptor yX4_cycles.desc).map (fun d => d.parameters.length) = some 1 := by decide +kernel
set_option maxHeartbeats 4000000 in
set_option maxRecDepth 100000 in
theorem c_X4_cycles (l : Launch) (D : va_G) (g : Nat → ClassId) (h : Nat) (a : Nat → Nat) (M : MdS) (v : Int32) (hM : MOK M) (sz : Nat) : qMl l yX4_cycles (.code yX4_cycles cX4_cycles 5 (some .long) :: GW) ({ frames := 2, cells := 0, slots := 0, locals := 42 } : Room) D g [.ref h, .int v] (wM g h a M) sz (fun (r : Int64) (u : MdS) => (mCycles M v).1 = r ∧ ((mCycles M v).2) = u) (fun (u : MdS) => (wM g h a u)) 0 0 := by
  refine q_entry (cc := cX4_cycles) (nL := 5) (ret := (some .long)) rfl (by decide) (Nat.le_of_ble_eq_true rfl) (fun pp ee ss mm bb mt kc ls C hRt hLk hin hsz hW hl => ?_)
  have hl : lv_has ls 5 [(0, .ref h), (1, .int v)] := hl
  have h12 := hM.1
  have hcp1 := hM.2.2.2.2.1
  have hcp2 := hM.2.2.2.2.2.2
  refine lv_aload_n C.1 C.2.1 dX4_cycles_0 rfl (lv_at hl 0 rfl) ?_
  refine lv_iload_n C.1 C.2.1 dX4_cycles_1 rfl (lv_at hl 1 rfl) ?_
  refine q_callSi (rest := [.ref h]) C (c_X4_isCore l D g v _) (gw_S ml_X4_130 sm_X4_isCore ini_X4 cd_X4_isCore rfl) rfl rfl rfl hd_X4_isCore ⟨Nat.le_of_ble_eq_true rfl, Nat.le_of_ble_eq_true rfl⟩ hW (List.Perm.refl _) (fun (u_1 : Unit) => (wM g h a M)) (fun _ => List.Perm.refl _) hl.1 rfl (Nat.le_of_ble_eq_true rfl) ⟨Nat.le_of_ble_eq_true rfl, Nat.le_of_ble_eq_true rfl⟩ dX4_cycles_2 (fun r_1 u_1 H locs e_1 hW => ?_)
  subst e_1
  rcases hb : (inR 4 v).isSome with _ | _
  · refine q_callVi (rest := []) C (c_X4_checked_F l D g h a M hM _) (gw_V ml_X4_92 im_X4_checked se_X4_X4_checked ini_X4 cd_X4_checked rfl) rfl rfl rfl hd_X4_checked ⟨Nat.le_of_ble_eq_true rfl, Nat.le_of_ble_eq_true rfl⟩ hW pm_all (fun u_2 => (wM g h a u_2)) (fun _ => pm_all) rfl rfl hl.1 rfl (Nat.le_of_ble_eq_true rfl) ⟨Nat.le_of_ble_eq_true rfl, Nat.le_of_ble_eq_true rfl⟩ dX4_cycles_5 (fun r_2 u_2 H locs e_2 hW => ?_)
    obtain ⟨rfl, e_2⟩ := e_2
    refine q_zle (tgt := 13) C (by omega) dX4_cycles_8 (by decide) (fun c_8 => absurd c_8 (by decide)) (fun c_8 => ?_)
    refine lv_lconst (v := 0) C.1 C.2.1 dX4_cycles_11 rfl ?_
    exact q_lret C hRt hLk hW u_2 ⟨(Eq.symm (by unfold mCycles; rw [inR_none_of hb]; try rfl)), (Eq.symm (by unfold mCycles; rw [inR_none_of hb]; exact e_2.symm))⟩  rfl (Nat.le_of_ble_eq_true rfl) (Nat.le_of_ble_eq_true rfl) dX4_cycles_12
  obtain ⟨c, hc9, hv9⟩ := inR_of (by omega) hb
  rw [hv9] at hl
  have hl : lv_has ls 5 [(0, .ref h), (1, .int (nI c))] := hl
  refine q_callVi (rest := []) C (c_X4_checked_T l D g h a M hM _) (gw_V ml_X4_92 im_X4_checked se_X4_X4_checked ini_X4 cd_X4_checked rfl) rfl rfl rfl hd_X4_checked ⟨Nat.le_of_ble_eq_true rfl, Nat.le_of_ble_eq_true rfl⟩ hW pm_all (fun u_3 => (wM g h a u_3)) (fun _ => pm_all) rfl rfl hl.1 rfl (Nat.le_of_ble_eq_true rfl) ⟨Nat.le_of_ble_eq_true rfl, Nat.le_of_ble_eq_true rfl⟩ dX4_cycles_5 (fun r_3 u_3 H locs e_3 hW => ?_)
  obtain ⟨rfl, e_3⟩ := e_3
  have hMu : MOK u_3 := by rw [← e_3]; exact hM.same ⟨rfl, rfl, rfl, rfl, rfl⟩
  have hAu : mAc u_3 = mAc M := by rw [← e_3]
  have hNu : mNm u_3 = mNm M := by rw [← e_3]
  have hCu : mCp u_3 = mCp M := by rw [← e_3]
  obtain ⟨U9, hU9⟩ : ∃ U9, U9 = u_3 := ⟨_, rfl⟩
  rw [← hU9] at hW hMu hAu hNu hCu e_3
  refine q_zle (tgt := 13) C (by omega) dX4_cycles_8 (by decide) (fun c_8 => ?_) (fun c_8 => absurd c_8 (by decide))
  refine lv_lconst (v := 0) C.1 C.2.1 dX4_cycles_13 rfl ?_
  refine lv_lstore_n (lv' := [(2, .long 0), (0, .ref h), (1, .int (nI c))]) C.1 C.2.1 dX4_cycles_14 rfl hl (by decide) rfl (fun ls hl => ?_)
  refine lv_iconst (v := nI 0) C.1 C.2.1 dX4_cycles_15 (by decide) ?_
  refine lv_istore (lv' := [(4, .int (nI 0)), (2, .long 0), (0, .ref h), (1, .int (nI c))]) C.1 C.2.1 dX4_cycles_16 hl (by decide) rfl (fun ls hl => ?_)
  have L_18 : ∀ (nf : Nat) (i : Nat) (hi : i ≤ mAc M) (x2 : Int64) (e2 : x2 = mCycN U9 c i) (x4 : Int32) (e4 : x4 = nI i) (hmu : mAc M - i < nf) (ls : Array Slot) (H : Heap) (locs : List Loc), lv_has ls 5 [(0, .ref h), (1, .int (nI c)), (2, .long x2), (4, .int x4)] → qW D g (va_A (wM g h a M) sz) ss.heap ss (wM g h a U9) H locs → W pp l ee ({ frames := 2, cells := 0, slots := 0, locals := 42 } : Room) ss mm [.ref h, .int v].toArray bb mt kc H locs 0 0 (MQ bb (va_Ql (fun (r : Int64) (u : MdS) => (mCycles M v).1 = r ∧ ((mCycles M v).2) = u) (qB D g (wM g h a M) sz (fun (u : MdS) => (wM g h a u))) (va_A (wM g h a M) sz)) [.ref h, .int v].toArray ss 0 0 (va_A (wM g h a M) sz)) (F0 mm 18 ls []) := by
    intro nf
    induction nf with
    | zero =>
      intro i hi x2 e2 x4 e4 hmu ls H locs hl hW
      exact absurd hmu (by omega)
    | succ nf ih =>
      intro i hi x2 e2 x4 e4 hmu ls H locs hl hW
      subst e2
      subst e4
      refine lv_iload C.1 C.2.1 dX4_cycles_18 (lv_at hl 3 rfl) ?_
      refine lv_aload_n C.1 C.2.1 dX4_cycles_20 rfl (lv_at hl 0 rfl) ?_
      refine q_get (v := .int (nI (mAc U9))) C hW 0 rfl rfl 19 (by decide) gu_X4 (C.2.2.2.2 _ fl_X4_70) rfl rfl dX4_cycles_21 ?_
      refine q_ge (tgt := 59) C (by omega) (by omega) dX4_cycles_24 (by decide) (fun c_24 => ?_) (fun c_24 => ?_)
      · refine lv_lload_n C.1 C.2.1 dX4_cycles_59 rfl (lv_at hl 2 rfl) ?_
        exact q_lret C hRt hLk hW U9 ⟨(Eq.symm (by obtain rfl : i = mAc M := (by omega); unfold mCycles; rw [hv9, inR_nI hc9 (by omega)]; dsimp only; rw [e_3])), (Eq.symm (by unfold mCycles; rw [hv9, inR_nI hc9 (by omega)]; dsimp only; rw [e_3]))⟩  rfl (Nat.le_of_ble_eq_true rfl) (Nat.le_of_ble_eq_true rfl) dX4_cycles_60
      refine lv_lload_n C.1 C.2.1 dX4_cycles_27 rfl (lv_at hl 2 rfl) ?_
      refine lv_aload_n C.1 C.2.1 dX4_cycles_28 rfl (lv_at hl 0 rfl) ?_
      refine q_get (v := .ref (a 15)) C hW 0 rfl rfl 15 (by decide) gu_X4 (C.2.2.2.2 _ fl_X4_57) rfl rfl dX4_cycles_29 ?_
      refine lv_iload C.1 C.2.1 dX4_cycles_32 (lv_at hl 3 rfl) ?_
      refine q_ialdN (f := mCr U9) C hW 16 rfl (k := i) (by omega) (by omega) dX4_cycles_34 ?_
      refine lv_iload_n C.1 C.2.1 dX4_cycles_35 rfl (lv_at hl 1 rfl) ?_
      refine lv_icmp_ne (tgt := 50) C.1 C.2.1 dX4_cycles_36 (by decide) (fun c_36 => ?_) (fun c_36 => ?_)
      · refine lv_lconst (v := 0) C.1 C.2.1 dX4_cycles_50 rfl ?_
        refine lv_ladd C.1 C.2.1 dX4_cycles_51 ?_
        refine lv_lstore_n (lv' := [(2, .long ((mCycN U9 c i) + 0)), (0, .ref h), (1, .int (nI c)), (4, .int (nI i))]) C.1 C.2.1 dX4_cycles_52 rfl hl (by decide) rfl (fun ls hl => ?_)
        refine q_iinc (d := 1) (lv' := [(4, .int (nI (i + 1))), (2, .long ((mCycN U9 c i) + 0)), (0, .ref h), (1, .int (nI c))]) C dX4_cycles_53 (by decide) hl (k := 3) rfl (by decide) rfl (fun ls hl => ?_)
        refine lv_goto (tgt := 18) C.1 C.2.1 dX4_cycles_56 (by decide) ?_
        exact ih (i + 1) (by omega) _ (by unfold mCycN; rw [sumL, if_neg (by rw [decide_eq_false c_36]; decide)]) _ rfl (by omega) ls _ _ (lv_sub hl [2, 3, 1, 0] rfl) hW
      refine lv_aload_n C.1 C.2.1 dX4_cycles_39 rfl (lv_at hl 0 rfl) ?_
      refine q_get (v := .ref (a 13)) C hW 0 rfl rfl 13 (by decide) gu_X4 (C.2.2.2.2 _ fl_X4_51) rfl rfl dX4_cycles_40 ?_
      refine lv_iload C.1 C.2.1 dX4_cycles_43 (lv_at hl 3 rfl) ?_
      refine q_ialdN (f := mCo U9) C hW 14 rfl (k := i) (by omega) (by omega) dX4_cycles_45 ?_
      refine lv_i2l (v := (nI ((mCo U9) i)).toInt64) C.1 C.2.1 dX4_cycles_46 rfl ?_
      refine lv_goto (tgt := 51) C.1 C.2.1 dX4_cycles_47 (by decide) ?_
      refine lv_ladd C.1 C.2.1 dX4_cycles_51 ?_
      refine lv_lstore_n (lv' := [(2, .long ((mCycN U9 c i) + ((nI ((mCo U9) i)).toInt64))), (0, .ref h), (1, .int (nI c)), (4, .int (nI i))]) C.1 C.2.1 dX4_cycles_52 rfl hl (by decide) rfl (fun ls hl => ?_)
      refine q_iinc (d := 1) (lv' := [(4, .int (nI (i + 1))), (2, .long ((mCycN U9 c i) + ((nI ((mCo U9) i)).toInt64))), (0, .ref h), (1, .int (nI c))]) C dX4_cycles_53 (by decide) hl (k := 3) rfl (by decide) rfl (fun ls hl => ?_)
      refine lv_goto (tgt := 18) C.1 C.2.1 dX4_cycles_56 (by decide) ?_
      exact ih (i + 1) (by omega) _ (by unfold mCycN; rw [sumL, if_pos (decide_eq_true c_36)]) _ rfl (by omega) ls _ _ (lv_sub hl [2, 3, 1, 0] rfl) hW
  exact L_18 (mAc M - 0 + 1) 0 (by omega) _ rfl _ rfl (by omega) ls _ _ (lv_sub hl [2, 3, 1, 0] rfl) hW
