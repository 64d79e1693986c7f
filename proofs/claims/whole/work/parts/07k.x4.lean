theorem hd_X4_worst : yX4_worst.cls = RX4 ∧ yX4_worst.cls ≠ "java/lang/invoke/MethodHandle" ∧ yX4_worst.cls ≠ "java/lang/invoke/VarHandle" ∧ (parseMethodDescriptor yX4_worst.desc).map (fun d => d.parameters.length) = some 0 := by decide +kernel
set_option maxHeartbeats 4000000 in
set_option maxRecDepth 100000 in
theorem c_X4_worst (l : Launch) (D : va_G) (g : Nat → ClassId) (h : Nat) (a : Nat → Nat) (M : MdS) (hM : MOK M) (sz : Nat) : qMi l yX4_worst (.code yX4_worst cX4_worst 3 (some .int) :: GW) ({ frames := 1, cells := 0, slots := 0, locals := 24 } : Room) D g [.ref h] (wM g h a M) sz (fun (r : Int32) (u : MdS) => nI ((mWorst M).1) = r ∧ ((mWorst M).2) = u) (fun (u : MdS) => (wM g h a u)) 0 0 := by
  refine q_entry (cc := cX4_worst) (nL := 3) (ret := (some .int)) rfl (by decide) (Nat.le_of_ble_eq_true rfl) (fun pp ee ss mm bb mt kc ls C hRt hLk hin hsz hW hl => ?_)
  have hl : lv_has ls 3 [(0, .ref h)] := hl
  have h12 := hM.1
  have hcp1 := hM.2.2.2.2.1
  have hcp2 := hM.2.2.2.2.2.2
  refine lv_aload_n C.1 C.2.1 dX4_worst_0 rfl (lv_at hl 0 rfl) ?_
  refine lv_aload_n C.1 C.2.1 dX4_worst_1 rfl (lv_at hl 0 rfl) ?_
  refine q_get (v := .int (nI (mNm M))) C hW 0 rfl rfl 18 (by decide) gu_X4 (C.2.2.2.2 _ fl_X4_67) rfl rfl dX4_worst_2 ?_
  refine q_zle (tgt := 12) C (by omega) dX4_worst_5 (by decide) (fun c_5 => ?_) (fun c_5 => ?_)
  · refine lv_iconst (v := nI 0) C.1 C.2.1 dX4_worst_12 (by decide) ?_
    refine q_to (y := bI false) rfl ?_
    refine q_callVi (rest := []) C (c_X4_checked_F l D g h a M hM _) (gw_V ml_X4_92 im_X4_checked se_X4_X4_checked ini_X4 cd_X4_checked rfl) rfl rfl rfl hd_X4_checked ⟨Nat.le_of_ble_eq_true rfl, Nat.le_of_ble_eq_true rfl⟩ hW pm_all (fun u_1 => (wM g h a u_1)) (fun _ => pm_all) rfl rfl hl.1 rfl (Nat.le_of_ble_eq_true rfl) ⟨Nat.le_of_ble_eq_true rfl, Nat.le_of_ble_eq_true rfl⟩ dX4_worst_13 (fun r_1 u_1 H locs e_1 hW => ?_)
    obtain ⟨rfl, e_1⟩ := e_1
    refine q_zle (tgt := 21) C (by omega) dX4_worst_16 (by decide) (fun c_16 => absurd c_16 (by decide)) (fun c_16 => ?_)
    refine lv_iconst (v := nI 0) C.1 C.2.1 dX4_worst_19 (by decide) ?_
    exact q_iret C hRt hLk hW rfl u_1 ⟨(Eq.symm (by unfold mWorst; rw [if_pos (by omega)])), (Eq.symm (by unfold mWorst; rw [if_pos (by omega)]; exact e_1.symm))⟩  rfl (Nat.le_of_ble_eq_true rfl) (Nat.le_of_ble_eq_true rfl) dX4_worst_20
  refine lv_iconst (v := nI 1) C.1 C.2.1 dX4_worst_8 (by decide) ?_
  refine lv_goto (tgt := 13) C.1 C.2.1 dX4_worst_9 (by decide) ?_
  refine q_to (y := bI true) rfl ?_
  refine q_callVi (rest := []) C (c_X4_checked_T l D g h a M hM _) (gw_V ml_X4_92 im_X4_checked se_X4_X4_checked ini_X4 cd_X4_checked rfl) rfl rfl rfl hd_X4_checked ⟨Nat.le_of_ble_eq_true rfl, Nat.le_of_ble_eq_true rfl⟩ hW pm_all (fun u_2 => (wM g h a u_2)) (fun _ => pm_all) rfl rfl hl.1 rfl (Nat.le_of_ble_eq_true rfl) ⟨Nat.le_of_ble_eq_true rfl, Nat.le_of_ble_eq_true rfl⟩ dX4_worst_13 (fun r_2 u_2 H locs e_2 hW => ?_)
  obtain ⟨rfl, e_2⟩ := e_2
  have hMu : MOK u_2 := by rw [← e_2]; exact hM.same ⟨rfl, rfl, rfl, rfl, rfl⟩
  have hAu : mAc u_2 = mAc M := by rw [← e_2]
  have hNu : mNm u_2 = mNm M := by rw [← e_2]
  have hCu : mCp u_2 = mCp M := by rw [← e_2]
  obtain ⟨U9, hU9⟩ : ∃ U9, U9 = u_2 := ⟨_, rfl⟩
  rw [← hU9] at hW hMu hAu hNu hCu e_2
  refine q_zle (tgt := 21) C (by omega) dX4_worst_16 (by decide) (fun c_16 => ?_) (fun c_16 => absurd c_16 (by decide))
  refine lv_iconst (v := nI 0) C.1 C.2.1 dX4_worst_21 (by decide) ?_
  refine lv_istore_n (lv' := [(1, .int (nI 0)), (0, .ref h)]) C.1 C.2.1 dX4_worst_22 rfl hl (by decide) rfl (fun ls hl => ?_)
  refine lv_iconst (v := nI 1) C.1 C.2.1 dX4_worst_23 (by decide) ?_
  refine lv_istore_n (lv' := [(2, .int (nI 1)), (1, .int (nI 0)), (0, .ref h)]) C.1 C.2.1 dX4_worst_24 rfl hl (by decide) rfl (fun ls hl => ?_)
  have L_25 : ∀ (nf : Nat) (i : Nat) (hi : i + 1 ≤ mNm M) (x1 : Int32) (e1 : x1 = nI (mWorN U9 i)) (x2 : Int32) (e2 : x2 = nI (i + 1)) (hmu : mNm M - i < nf) (ls : Array Slot) (H : Heap) (locs : List Loc), lv_has ls 3 [(0, .ref h), (1, .int x1), (2, .int x2)] → qW D g (va_A (wM g h a M) sz) ss.heap ss (wM g h a U9) H locs → W pp l ee ({ frames := 1, cells := 0, slots := 0, locals := 24 } : Room) ss mm [.ref h].toArray bb mt kc H locs 0 0 (MQ bb (va_Qi (fun (r : Int32) (u : MdS) => nI ((mWorst M).1) = r ∧ ((mWorst M).2) = u) (qB D g (wM g h a M) sz (fun (u : MdS) => (wM g h a u))) (va_A (wM g h a M) sz)) [.ref h].toArray ss 0 0 (va_A (wM g h a M) sz)) (F0 mm 25 ls []) := by
    intro nf
    induction nf with
    | zero =>
      intro i hi x1 e1 x2 e2 hmu ls H locs hl hW
      exact absurd hmu (by omega)
    | succ nf ih =>
      intro i hi x1 e1 x2 e2 hmu ls H locs hl hW
      subst e1
      subst e2
      refine lv_iload_n C.1 C.2.1 dX4_worst_25 rfl (lv_at hl 2 rfl) ?_
      refine lv_aload_n C.1 C.2.1 dX4_worst_26 rfl (lv_at hl 0 rfl) ?_
      refine q_get (v := .int (nI (mNm U9))) C hW 0 rfl rfl 18 (by decide) gu_X4 (C.2.2.2.2 _ fl_X4_67) rfl rfl dX4_worst_27 ?_
      refine q_ge (tgt := 55) C (by omega) (by omega) dX4_worst_30 (by decide) (fun c_30 => ?_) (fun c_30 => ?_)
      · refine lv_iload_n C.1 C.2.1 dX4_worst_55 rfl (lv_at hl 1 rfl) ?_
        exact q_iret C hRt hLk hW rfl U9 ⟨(Eq.symm (by unfold mWorst; rw [if_neg (by omega)]; dsimp only; rw [e_2]; rw [show mNm M - 1 = i by omega])), (Eq.symm (by unfold mWorst; rw [if_neg (by omega)]; dsimp only; rw [e_2]))⟩  rfl (Nat.le_of_ble_eq_true rfl) (Nat.le_of_ble_eq_true rfl) dX4_worst_56
      have hw9 := mWorN_le U9 i
      refine lv_aload_n C.1 C.2.1 dX4_worst_33 rfl (lv_at hl 0 rfl) ?_
      refine lv_iload_n C.1 C.2.1 dX4_worst_34 rfl (lv_at hl 2 rfl) ?_
      refine q_callVl (rest := []) C (c_X4_billFor l D g h a U9 (nI (i + 1)) hMu _) (gw_V ml_X4_168 im_X4_billFor se_X4_X4_billFor ini_X4 cd_X4_billFor rfl) rfl rfl rfl hd_X4_billFor ⟨Nat.le_of_ble_eq_true rfl, Nat.le_of_ble_eq_true rfl⟩ hW pm_all (fun u_3 => (wM g h a u_3)) (fun _ => pm_all) rfl rfl hl.1 rfl (Nat.le_of_ble_eq_true rfl) ⟨Nat.le_of_ble_eq_true rfl, Nat.le_of_ble_eq_true rfl⟩ dX4_worst_35 (fun r_3 u_3 H locs e_3 hW => ?_)
      obtain ⟨rfl, rfl⟩ := e_3
      refine lv_aload_n C.1 C.2.1 dX4_worst_38 rfl (lv_at hl 0 rfl) ?_
      refine lv_iload_n C.1 C.2.1 dX4_worst_39 rfl (lv_at hl 1 rfl) ?_
      refine q_callVl (rest := [.long (mBillFor U9 (nI (i + 1)))]) C (c_X4_billFor l D g h a U9 (nI (mWorN U9 i)) hMu _) (gw_V ml_X4_168 im_X4_billFor se_X4_X4_billFor ini_X4 cd_X4_billFor rfl) rfl rfl rfl hd_X4_billFor ⟨Nat.le_of_ble_eq_true rfl, Nat.le_of_ble_eq_true rfl⟩ hW pm_all (fun u_4 => (wM g h a u_4)) (fun _ => pm_all) rfl rfl hl.1 rfl (Nat.le_of_ble_eq_true rfl) ⟨Nat.le_of_ble_eq_true rfl, Nat.le_of_ble_eq_true rfl⟩ dX4_worst_40 (fun r_4 u_4 H locs e_4 hW => ?_)
      obtain ⟨rfl, rfl⟩ := e_4
      refine W.lcmp C.1 C.2.1 dX4_worst_43 ?_
      refine lv_if_le (tgt := 49) C.1 C.2.1 dX4_worst_44 (by decide) (fun c_44 => ?_) (fun c_44 => ?_)
      · refine q_iinc (d := 1) (lv' := [(2, .int (nI (i + 1 + 1))), (0, .ref h), (1, .int (nI (mWorN U9 i)))]) C dX4_worst_49 (by decide) hl (k := 2) rfl (by decide) rfl (fun ls hl => ?_)
        refine lv_goto (tgt := 25) C.1 C.2.1 dX4_worst_52 (by decide) ?_
        exact ih (i + 1) (by omega) _ (by rw [mWorN, if_neg (by have h9 := (lg_cmp_le _ _).mp c_44; exact Int64.not_lt.mpr h9)]) _ rfl (by omega) ls _ _ (lv_sub hl [1, 2, 0] rfl) hW
      refine lv_iload_n C.1 C.2.1 dX4_worst_47 rfl (lv_at hl 2 rfl) ?_
      refine lv_istore_n (lv' := [(1, .int (nI (i + 1))), (0, .ref h), (2, .int (nI (i + 1)))]) C.1 C.2.1 dX4_worst_48 rfl hl (by decide) rfl (fun ls hl => ?_)
      refine q_iinc (d := 1) (lv' := [(2, .int (nI (i + 1 + 1))), (1, .int (nI (i + 1))), (0, .ref h)]) C dX4_worst_49 (by decide) hl (k := 2) rfl (by decide) rfl (fun ls hl => ?_)
      refine lv_goto (tgt := 25) C.1 C.2.1 dX4_worst_52 (by decide) ?_
      exact ih (i + 1) (by omega) _ (by rw [mWorN, if_pos (by have h9 := Int32.not_le.mp c_44; exact (lg_cmp_gt _ _).mp h9)]) _ rfl (by omega) ls _ _ (lv_sub hl [2, 1, 0] rfl) hW
  exact L_25 (mNm M - 0 + 1) 0 (by omega) _ rfl _ rfl (by omega) ls _ _ (lv_sub hl [2, 1, 0] rfl) hW

theorem hd_X4_count : yX4_count.cls = RX4 ∧ yX4_count.cls ≠ "java/lang/invoke/MethodHandle" ∧ yX4_count.cls ≠ "java/lang/invoke/VarHandle" ∧ (parseMethodDescriptor yX4_count.desc).map (fun d => d.parameters.length) = some 2 := by decide +kernel
set_option maxHeartbeats 4000000 in
set_option maxRecDepth 100000 in
theorem c_X4_count (l : Launch) (D : va_G) (g : Nat → ClassId) (h : Nat) (a : Nat → Nat) (M : MdS) (v : Int32) (z : UInt16) (hM : MOK M) (sz : Nat) : qMi l yX4_count (.code yX4_count cX4_count 5 (some .int) :: GW) ({ frames := 2, cells := 0, slots := 0, locals := 43 } : Room) D g [.ref h, .int v, .int (cI z)] (wM g h a M) sz (fun (r : Int32) (u : MdS) => nI ((mCount M v z).1) = r ∧ ((mCount M v z).2) = u) (fun (u : MdS) => (wM g h a u)) 0 0 := by
  refine q_entry (cc := cX4_count) (nL := 5) (ret := (some .int)) rfl (by decide) (Nat.le_of_ble_eq_true rfl) (fun pp ee ss mm bb mt kc ls C hRt hLk hin hsz hW hl => ?_)
  have hl : lv_has ls 5 [(0, .ref h), (1, .int v), (2, .int (cI z))] := hl
  have h12 := hM.1
  have hcp1 := hM.2.2.2.2.1
  have hcp2 := hM.2.2.2.2.2.2
  refine lv_aload_n C.1 C.2.1 dX4_count_0 rfl (lv_at hl 0 rfl) ?_
  refine lv_aload_n C.1 C.2.1 dX4_count_1 rfl (lv_at hl 0 rfl) ?_
  refine lv_iload_n C.1 C.2.1 dX4_count_2 rfl (lv_at hl 1 rfl) ?_
  refine q_callVi (rest := [.ref h]) C (c_X4_isName l D g h a M v hM _) (gw_V ml_X4_84 im_X4_isName se_X4_X4_isName ini_X4 cd_X4_isName rfl) rfl rfl rfl hd_X4_isName ⟨Nat.le_of_ble_eq_true rfl, Nat.le_of_ble_eq_true rfl⟩ hW pm_all (fun u_1 => (wM g h a u_1)) (fun _ => pm_all) rfl rfl hl.1 rfl (Nat.le_of_ble_eq_true rfl) ⟨Nat.le_of_ble_eq_true rfl, Nat.le_of_ble_eq_true rfl⟩ dX4_count_3 (fun r_1 u_1 H locs e_1 hW => ?_)
  obtain ⟨rfl, rfl⟩ := e_1
  refine q_bf (b := (inR (mNm M) v).isSome) (tgt := 13) C dX4_count_6 (by decide) (fun c_6 => ?_) (fun c_6 => ?_)
  · obtain ⟨n, hn9, hv_n⟩ := inR_of (by omega) c_6
    rw [hv_n] at hl
    have hl : lv_has ls 5 [(0, .ref h), (1, .int (nI n)), (2, .int (cI z))] := hl
    refine lv_iload_n C.1 C.2.1 dX4_count_13 rfl (lv_at hl 2 rfl) ?_
    refine q_callSi (rest := [.ref h]) C (c_X4_isCause l D g z _) (gw_S ml_X4_164 sm_X4_isCause ini_X4 cd_X4_isCause rfl) rfl rfl rfl hd_X4_isCause ⟨Nat.le_of_ble_eq_true rfl, Nat.le_of_ble_eq_true rfl⟩ hW (List.Perm.refl _) (fun (u_2 : Unit) => (wM g h a M)) (fun _ => List.Perm.refl _) hl.1 rfl (Nat.le_of_ble_eq_true rfl) ⟨Nat.le_of_ble_eq_true rfl, Nat.le_of_ble_eq_true rfl⟩ dX4_count_14 (fun r_2 u_2 H locs e_2 hW => ?_)
    subst e_2
    refine q_bf (b := isCz z) (tgt := 24) C dX4_count_17 (by decide) (fun c_17 => ?_) (fun c_17 => ?_)
    · refine lv_iconst (v := nI 0) C.1 C.2.1 dX4_count_24 (by decide) ?_
      refine q_put C hW 0 rfl rfl 17 (by decide) gu_X4 tyX4_ok nmX4 (C.2.2.2.2 _ fl_X4_63) rfl rfl rfl rfl (Nat.le_of_ble_eq_true rfl) (wMc g h a (mWd M) (mPl M) (mSt M) (mUs M) (mLb M) (mNw M) (mAh M) (mMs M) (mLm M) (mLs M) (mFe M) (mUf M) (mWr M) (mCo M) (mNa M) (mCr M) (mCa M) 0 (mNm M) (mAc M) (mCk M) (mCp M)) rfl dX4_count_25 (fun H locs hW => ?_)
      refine lv_aload_n C.1 C.2.1 dX4_count_28 rfl (lv_at hl 0 rfl) ?_
      refine q_get (v := .int (nI 0)) C hW 0 rfl rfl 17 (by decide) gu_X4 (C.2.2.2.2 _ fl_X4_63) rfl rfl dX4_count_29 ?_
      refine q_zle (tgt := 37) C (by omega) dX4_count_32 (by decide) (fun c_32 => ?_) (fun c_32 => absurd c_32 (by decide))
      have hW : qW D g (va_A (wM g h a M) sz) ss.heap ss (wM g h a (sTh M 0)) _ _ := hW
      have hMu : MOK (sTh M 0) := hM.same ⟨rfl, rfl, rfl, rfl, rfl⟩
      have hAu : mAc (sTh M 0) = mAc M := rfl
      have hNu : mNm (sTh M 0) = mNm M := rfl
      have hCu : mCp (sTh M 0) = mCp M := rfl
      obtain ⟨U9, hU9⟩ : ∃ U9, sTh M 0 = U9 := ⟨_, rfl⟩
      rw [hU9] at hW hMu hAu hNu hCu
      refine lv_iconst (v := nI 0) C.1 C.2.1 dX4_count_37 (by decide) ?_
      refine lv_istore_n (lv' := [(3, .int (nI 0)), (0, .ref h), (1, .int (nI n)), (2, .int (cI z))]) C.1 C.2.1 dX4_count_38 rfl hl (by decide) rfl (fun ls hl => ?_)
      refine lv_iconst (v := nI 0) C.1 C.2.1 dX4_count_39 (by decide) ?_
      refine lv_istore (lv' := [(4, .int (nI 0)), (3, .int (nI 0)), (0, .ref h), (1, .int (nI n)), (2, .int (cI z))]) C.1 C.2.1 dX4_count_40 hl (by decide) rfl (fun ls hl => ?_)
      have L_42 : ∀ (nf : Nat) (i : Nat) (hi : i ≤ mAc M) (x3 : Int32) (e3 : x3 = nI (mCntN U9 n z i)) (x4 : Int32) (e4 : x4 = nI i) (hmu : mAc M - i < nf) (ls : Array Slot) (H : Heap) (locs : List Loc), lv_has ls 5 [(0, .ref h), (1, .int (nI n)), (2, .int (cI z)), (3, .int x3), (4, .int x4)] → qW D g (va_A (wM g h a M) sz) ss.heap ss (wM g h a U9) H locs → W pp l ee ({ frames := 2, cells := 0, slots := 0, locals := 43 } : Room) ss mm [.ref h, .int v, .int (cI z)].toArray bb mt kc H locs 0 0 (MQ bb (va_Qi (fun (r : Int32) (u : MdS) => nI ((mCount M v z).1) = r ∧ ((mCount M v z).2) = u) (qB D g (wM g h a M) sz (fun (u : MdS) => (wM g h a u))) (va_A (wM g h a M) sz)) [.ref h, .int v, .int (cI z)].toArray ss 0 0 (va_A (wM g h a M) sz)) (F0 mm 42 ls []) := by
        intro nf
        induction nf with
        | zero =>
          intro i hi x3 e3 x4 e4 hmu ls H locs hl hW
          exact absurd hmu (by omega)
        | succ nf ih =>
          intro i hi x3 e3 x4 e4 hmu ls H locs hl hW
          subst e3
          subst e4
          refine lv_iload C.1 C.2.1 dX4_count_42 (lv_at hl 4 rfl) ?_
          refine lv_aload_n C.1 C.2.1 dX4_count_44 rfl (lv_at hl 0 rfl) ?_
          refine q_get (v := .int (nI (mAc U9))) C hW 0 rfl rfl 19 (by decide) gu_X4 (C.2.2.2.2 _ fl_X4_70) rfl rfl dX4_count_45 ?_
          refine q_ge (tgt := 87) C (by omega) (by omega) dX4_count_48 (by decide) (fun c_48 => ?_) (fun c_48 => ?_)
          · refine lv_iload_n C.1 C.2.1 dX4_count_87 rfl (lv_at hl 3 rfl) ?_
            exact q_iret C hRt hLk hW rfl U9 ⟨(Eq.symm (by unfold mCount; rw [hv_n, inR_nI hn9 (by omega)]; dsimp only; rw [if_pos c_17, hU9]; obtain rfl : i = mAc M := (by omega); try rfl)), (Eq.symm (by unfold mCount; rw [hv_n, inR_nI hn9 (by omega)]; dsimp only; rw [if_pos c_17, hU9]))⟩  rfl (Nat.le_of_ble_eq_true rfl) (Nat.le_of_ble_eq_true rfl) dX4_count_88
          refine lv_iload_n C.1 C.2.1 dX4_count_51 rfl (lv_at hl 3 rfl) ?_
          refine lv_aload_n C.1 C.2.1 dX4_count_52 rfl (lv_at hl 0 rfl) ?_
          refine q_get (v := .ref (a 14)) C hW 0 rfl rfl 14 (by decide) gu_X4 (C.2.2.2.2 _ fl_X4_54) rfl rfl dX4_count_53 ?_
          refine lv_iload C.1 C.2.1 dX4_count_56 (lv_at hl 4 rfl) ?_
          refine q_ialdN (f := mNa U9) C hW 15 rfl (k := i) (by omega) (by omega) dX4_count_58 ?_
          refine lv_iload_n C.1 C.2.1 dX4_count_59 rfl (lv_at hl 1 rfl) ?_
          refine lv_icmp_ne (tgt := 78) C.1 C.2.1 dX4_count_60 (by decide) (fun c_60 => ?_) (fun c_60 => ?_)
          · refine lv_iconst (v := nI 0) C.1 C.2.1 dX4_count_78 (by decide) ?_
            refine q_iadd C dX4_count_79 ?_
            refine lv_istore_n (lv' := [(3, .int (nI (mCntN U9 n z i + 0))), (0, .ref h), (1, .int (nI n)), (2, .int (cI z)), (4, .int (nI i))]) C.1 C.2.1 dX4_count_80 rfl hl (by decide) rfl (fun ls hl => ?_)
            refine q_iinc (d := 1) (lv' := [(4, .int (nI (i + 1))), (3, .int (nI (mCntN U9 n z i + 0))), (0, .ref h), (1, .int (nI n)), (2, .int (cI z))]) C dX4_count_81 (by decide) hl (k := 4) rfl (by decide) rfl (fun ls hl => ?_)
            refine lv_goto (tgt := 42) C.1 C.2.1 dX4_count_84 (by decide) ?_
            exact ih (i + 1) (by omega) _ (by unfold mCntN; rw [cnt, if_neg (by rw [decide_eq_false c_60, Bool.false_and]; decide)]) _ rfl (by omega) ls _ _ (lv_sub hl [2, 3, 4, 1, 0] rfl) hW
          refine lv_aload_n C.1 C.2.1 dX4_count_63 rfl (lv_at hl 0 rfl) ?_
          refine q_get (v := .ref (a 16)) C hW 0 rfl rfl 16 (by decide) gu_X4 (C.2.2.2.2 _ fl_X4_60) rfl rfl dX4_count_64 ?_
          refine lv_iload C.1 C.2.1 dX4_count_67 (lv_at hl 4 rfl) ?_
          refine q_caldC (f := mCa U9) C hW 17 rfl (k := i) (by omega) (by omega) dX4_count_69 ?_
          refine lv_iload_n C.1 C.2.1 dX4_count_70 rfl (lv_at hl 2 rfl) ?_
          refine q_ccne (tgt := 78) C dX4_count_71 (by decide) (fun c_71 => ?_) (fun c_71 => ?_)
          · refine lv_iconst (v := nI 0) C.1 C.2.1 dX4_count_78 (by decide) ?_
            refine q_iadd C dX4_count_79 ?_
            refine lv_istore_n (lv' := [(3, .int (nI (mCntN U9 n z i + 0))), (0, .ref h), (1, .int (nI n)), (2, .int (cI z)), (4, .int (nI i))]) C.1 C.2.1 dX4_count_80 rfl hl (by decide) rfl (fun ls hl => ?_)
            refine q_iinc (d := 1) (lv' := [(4, .int (nI (i + 1))), (3, .int (nI (mCntN U9 n z i + 0))), (0, .ref h), (1, .int (nI n)), (2, .int (cI z))]) C dX4_count_81 (by decide) hl (k := 4) rfl (by decide) rfl (fun ls hl => ?_)
            refine lv_goto (tgt := 42) C.1 C.2.1 dX4_count_84 (by decide) ?_
            exact ih (i + 1) (by omega) _ (by unfold mCntN; rw [cnt, if_neg (by rw [decide_eq_false c_71, Bool.and_false]; decide)]) _ rfl (by omega) ls _ _ (lv_sub hl [2, 3, 4, 1, 0] rfl) hW
          refine lv_iconst (v := nI 1) C.1 C.2.1 dX4_count_74 (by decide) ?_
          refine lv_goto (tgt := 79) C.1 C.2.1 dX4_count_75 (by decide) ?_
          refine q_iadd C dX4_count_79 ?_
          refine lv_istore_n (lv' := [(3, .int (nI (mCntN U9 n z i + 1))), (0, .ref h), (1, .int (nI n)), (2, .int (cI z)), (4, .int (nI i))]) C.1 C.2.1 dX4_count_80 rfl hl (by decide) rfl (fun ls hl => ?_)
          refine q_iinc (d := 1) (lv' := [(4, .int (nI (i + 1))), (3, .int (nI (mCntN U9 n z i + 1))), (0, .ref h), (1, .int (nI n)), (2, .int (cI z))]) C dX4_count_81 (by decide) hl (k := 4) rfl (by decide) rfl (fun ls hl => ?_)
          refine lv_goto (tgt := 42) C.1 C.2.1 dX4_count_84 (by decide) ?_
          exact ih (i + 1) (by omega) _ (by unfold mCntN; rw [cnt, if_pos (by rw [decide_eq_true c_60, decide_eq_true c_71]; rfl)]) _ rfl (by omega) ls _ _ (lv_sub hl [2, 3, 4, 1, 0] rfl) hW
      exact L_42 (mAc M - 0 + 1) 0 (by omega) _ rfl _ rfl (by omega) ls _ _ (lv_sub hl [2, 3, 4, 1, 0] rfl) hW
    refine lv_iconst (v := nI 2) C.1 C.2.1 dX4_count_20 (by decide) ?_
    refine lv_goto (tgt := 25) C.1 C.2.1 dX4_count_21 (by decide) ?_
    refine q_put C hW 0 rfl rfl 17 (by decide) gu_X4 tyX4_ok nmX4 (C.2.2.2.2 _ fl_X4_63) rfl rfl rfl rfl (Nat.le_of_ble_eq_true rfl) (wMc g h a (mWd M) (mPl M) (mSt M) (mUs M) (mLb M) (mNw M) (mAh M) (mMs M) (mLm M) (mLs M) (mFe M) (mUf M) (mWr M) (mCo M) (mNa M) (mCr M) (mCa M) 2 (mNm M) (mAc M) (mCk M) (mCp M)) rfl dX4_count_25 (fun H locs hW => ?_)
    refine lv_aload_n C.1 C.2.1 dX4_count_28 rfl (lv_at hl 0 rfl) ?_
    refine q_get (v := .int (nI 2)) C hW 0 rfl rfl 17 (by decide) gu_X4 (C.2.2.2.2 _ fl_X4_63) rfl rfl dX4_count_29 ?_
    refine q_zle (tgt := 37) C (by omega) dX4_count_32 (by decide) (fun c_32 => absurd c_32 (by decide)) (fun c_32 => ?_)
    refine lv_iconst (v := nI 0) C.1 C.2.1 dX4_count_35 (by decide) ?_
    exact q_iret C hRt hLk hW rfl (mWd M, mPl M, mSt M, mUs M, mLb M, mNw M, mAh M, mMs M, mLm M, mLs M, mFe M, mUf M, mWr M, mCo M, mNa M, mCr M, mCa M, 2, mNm M, mAc M, mCk M, mCp M) ⟨(Eq.symm (by unfold mCount; rw [hv_n, inR_nI hn9 (by omega)]; dsimp only; rw [if_neg (by rw [c_17]; decide)])), (Eq.symm (by unfold mCount; rw [hv_n, inR_nI hn9 (by omega)]; dsimp only; rw [if_neg (by rw [c_17]; decide)]))⟩  rfl (Nat.le_of_ble_eq_true rfl) (Nat.le_of_ble_eq_true rfl) dX4_count_36
  refine lv_iconst (v := nI 1) C.1 C.2.1 dX4_count_9 (by decide) ?_
  refine lv_goto (tgt := 25) C.1 C.2.1 dX4_count_10 (by decide) ?_
  refine q_put C hW 0 rfl rfl 17 (by decide) gu_X4 tyX4_ok nmX4 (C.2.2.2.2 _ fl_X4_63) rfl rfl rfl rfl (Nat.le_of_ble_eq_true rfl) (wMc g h a (mWd M) (mPl M) (mSt M) (mUs M) (mLb M) (mNw M) (mAh M) (mMs M) (mLm M) (mLs M) (mFe M) (mUf M) (mWr M) (mCo M) (mNa M) (mCr M) (mCa M) 1 (mNm M) (mAc M) (mCk M) (mCp M)) rfl dX4_count_25 (fun H locs hW => ?_)
  refine lv_aload_n C.1 C.2.1 dX4_count_28 rfl (lv_at hl 0 rfl) ?_
  refine q_get (v := .int (nI 1)) C hW 0 rfl rfl 17 (by decide) gu_X4 (C.2.2.2.2 _ fl_X4_63) rfl rfl dX4_count_29 ?_
  refine q_zle (tgt := 37) C (by omega) dX4_count_32 (by decide) (fun c_32 => absurd c_32 (by decide)) (fun c_32 => ?_)
  refine lv_iconst (v := nI 0) C.1 C.2.1 dX4_count_35 (by decide) ?_
  exact q_iret C hRt hLk hW rfl (mWd M, mPl M, mSt M, mUs M, mLb M, mNw M, mAh M, mMs M, mLm M, mLs M, mFe M, mUf M, mWr M, mCo M, mNa M, mCr M, mCa M, 1, mNm M, mAc M, mCk M, mCp M) ⟨(Eq.symm (by unfold mCount; rw [inR_none_of c_6]; try rfl)), (Eq.symm (by unfold mCount; rw [inR_none_of c_6]; try rfl))⟩  rfl (Nat.le_of_ble_eq_true rfl) (Nat.le_of_ble_eq_true rfl) dX4_count_36

theorem hd_X4_missShare : yX4_missShare.cls = RX4 ∧ yX4_missShare.cls ≠ "java/lang/invoke/MethodHandle" ∧ yX4_missShare.cls ≠ "java/lang/invoke/VarHandle" ∧ (parseMethodDescriptor yX4_missShare.desc).map (fun d => d.parameters.length) = some 0 := by decide +kernel
set_option maxHeartbeats 4000000 in
set_option maxRecDepth 100000 in
theorem c_X4_missShare (l : Launch) (D : va_G) (g : Nat → ClassId) (h : Nat) (a : Nat → Nat) (M : MdS) (hM : MOK M) (ha : mAc M < 512) (sz : Nat) : qMf l yX4_missShare (.code yX4_missShare cX4_missShare 3 (some .float) :: GW) ({ frames := 1, cells := 0, slots := 0, locals := 21 } : Room) D g [.ref h] (wM g h a M) sz (fun (r : UInt32) (u : MdS) => (mShareF M).1 = r ∧ ((mShareF M).2) = u) (fun (u : MdS) => (wM g h a u)) 0 0 := by
  refine q_entry (cc := cX4_missShare) (nL := 3) (ret := (some .float)) rfl (by decide) (Nat.le_of_ble_eq_true rfl) (fun pp ee ss mm bb mt kc ls C hRt hLk hin hsz hW hl => ?_)
  have hl : lv_has ls 3 [(0, .ref h)] := hl
  have h12 := hM.1
  have hcp1 := hM.2.2.2.2.1
  have hcp2 := hM.2.2.2.2.2.2
  refine lv_iconst (v := nI 0) C.1 C.2.1 dX4_missShare_0 (by decide) ?_
  refine lv_istore_n (lv' := [(1, .int (nI 0)), (0, .ref h)]) C.1 C.2.1 dX4_missShare_1 rfl hl (by decide) rfl (fun ls hl => ?_)
  refine lv_iconst (v := nI 0) C.1 C.2.1 dX4_missShare_2 (by decide) ?_
  refine lv_istore_n (lv' := [(2, .int (nI 0)), (1, .int (nI 0)), (0, .ref h)]) C.1 C.2.1 dX4_missShare_3 rfl hl (by decide) rfl (fun ls hl => ?_)
  have L_4 : ∀ (nf : Nat) (i : Nat) (hi : i ≤ mAc M) (x1 : Int32) (e1 : x1 = nI (mMissN M i)) (x2 : Int32) (e2 : x2 = nI i) (hmu : mAc M - i < nf) (ls : Array Slot) (H : Heap) (locs : List Loc), lv_has ls 3 [(0, .ref h), (1, .int x1), (2, .int x2)] → qW D g (va_A (wM g h a M) sz) ss.heap ss (wM g h a M) H locs → W pp l ee ({ frames := 1, cells := 0, slots := 0, locals := 21 } : Room) ss mm [.ref h].toArray bb mt kc H locs 0 0 (MQ bb (va_Qf (fun (r : UInt32) (u : MdS) => (mShareF M).1 = r ∧ ((mShareF M).2) = u) (qB D g (wM g h a M) sz (fun (u : MdS) => (wM g h a u))) (va_A (wM g h a M) sz)) [.ref h].toArray ss 0 0 (va_A (wM g h a M) sz)) (F0 mm 4 ls []) := by
    intro nf
    induction nf with
    | zero =>
      intro i hi x1 e1 x2 e2 hmu ls H locs hl hW
      exact absurd hmu (by omega)
    | succ nf ih =>
      intro i hi x1 e1 x2 e2 hmu ls H locs hl hW
      subst e1
      subst e2
      refine lv_iload_n C.1 C.2.1 dX4_missShare_4 rfl (lv_at hl 2 rfl) ?_
      refine lv_aload_n C.1 C.2.1 dX4_missShare_5 rfl (lv_at hl 0 rfl) ?_
      refine q_get (v := .int (nI (mAc M))) C hW 0 rfl rfl 19 (by decide) gu_X4 (C.2.2.2.2 _ fl_X4_70) rfl rfl dX4_missShare_6 ?_
      refine q_ge (tgt := 48) C (by omega) (by omega) dX4_missShare_9 (by decide) (fun c_9 => ?_) (fun c_9 => ?_)
      · refine lv_aload_n C.1 C.2.1 dX4_missShare_48 rfl (lv_at hl 0 rfl) ?_
        refine lv_aload_n C.1 C.2.1 dX4_missShare_49 rfl (lv_at hl 0 rfl) ?_
        refine q_get (v := .int (nI (mAc M))) C hW 0 rfl rfl 19 (by decide) gu_X4 (C.2.2.2.2 _ fl_X4_70) rfl rfl dX4_missShare_50 ?_
        refine q_zle (tgt := 60) C (by omega) dX4_missShare_53 (by decide) (fun c_53 => ?_) (fun c_53 => ?_)
        · refine lv_iconst (v := nI 0) C.1 C.2.1 dX4_missShare_60 (by decide) ?_
          refine q_to (y := bI false) rfl ?_
          refine q_callVi (rest := []) C (c_X4_checked_F l D g h a M hM _) (gw_V ml_X4_92 im_X4_checked se_X4_X4_checked ini_X4 cd_X4_checked rfl) rfl rfl rfl hd_X4_checked ⟨Nat.le_of_ble_eq_true rfl, Nat.le_of_ble_eq_true rfl⟩ hW pm_all (fun u_1 => (wM g h a u_1)) (fun _ => pm_all) rfl rfl hl.1 rfl (Nat.le_of_ble_eq_true rfl) ⟨Nat.le_of_ble_eq_true rfl, Nat.le_of_ble_eq_true rfl⟩ dX4_missShare_61 (fun r_1 u_1 H locs e_1 hW => ?_)
          obtain ⟨rfl, e_1⟩ := e_1
          refine q_zle (tgt := 71) C (by omega) dX4_missShare_64 (by decide) (fun c_64 => absurd c_64 (by decide)) (fun c_64 => ?_)
          refine lv_fconst0 C.1 C.2.1 dX4_missShare_67 ?_
          refine lv_goto (tgt := 79) C.1 C.2.1 dX4_missShare_68 (by decide) ?_
          exact q_fret C hRt hLk hW u_1 ⟨(Eq.symm (by unfold mShareF; rw [if_pos (by omega)]; try rfl)), (Eq.symm (by unfold mShareF; rw [if_pos (by omega)]; exact e_1.symm))⟩  rfl (Nat.le_of_ble_eq_true rfl) (Nat.le_of_ble_eq_true rfl) dX4_missShare_79
        refine lv_iconst (v := nI 1) C.1 C.2.1 dX4_missShare_56 (by decide) ?_
        refine lv_goto (tgt := 61) C.1 C.2.1 dX4_missShare_57 (by decide) ?_
        refine q_to (y := bI true) rfl ?_
        refine q_callVi (rest := []) C (c_X4_checked_T l D g h a M hM _) (gw_V ml_X4_92 im_X4_checked se_X4_X4_checked ini_X4 cd_X4_checked rfl) rfl rfl rfl hd_X4_checked ⟨Nat.le_of_ble_eq_true rfl, Nat.le_of_ble_eq_true rfl⟩ hW pm_all (fun u_2 => (wM g h a u_2)) (fun _ => pm_all) rfl rfl hl.1 rfl (Nat.le_of_ble_eq_true rfl) ⟨Nat.le_of_ble_eq_true rfl, Nat.le_of_ble_eq_true rfl⟩ dX4_missShare_61 (fun r_2 u_2 H locs e_2 hW => ?_)
        obtain ⟨rfl, e_2⟩ := e_2
        subst e_2
        have hMu : MOK (sTh M 0) := hM.same ⟨rfl, rfl, rfl, rfl, rfl⟩
        have hAu : mAc (sTh M 0) = mAc M := rfl
        have hNu : mNm (sTh M 0) = mNm M := rfl
        have hCu : mCp (sTh M 0) = mCp M := rfl
        refine q_zle (tgt := 71) C (by omega) dX4_missShare_64 (by decide) (fun c_64 => ?_) (fun c_64 => absurd c_64 (by decide))
        refine lv_iload_n C.1 C.2.1 dX4_missShare_71 rfl (lv_at hl 1 rfl) ?_
        refine lv_i2f (x := (nI (mMissN M i))) C.1 C.2.1 dX4_missShare_72 ?_
        refine lv_aload_n C.1 C.2.1 dX4_missShare_73 rfl (lv_at hl 0 rfl) ?_
        refine q_get (v := .int (nI (mAc (sTh M 0)))) C hW 0 rfl rfl 19 (by decide) gu_X4 (C.2.2.2.2 _ fl_X4_70) rfl rfl dX4_missShare_74 ?_
        refine lv_i2f (x := (nI (mAc (sTh M 0)))) C.1 C.2.1 dX4_missShare_77 ?_
        refine lv_fdiv C.1 C.2.1 dX4_missShare_78 (n32_of (fdiv_ok _ (show 0 < mAc M by omega) (show mAc M < 513 by omega))) ?_
        exact q_fret C hRt hLk hW (sTh M 0) ⟨(Eq.symm (by obtain rfl : i = mAc M := (by omega); unfold mShareF; rw [if_neg (by omega)]; try rfl)), (Eq.symm (by obtain rfl : i = mAc M := (by omega); unfold mShareF; rw [if_neg (by omega)]; try rfl))⟩  rfl (Nat.le_of_ble_eq_true rfl) (Nat.le_of_ble_eq_true rfl) dX4_missShare_79
      refine lv_iload_n C.1 C.2.1 dX4_missShare_12 rfl (lv_at hl 1 rfl) ?_
      refine lv_aload_n C.1 C.2.1 dX4_missShare_13 rfl (lv_at hl 0 rfl) ?_
      refine q_get (v := .ref (a 16)) C hW 0 rfl rfl 16 (by decide) gu_X4 (C.2.2.2.2 _ fl_X4_60) rfl rfl dX4_missShare_14 ?_
      refine lv_iload_n C.1 C.2.1 dX4_missShare_17 rfl (lv_at hl 2 rfl) ?_
      refine q_caldC (f := mCa M) C hW 17 rfl (k := i) (by omega) (by omega) dX4_missShare_18 ?_
      refine lv_bipush (v := nI 104) C.1 C.2.1 dX4_missShare_19 (by decide) ?_
      refine q_ceq (tgt := 35) (y := 104) C (by decide) dX4_missShare_21 (by decide) (fun c_21 => ?_) (fun c_21 => ?_)
      · refine lv_iconst (v := nI 0) C.1 C.2.1 dX4_missShare_35 (by decide) ?_
        refine lv_goto (tgt := 40) C.1 C.2.1 dX4_missShare_36 (by decide) ?_
        refine q_iadd C dX4_missShare_40 ?_
        refine lv_istore_n (lv' := [(1, .int (nI (mMissN M i + 0))), (0, .ref h), (2, .int (nI i))]) C.1 C.2.1 dX4_missShare_41 rfl hl (by decide) rfl (fun ls hl => ?_)
        refine q_iinc (d := 1) (lv' := [(2, .int (nI (i + 1))), (1, .int (nI (mMissN M i + 0))), (0, .ref h)]) C dX4_missShare_42 (by decide) hl (k := 2) rfl (by decide) rfl (fun ls hl => ?_)
        refine lv_goto (tgt := 4) C.1 C.2.1 dX4_missShare_45 (by decide) ?_
        exact ih (i + 1) (by omega) _ (by unfold mMissN; rw [cnt, if_neg (by unfold missB; rw [c_21]; decide)]) _ rfl (by omega) ls _ _ (lv_sub hl [2, 1, 0] rfl) hW
      refine lv_aload_n C.1 C.2.1 dX4_missShare_24 rfl (lv_at hl 0 rfl) ?_
      refine q_get (v := .ref (a 16)) C hW 0 rfl rfl 16 (by decide) gu_X4 (C.2.2.2.2 _ fl_X4_60) rfl rfl dX4_missShare_25 ?_
      refine lv_iload_n C.1 C.2.1 dX4_missShare_28 rfl (lv_at hl 2 rfl) ?_
      refine q_caldC (f := mCa M) C hW 17 rfl (k := i) (by omega) (by omega) dX4_missShare_29 ?_
      refine lv_bipush (v := nI 117) C.1 C.2.1 dX4_missShare_30 (by decide) ?_
      refine q_cne (tgt := 39) (y := 117) C (by decide) dX4_missShare_32 (by decide) (fun c_32 => ?_) (fun c_32 => ?_)
      · refine lv_iconst (v := nI 1) C.1 C.2.1 dX4_missShare_39 (by decide) ?_
        refine q_iadd C dX4_missShare_40 ?_
        refine lv_istore_n (lv' := [(1, .int (nI (mMissN M i + 1))), (0, .ref h), (2, .int (nI i))]) C.1 C.2.1 dX4_missShare_41 rfl hl (by decide) rfl (fun ls hl => ?_)
        refine q_iinc (d := 1) (lv' := [(2, .int (nI (i + 1))), (1, .int (nI (mMissN M i + 1))), (0, .ref h)]) C dX4_missShare_42 (by decide) hl (k := 2) rfl (by decide) rfl (fun ls hl => ?_)
        refine lv_goto (tgt := 4) C.1 C.2.1 dX4_missShare_45 (by decide) ?_
        exact ih (i + 1) (by omega) _ (by unfold mMissN; rw [cnt, if_pos (by unfold missB; rw [decide_eq_true c_21, decide_eq_true c_32]; rfl)]) _ rfl (by omega) ls _ _ (lv_sub hl [2, 1, 0] rfl) hW
      refine lv_iconst (v := nI 0) C.1 C.2.1 dX4_missShare_35 (by decide) ?_
      refine lv_goto (tgt := 40) C.1 C.2.1 dX4_missShare_36 (by decide) ?_
      refine q_iadd C dX4_missShare_40 ?_
      refine lv_istore_n (lv' := [(1, .int (nI (mMissN M i + 0))), (0, .ref h), (2, .int (nI i))]) C.1 C.2.1 dX4_missShare_41 rfl hl (by decide) rfl (fun ls hl => ?_)
      refine q_iinc (d := 1) (lv' := [(2, .int (nI (i + 1))), (1, .int (nI (mMissN M i + 0))), (0, .ref h)]) C dX4_missShare_42 (by decide) hl (k := 2) rfl (by decide) rfl (fun ls hl => ?_)
      refine lv_goto (tgt := 4) C.1 C.2.1 dX4_missShare_45 (by decide) ?_
      exact ih (i + 1) (by omega) _ (by unfold mMissN; rw [cnt, if_neg (by unfold missB; rw [c_32]; decide)]) _ rfl (by omega) ls _ _ (lv_sub hl [2, 1, 0] rfl) hW
  exact L_4 (mAc M - 0 + 1) 0 (by omega) _ rfl _ rfl (by omega) ls _ _ (lv_sub hl [2, 1, 0] rfl) hW

theorem hd_X4_meanCost : yX4_meanCost.cls = RX4 ∧ yX4_meanCost.cls ≠ "java/lang/invoke/MethodHandle" ∧ yX4_meanCost.cls ≠ "java/lang/invoke/VarHandle" ∧ (parseMethodDescriptor yX4_meanCost.desc).map (fun d => d.parameters.length) = some 0 := by decide +kernel
set_option maxHeartbeats 4000000 in
set_option maxRecDepth 100000 in
theorem c_X4_meanCost (l : Launch) (D : va_G) (g : Nat → ClassId) (h : Nat) (a : Nat → Nat) (M : MdS) (hM : MOK M) (ha : mAc M < 512) (sz : Nat) : qMd l yX4_meanCost (.code yX4_meanCost cX4_meanCost 4 (some .double) :: GW) ({ frames := 1, cells := 0, slots := 0, locals := 21 } : Room) D g [.ref h] (wM g h a M) sz (fun (r : UInt64) (u : MdS) => (mMean M).1 = r ∧ ((mMean M).2) = u) (fun (u : MdS) => (wM g h a u)) 0 0 := by
  refine q_entry (cc := cX4_meanCost) (nL := 4) (ret := (some .double)) rfl (by decide) (Nat.le_of_ble_eq_true rfl) (fun pp ee ss mm bb mt kc ls C hRt hLk hin hsz hW hl => ?_)
  have hl : lv_has ls 4 [(0, .ref h)] := hl
  have h12 := hM.1
  have hcp1 := hM.2.2.2.2.1
  have hcp2 := hM.2.2.2.2.2.2
  refine lv_lconst (v := 0) C.1 C.2.1 dX4_meanCost_0 rfl ?_
  refine lv_lstore_n (lv' := [(1, .long 0), (0, .ref h)]) C.1 C.2.1 dX4_meanCost_1 rfl hl (by decide) rfl (fun ls hl => ?_)
  refine lv_iconst (v := nI 0) C.1 C.2.1 dX4_meanCost_2 (by decide) ?_
  refine lv_istore_n (lv' := [(3, .int (nI 0)), (1, .long 0), (0, .ref h)]) C.1 C.2.1 dX4_meanCost_3 rfl hl (by decide) rfl (fun ls hl => ?_)
  have L_4 : ∀ (nf : Nat) (i : Nat) (hi : i ≤ mAc M) (x1 : Int64) (e1 : x1 = mSumN M i) (x3 : Int32) (e3 : x3 = nI i) (hmu : mAc M - i < nf) (ls : Array Slot) (H : Heap) (locs : List Loc), lv_has ls 4 [(0, .ref h), (1, .long x1), (3, .int x3)] → qW D g (va_A (wM g h a M) sz) ss.heap ss (wM g h a M) H locs → W pp l ee ({ frames := 1, cells := 0, slots := 0, locals := 21 } : Room) ss mm [.ref h].toArray bb mt kc H locs 0 0 (MQ bb (va_Qd (fun (r : UInt64) (u : MdS) => (mMean M).1 = r ∧ ((mMean M).2) = u) (qB D g (wM g h a M) sz (fun (u : MdS) => (wM g h a u))) (va_A (wM g h a M) sz)) [.ref h].toArray ss 0 0 (va_A (wM g h a M) sz)) (F0 mm 4 ls []) := by
    intro nf
    induction nf with
    | zero =>
      intro i hi x1 e1 x3 e3 hmu ls H locs hl hW
      exact absurd hmu (by omega)
    | succ nf ih =>
      intro i hi x1 e1 x3 e3 hmu ls H locs hl hW
      subst e1
      subst e3
      refine lv_iload_n C.1 C.2.1 dX4_meanCost_4 rfl (lv_at hl 2 rfl) ?_
      refine lv_aload_n C.1 C.2.1 dX4_meanCost_5 rfl (lv_at hl 0 rfl) ?_
      refine q_get (v := .int (nI (mAc M))) C hW 0 rfl rfl 19 (by decide) gu_X4 (C.2.2.2.2 _ fl_X4_70) rfl rfl dX4_meanCost_6 ?_
      refine q_ge (tgt := 28) C (by omega) (by omega) dX4_meanCost_9 (by decide) (fun c_9 => ?_) (fun c_9 => ?_)
      · refine lv_aload_n C.1 C.2.1 dX4_meanCost_28 rfl (lv_at hl 0 rfl) ?_
        refine lv_aload_n C.1 C.2.1 dX4_meanCost_29 rfl (lv_at hl 0 rfl) ?_
        refine q_get (v := .int (nI (mAc M))) C hW 0 rfl rfl 19 (by decide) gu_X4 (C.2.2.2.2 _ fl_X4_70) rfl rfl dX4_meanCost_30 ?_
        refine q_zle (tgt := 40) C (by omega) dX4_meanCost_33 (by decide) (fun c_33 => ?_) (fun c_33 => ?_)
        · refine lv_iconst (v := nI 0) C.1 C.2.1 dX4_meanCost_40 (by decide) ?_
          refine q_to (y := bI false) rfl ?_
          refine q_callVi (rest := []) C (c_X4_checked_F l D g h a M hM _) (gw_V ml_X4_92 im_X4_checked se_X4_X4_checked ini_X4 cd_X4_checked rfl) rfl rfl rfl hd_X4_checked ⟨Nat.le_of_ble_eq_true rfl, Nat.le_of_ble_eq_true rfl⟩ hW pm_all (fun u_1 => (wM g h a u_1)) (fun _ => pm_all) rfl rfl hl.1 rfl (Nat.le_of_ble_eq_true rfl) ⟨Nat.le_of_ble_eq_true rfl, Nat.le_of_ble_eq_true rfl⟩ dX4_meanCost_41 (fun r_1 u_1 H locs e_1 hW => ?_)
          obtain ⟨rfl, e_1⟩ := e_1
          refine q_zle (tgt := 51) C (by omega) dX4_meanCost_44 (by decide) (fun c_44 => absurd c_44 (by decide)) (fun c_44 => ?_)
          refine lv_dconst0 C.1 C.2.1 dX4_meanCost_47 ?_
          refine lv_goto (tgt := 59) C.1 C.2.1 dX4_meanCost_48 (by decide) ?_
          exact q_dret C hRt hLk hW u_1 ⟨(Eq.symm (by unfold mMean; rw [if_pos (by omega)]; try rfl)), (Eq.symm (by unfold mMean; rw [if_pos (by omega)]; exact e_1.symm))⟩  rfl (Nat.le_of_ble_eq_true rfl) (Nat.le_of_ble_eq_true rfl) dX4_meanCost_59
        refine lv_iconst (v := nI 1) C.1 C.2.1 dX4_meanCost_36 (by decide) ?_
        refine lv_goto (tgt := 41) C.1 C.2.1 dX4_meanCost_37 (by decide) ?_
        refine q_to (y := bI true) rfl ?_
        refine q_callVi (rest := []) C (c_X4_checked_T l D g h a M hM _) (gw_V ml_X4_92 im_X4_checked se_X4_X4_checked ini_X4 cd_X4_checked rfl) rfl rfl rfl hd_X4_checked ⟨Nat.le_of_ble_eq_true rfl, Nat.le_of_ble_eq_true rfl⟩ hW pm_all (fun u_2 => (wM g h a u_2)) (fun _ => pm_all) rfl rfl hl.1 rfl (Nat.le_of_ble_eq_true rfl) ⟨Nat.le_of_ble_eq_true rfl, Nat.le_of_ble_eq_true rfl⟩ dX4_meanCost_41 (fun r_2 u_2 H locs e_2 hW => ?_)
        obtain ⟨rfl, e_2⟩ := e_2
        subst e_2
        have hMu : MOK (sTh M 0) := hM.same ⟨rfl, rfl, rfl, rfl, rfl⟩
        have hAu : mAc (sTh M 0) = mAc M := rfl
        have hNu : mNm (sTh M 0) = mNm M := rfl
        have hCu : mCp (sTh M 0) = mCp M := rfl
        refine q_zle (tgt := 51) C (by omega) dX4_meanCost_44 (by decide) (fun c_44 => ?_) (fun c_44 => absurd c_44 (by decide))
        refine lv_lload_n C.1 C.2.1 dX4_meanCost_51 rfl (lv_at hl 1 rfl) ?_
        refine lv_l2d (x := (mSumN M i)) C.1 C.2.1 dX4_meanCost_52 ?_
        refine lv_aload_n C.1 C.2.1 dX4_meanCost_53 rfl (lv_at hl 0 rfl) ?_
        refine q_get (v := .int (nI (mAc (sTh M 0)))) C hW 0 rfl rfl 19 (by decide) gu_X4 (C.2.2.2.2 _ fl_X4_70) rfl rfl dX4_meanCost_54 ?_
        refine lv_i2d (x := (nI (mAc (sTh M 0)))) C.1 C.2.1 dX4_meanCost_57 ?_
        refine lv_ddiv C.1 C.2.1 dX4_meanCost_58 (n64_of (ddiv_ok _ (show 0 < mAc M by omega) (show mAc M < 513 by omega))) ?_
        exact q_dret C hRt hLk hW (sTh M 0) ⟨(Eq.symm (by obtain rfl : i = mAc M := (by omega); unfold mMean; rw [if_neg (by omega)]; try rfl)), (Eq.symm (by obtain rfl : i = mAc M := (by omega); unfold mMean; rw [if_neg (by omega)]; try rfl))⟩  rfl (Nat.le_of_ble_eq_true rfl) (Nat.le_of_ble_eq_true rfl) dX4_meanCost_59
      refine lv_lload_n C.1 C.2.1 dX4_meanCost_12 rfl (lv_at hl 1 rfl) ?_
      refine lv_aload_n C.1 C.2.1 dX4_meanCost_13 rfl (lv_at hl 0 rfl) ?_
      refine q_get (v := .ref (a 13)) C hW 0 rfl rfl 13 (by decide) gu_X4 (C.2.2.2.2 _ fl_X4_51) rfl rfl dX4_meanCost_14 ?_
      refine lv_iload_n C.1 C.2.1 dX4_meanCost_17 rfl (lv_at hl 2 rfl) ?_
      refine q_ialdN (f := mCo M) C hW 14 rfl (k := i) (by omega) (by omega) dX4_meanCost_18 ?_
      refine lv_i2l (v := (nI ((mCo M) i)).toInt64) C.1 C.2.1 dX4_meanCost_19 rfl ?_
      refine lv_ladd C.1 C.2.1 dX4_meanCost_20 ?_
      refine lv_lstore_n (lv' := [(1, .long ((mSumN M i) + ((nI ((mCo M) i)).toInt64))), (0, .ref h), (3, .int (nI i))]) C.1 C.2.1 dX4_meanCost_21 rfl hl (by decide) rfl (fun ls hl => ?_)
      refine q_iinc (d := 1) (lv' := [(3, .int (nI (i + 1))), (1, .long ((mSumN M i) + ((nI ((mCo M) i)).toInt64))), (0, .ref h)]) C dX4_meanCost_22 (by decide) hl (k := 2) rfl (by decide) rfl (fun ls hl => ?_)
      refine lv_goto (tgt := 4) C.1 C.2.1 dX4_meanCost_25 (by decide) ?_
      exact ih (i + 1) (by omega) _ (by unfold mSumN; rw [sumL, if_pos rfl]) _ rfl (by omega) ls _ _ (lv_sub hl [2, 1, 0] rfl) hW
  exact L_4 (mAc M - 0 + 1) 0 (by omega) _ rfl _ rfl (by omega) ls _ _ (lv_sub hl [2, 1, 0] rfl) hW
