theorem hd_X4_link : yX4_link.cls = RX4 ∧ yX4_link.cls ≠ "java/lang/invoke/MethodHandle" ∧ yX4_link.cls ≠ "java/lang/invoke/VarHandle" ∧ (parseMethodDescriptor yX4_link.desc).map (fun d => d.parameters.length) = some 1 := by decide +kernel
set_option maxHeartbeats 4000000 in
set_option maxRecDepth 100000 in
theorem c_X4_link (l : Launch) (D : va_G) (g : Nat → ClassId) (h : Nat) (a : Nat → Nat) (M : MdS) (v : Int32) (hM : MOK M) (sz : Nat) : qMi l yX4_link (.code yX4_link cX4_link 5 (some .int) :: GW) ({ frames := 4, cells := 1, slots := 12, locals := 90 } : Room) D g [.ref h, .int v] (wM g h a M) sz (fun (r : Int32) (u : MdS) => nI ((mLink M v).1) = r ∧ ((mLink M v).2) = u) (fun (u : MdS) => (wM g h a u)) 1 12 := by
  refine q_entry (cc := cX4_link) (nL := 5) (ret := (some .int)) rfl (by decide) (Nat.le_of_ble_eq_true rfl) (fun pp ee ss mm bb mt kc ls C hRt hLk hin hsz hW hl => ?_)
  have hl : lv_has ls 5 [(0, .ref h), (1, .int v)] := hl
  have h12 := hM.1
  have hcp1 := hM.2.2.2.2.1
  have hcp2 := hM.2.2.2.2.2.2
  refine lv_aload_n C.1 C.2.1 dX4_link_0 rfl (lv_at hl 0 rfl) ?_
  refine lv_iload_n C.1 C.2.1 dX4_link_1 rfl (lv_at hl 1 rfl) ?_
  refine lv_iconst (v := nI 1) C.1 C.2.1 dX4_link_2 (by decide) ?_
  refine lv_bipush (v := nI 64) C.1 C.2.1 dX4_link_3 (by decide) ?_
  refine q_callSi (rest := [.ref h]) C (c_X4_in l D g v (nI 1) (nI 64) _) (gw_S ml_X4_76 sm_X4_in ini_X4 cd_X4_in rfl) rfl rfl rfl hd_X4_in ⟨Nat.le_of_ble_eq_true rfl, Nat.le_of_ble_eq_true rfl⟩ hW (List.Perm.refl _) (fun (u_1 : Unit) => (wM g h a M)) (fun _ => List.Perm.refl _) hl.1 rfl (Nat.le_of_ble_eq_true rfl) ⟨Nat.le_of_ble_eq_true rfl, Nat.le_of_ble_eq_true rfl⟩ dX4_link_5 (fun r_1 u_1 H locs e_1 hW => ?_)
  subst e_1
  refine q_to (y := bI ((inP 64 v).isSome)) (by rw [inB_inP]) ?_
  rcases hb : (inP 64 v).isSome with _ | _
  · refine q_callVi (rest := []) C (c_X4_checked_F l D g h a M hM _) (gw_V ml_X4_92 im_X4_checked se_X4_X4_checked ini_X4 cd_X4_checked rfl) rfl rfl rfl hd_X4_checked ⟨Nat.le_of_ble_eq_true rfl, Nat.le_of_ble_eq_true rfl⟩ hW pm_all (fun u_2 => (wM g h a u_2)) (fun _ => pm_all) rfl rfl hl.1 rfl (Nat.le_of_ble_eq_true rfl) ⟨Nat.le_of_ble_eq_true rfl, Nat.le_of_ble_eq_true rfl⟩ dX4_link_8 (fun r_2 u_2 H locs e_2 hW => ?_)
    obtain ⟨rfl, e_2⟩ := e_2
    refine q_zle (tgt := 16) C (by omega) dX4_link_11 (by decide) (fun c_11 => absurd c_11 (by decide)) (fun c_11 => ?_)
    refine lv_iconst (v := nI 0) C.1 C.2.1 dX4_link_14 (by decide) ?_
    exact q_iret C hRt hLk hW rfl u_2 ⟨(Eq.symm (by unfold mLink; rw [inP_none_of hb]; try rfl)), (Eq.symm (by unfold mLink; rw [inP_none_of hb]; exact e_2.symm))⟩  rfl (Nat.le_of_ble_eq_true rfl) (Nat.le_of_ble_eq_true rfl) dX4_link_15
  obtain ⟨al, hal1, hal2, hv9, hinP⟩ := inP_of (by decide) hb
  rw [hv9] at hl
  have hl : lv_has ls 5 [(0, .ref h), (1, .int (nI al))] := hl
  refine q_callVi (rest := []) C (c_X4_checked_T l D g h a M hM _) (gw_V ml_X4_92 im_X4_checked se_X4_X4_checked ini_X4 cd_X4_checked rfl) rfl rfl rfl hd_X4_checked ⟨Nat.le_of_ble_eq_true rfl, Nat.le_of_ble_eq_true rfl⟩ hW pm_all (fun u_3 => (wM g h a u_3)) (fun _ => pm_all) rfl rfl hl.1 rfl (Nat.le_of_ble_eq_true rfl) ⟨Nat.le_of_ble_eq_true rfl, Nat.le_of_ble_eq_true rfl⟩ dX4_link_8 (fun r_3 u_3 H locs e_3 hW => ?_)
  obtain ⟨rfl, e_3⟩ := e_3
  have hMu : MOK u_3 := by rw [← e_3]; exact hM.same ⟨rfl, rfl, rfl, rfl, rfl⟩
  have hAu : mAc u_3 = mAc M := by rw [← e_3]
  have hNu : mNm u_3 = mNm M := by rw [← e_3]
  have hCu : mCp u_3 = mCp M := by rw [← e_3]
  obtain ⟨U9, hU9⟩ : ∃ U9, U9 = u_3 := ⟨_, rfl⟩
  rw [← hU9] at hW hMu hAu hNu hCu e_3
  have hth : mTh U9 = 0 := by rw [← e_3]
  refine q_zle (tgt := 16) C (by omega) dX4_link_11 (by decide) (fun c_11 => ?_) (fun c_11 => absurd c_11 (by decide))
  refine lv_bipush (v := nI 12) C.1 C.2.1 dX4_link_16 (by decide) ?_
  refine q_newa (atype := .int) C hW rfl 1 rfl (fun _ _ h9 => h9) (C.2.2.2.2 _ ac_53) (12, .inl (aO (fun _ => some 0))) (fun _ => rfl) (by decide) (by decide) (Nat.le_of_ble_eq_true rfl) (Nat.le_of_ble_eq_true rfl) dX4_link_18 (fun q_18 H hW => ?_)
  have hW : qW D g (va_A (wM g h a M) sz) ss.heap ss ((wM g h a U9) ++ [(q_18, .inl (g 1, 12, .inl (aO (fun _ => some 0))))]) H _ := hW
  refine lv_astore_n (lv' := [(2, .ref q_18), (0, .ref h), (1, .int (nI al))]) C.1 C.2.1 dX4_link_20 rfl hl (by decide) rfl (fun ls hl => ?_)
  refine lv_iconst (v := nI 0) C.1 C.2.1 dX4_link_21 (by decide) ?_
  refine lv_istore_n (lv' := [(3, .int (nI 0)), (2, .ref q_18), (0, .ref h), (1, .int (nI al))]) C.1 C.2.1 dX4_link_22 rfl hl (by decide) rfl (fun ls hl => ?_)
  refine lv_iconst (v := nI 0) C.1 C.2.1 dX4_link_23 (by decide) ?_
  refine lv_istore (lv' := [(4, .int (nI 0)), (3, .int (nI 0)), (2, .ref q_18), (0, .ref h), (1, .int (nI al))]) C.1 C.2.1 dX4_link_24 hl (by decide) rfl (fun ls hl => ?_)
  have L_26 : ∀ (nf : Nat) (i : Nat) (hi : i ≤ 12) (x4 : Int32) (e4 : x4 = nI i) (hmu : 12 - i < nf) (ls : Array Slot) (H : Heap) (locs : List Loc), lv_has ls 5 [(3, .int (nI 0)), (2, .ref q_18), (0, .ref h), (1, .int (nI al)), (4, .int x4)] → qW D g (va_A (wM g h a M) sz) ss.heap ss ((wM g h a U9) ++ [(q_18, .inl (g 1, 12, .inl (aO (growO (mPl U9) i))))]) H locs → W pp l ee ({ frames := 4, cells := 1, slots := 12, locals := 90 } : Room) ss mm [.ref h, .int v].toArray bb mt kc H locs 1 12 (MQ bb (va_Qi (fun (r : Int32) (u : MdS) => nI ((mLink M v).1) = r ∧ ((mLink M v).2) = u) (qB D g (wM g h a M) sz (fun (u : MdS) => (wM g h a u))) (va_A (wM g h a M) sz)) [.ref h, .int v].toArray ss 1 12 (va_A (wM g h a M) sz)) (F0 mm 26 ls []) := by
    intro nf
    induction nf with
    | zero =>
      intro i hi x4 e4 hmu ls H locs hl hW
      exact absurd hmu (by omega)
    | succ nf ih =>
      intro i hi x4 e4 hmu ls H locs hl hW
      subst e4
      refine lv_iload C.1 C.2.1 dX4_link_26 (lv_at hl 4 rfl) ?_
      refine lv_bipush (v := nI 12) C.1 C.2.1 dX4_link_28 (by decide) ?_
      refine q_ge (tgt := 50) C (by omega) (by omega) dX4_link_30 (by decide) (fun c_30 => ?_) (fun c_30 => ?_)
      · rw [show i = 12 by omega] at hW
        have L_120 : ∀ (x3 : Int32) (e3 : x3 = nI ((mLkN U9 al (mNm M)).1)) (M4 : MdS) (eM4 : M4 = (mLkN U9 al (mNm M)).2) (ls : Array Slot) (H : Heap) (locs : List Loc), lv_has ls 5 [(0, .ref h), (1, .int (nI al)), (2, .ref q_18), (3, .int x3)] → qW D g (va_A (wM g h a M) sz) ss.heap ss ((wM g h a M4) ++ [(q_18, .inl (g 1, 12, .inl (aO (growO (mPl U9) 12))))]) H locs → W pp l ee ({ frames := 4, cells := 1, slots := 12, locals := 90 } : Room) ss mm [.ref h, .int v].toArray bb mt kc H locs 1 12 (MQ bb (va_Qi (fun (r : Int32) (u : MdS) => nI ((mLink M v).1) = r ∧ ((mLink M v).2) = u) (qB D g (wM g h a M) sz (fun (u : MdS) => (wM g h a u))) (va_A (wM g h a M) sz)) [.ref h, .int v].toArray ss 1 12 (va_A (wM g h a M) sz)) (F0 mm 120 ls []) := by
          intro x3 e3 M4 eM4 ls H locs hl hW
          subst e3
          refine lv_iconst (v := nI 0) C.1 C.2.1 dX4_link_120 (by decide) ?_
          have hK8 := mLkN_ok hMu hth al (mNm M) (by omega)
          rw [← eM4] at hK8
          have hT4 := hK8.2.2.1
          refine lv_istore (lv' := [(4, .int (nI 0)), (0, .ref h), (1, .int (nI al)), (2, .ref q_18), (3, .int (nI ((mLkN U9 al (mNm M)).1)))]) C.1 C.2.1 dX4_link_121 hl (by decide) rfl (fun ls hl => ?_)
          have L_123 : ∀ (nf : Nat) (i : Nat) (hi : i ≤ 12) (hz : i = 0 ∨ 0 < mTh M4) (x4 : Int32) (e4 : x4 = nI i) (M5 : MdS) (eM5 : M5 = mSetPl M4 (mRs (mPl M4) (mPl U9) i)) (hmu : 12 - i < nf) (ls : Array Slot) (H : Heap) (locs : List Loc), lv_has ls 5 [(0, .ref h), (1, .int (nI al)), (2, .ref q_18), (3, .int (nI ((mLkN U9 al (mNm M)).1))), (4, .int x4)] → qW D g (va_A (wM g h a M) sz) ss.heap ss ((wM g h a M5) ++ [(q_18, .inl (g 1, 12, .inl (aO (growO (mPl U9) 12))))]) H locs → W pp l ee ({ frames := 4, cells := 1, slots := 12, locals := 90 } : Room) ss mm [.ref h, .int v].toArray bb mt kc H locs 1 12 (MQ bb (va_Qi (fun (r : Int32) (u : MdS) => nI ((mLink M v).1) = r ∧ ((mLink M v).2) = u) (qB D g (wM g h a M) sz (fun (u : MdS) => (wM g h a u))) (va_A (wM g h a M) sz)) [.ref h, .int v].toArray ss 1 12 (va_A (wM g h a M) sz)) (F0 mm 123 ls []) := by
            intro nf
            induction nf with
            | zero =>
              intro i hi hz x4 e4 M5 eM5 hmu ls H locs hl hW
              exact absurd hmu (by omega)
            | succ nf ih =>
              intro i hi hz x4 e4 M5 eM5 hmu ls H locs hl hW
              subst e4
              refine lv_iload C.1 C.2.1 dX4_link_123 (lv_at hl 4 rfl) ?_
              have hT5 : mTh M5 = mTh M4 := by rw [eM5]; rfl
              refine lv_bipush (v := nI 12) C.1 C.2.1 dX4_link_125 (by decide) ?_
              refine q_ge (tgt := 154) C (by omega) (by omega) dX4_link_127 (by decide) (fun c_127 => ?_) (fun c_127 => ?_)
              · refine lv_aload_n C.1 C.2.1 dX4_link_154 rfl (lv_at hl 0 rfl) ?_
                refine q_get (v := .int (nI (mTh M5))) C hW 0 rfl rfl 17 (by decide) gu_X4 (C.2.2.2.2 _ fl_X4_63) rfl rfl dX4_link_155 ?_
                refine q_zle (tgt := 165) C (by omega) dX4_link_158 (by decide) (fun c_158 => absurd c_158 (by omega)) (fun c_158 => ?_)
                refine lv_iconst (v := nI 0) C.1 C.2.1 dX4_link_161 (by decide) ?_
                refine lv_goto (tgt := 166) C.1 C.2.1 dX4_link_162 (by decide) ?_
                exact q_iret C hRt hLk hW.left rfl M5 ⟨(Eq.symm (by unfold mLink; rw [hinP]; dsimp only; rw [e_3]; unfold mLinkEnd; rw [if_neg (by rw [← eM4]; omega)]; try rfl)), (Eq.symm (by unfold mLink; rw [hinP]; dsimp only; rw [e_3]; unfold mLinkEnd; rw [if_neg (by rw [← eM4]; omega)]; dsimp only; rw [← eM4, eM5, show i = 12 by omega]))⟩  rfl (Nat.le_of_ble_eq_true rfl) (Nat.le_of_ble_eq_true rfl) dX4_link_166
              refine lv_aload_n C.1 C.2.1 dX4_link_130 rfl (lv_at hl 0 rfl) ?_
              refine q_get (v := .int (nI (mTh M5))) C hW 0 rfl rfl 17 (by decide) gu_X4 (C.2.2.2.2 _ fl_X4_63) rfl rfl dX4_link_131 ?_
              refine q_zle (tgt := 154) C (by omega) dX4_link_134 (by decide) (fun c_134 => ?_) (fun c_134 => ?_)
              · refine lv_aload_n C.1 C.2.1 dX4_link_154 rfl (lv_at hl 0 rfl) ?_
                refine q_get (v := .int (nI (mTh M5))) C hW 0 rfl rfl 17 (by decide) gu_X4 (C.2.2.2.2 _ fl_X4_63) rfl rfl dX4_link_155 ?_
                refine q_zle (tgt := 165) C (by omega) dX4_link_158 (by decide) (fun c_158 => ?_) (fun c_158 => absurd c_158 (by omega))
                refine lv_iload_n C.1 C.2.1 dX4_link_165 rfl (lv_at hl 3 rfl) ?_
                exact q_iret C hRt hLk hW.left rfl M5 ⟨(Eq.symm (by unfold mLink; rw [hinP]; dsimp only; rw [e_3]; unfold mLinkEnd; rw [if_pos (by rw [← eM4]; omega)]; try rfl)), (Eq.symm (by unfold mLink; rw [hinP]; dsimp only; rw [e_3]; unfold mLinkEnd; rw [if_pos (by rw [← eM4]; omega)]; rw [← eM4, eM5, show i = 0 by omega, mRs_0]; rfl))⟩  rfl (Nat.le_of_ble_eq_true rfl) (Nat.le_of_ble_eq_true rfl) dX4_link_166
              refine lv_aload_n C.1 C.2.1 dX4_link_137 rfl (lv_at hl 0 rfl) ?_
              refine q_get (v := .ref (a 1)) C hW 0 rfl rfl 1 (by decide) gu_X4 (C.2.2.2.2 _ fl_X4_13) rfl rfl dX4_link_138 ?_
              refine lv_iload C.1 C.2.1 dX4_link_141 (lv_at hl 4 rfl) ?_
              refine lv_aload_n C.1 C.2.1 dX4_link_143 rfl (lv_at hl 2 rfl) ?_
              refine lv_iload C.1 C.2.1 dX4_link_144 (lv_at hl 4 rfl) ?_
              refine q_ialdO (f := (growO (mPl U9) 12)) C hW 18 rfl (k := i) (by omega) (by decide) dX4_link_146 ?_
              refine q_iastO C hW 2 rfl (k := i) (by omega) (by decide) (v := ((growO (mPl U9) 12) i)) ((wMc g h a (mWd M5) (va_up (mPl M5) i ((growO (mPl U9) 12) i)) (mSt M5) (mUs M5) (mLb M5) (mNw M5) (mAh M5) (mMs M5) (mLm M5) (mLs M5) (mFe M5) (mUf M5) (mWr M5) (mCo M5) (mNa M5) (mCr M5) (mCa M5) (mTh M5) (mNm M5) (mAc M5) (mCk M5) (mCp M5)) ++ [(q_18, .inl (g 1, 12, .inl (aO (growO (mPl U9) 12))))]) rfl dX4_link_147 (fun H locs hW => ?_)
              refine q_iinc (d := 1) (lv' := [(4, .int (nI (i + 1))), (0, .ref h), (1, .int (nI al)), (2, .ref q_18), (3, .int (nI ((mLkN U9 al (mNm M)).1)))]) C dX4_link_148 (by decide) hl (k := 4) rfl (by decide) rfl (fun ls hl => ?_)
              refine lv_goto (tgt := 123) C.1 C.2.1 dX4_link_151 (by decide) ?_
              exact ih (i + 1) (by omega) (Or.inr (by omega)) _ rfl (mWd M5, va_up (mPl M5) i ((growO (mPl U9) 12) i), mSt M5, mUs M5, mLb M5, mNw M5, mAh M5, mMs M5, mLm M5, mLs M5, mFe M5, mUf M5, mWr M5, mCo M5, mNa M5, mCr M5, mCa M5, mTh M5, mNm M5, mAc M5, mCk M5, mCp M5) (by rw [growO_at (mPl U9) (show i < 12 by omega), ← mRs_s, eM5]; rfl) (by omega) ls _ _ (lv_sub hl [1, 2, 3, 4, 0] rfl) hW
          exact L_123 (12 - 0 + 1) 0 (by omega) (Or.inl rfl) _ rfl M4 (by rw [mRs_0]; rfl) (by omega) ls _ _ (lv_sub hl [1, 2, 3, 4, 0] rfl) hW
        refine lv_iconst (v := nI 0) C.1 C.2.1 dX4_link_50 (by decide) ?_
        refine lv_istore (lv' := [(4, .int (nI 0)), (3, .int (nI 0)), (2, .ref q_18), (0, .ref h), (1, .int (nI al))]) C.1 C.2.1 dX4_link_51 hl (by decide) rfl (fun ls hl => ?_)
        have L_53 : ∀ (nf : Nat) (i : Nat) (hi : i ≤ mNm M) (x3 : Int32) (e3 : x3 = nI ((mLkN U9 al i).1)) (x4 : Int32) (e4 : x4 = nI i) (M2 : MdS) (eM2 : M2 = (mLkN U9 al i).2) (hmu : mNm M - i < nf) (ls : Array Slot) (H : Heap) (locs : List Loc), lv_has ls 5 [(2, .ref q_18), (0, .ref h), (1, .int (nI al)), (3, .int x3), (4, .int x4)] → qW D g (va_A (wM g h a M) sz) ss.heap ss ((wM g h a M2) ++ [(q_18, .inl (g 1, 12, .inl (aO (growO (mPl U9) 12))))]) H locs → W pp l ee ({ frames := 4, cells := 1, slots := 12, locals := 90 } : Room) ss mm [.ref h, .int v].toArray bb mt kc H locs 1 12 (MQ bb (va_Qi (fun (r : Int32) (u : MdS) => nI ((mLink M v).1) = r ∧ ((mLink M v).2) = u) (qB D g (wM g h a M) sz (fun (u : MdS) => (wM g h a u))) (va_A (wM g h a M) sz)) [.ref h, .int v].toArray ss 1 12 (va_A (wM g h a M) sz)) (F0 mm 53 ls []) := by
          intro nf
          induction nf with
          | zero =>
            intro i hi x3 e3 x4 e4 M2 eM2 hmu ls H locs hl hW
            exact absurd hmu (by omega)
          | succ nf ih =>
            intro i hi x3 e3 x4 e4 M2 eM2 hmu ls H locs hl hW
            subst e3
            subst e4
            refine lv_iload C.1 C.2.1 dX4_link_53 (lv_at hl 4 rfl) ?_
            have hK9 := mLkN_ok hMu hth al i (by omega)
            rw [← eM2] at hK9
            obtain ⟨hM2, hN2, ht2, hc2, hw2, hA2, hC2⟩ := hK9
            have h122 := hM2.1
            refine lv_aload_n C.1 C.2.1 dX4_link_55 rfl (lv_at hl 1 rfl) ?_
            refine q_get (v := .int (nI (mNm M2))) C hW 0 rfl rfl 18 (by decide) gu_X4 (C.2.2.2.2 _ fl_X4_67) rfl rfl dX4_link_56 ?_
            refine q_ge (tgt := 120) C (by omega) (by omega) dX4_link_59 (by decide) (fun c_59 => ?_) (fun c_59 => ?_)
            · exact L_120  _ (by rw [show mNm M = i by omega]) M2 (by rw [show mNm M = i by omega]; exact eM2) ls _ _ (lv_sub hl [1, 2, 0, 3] rfl) hW
            refine lv_aload_n C.1 C.2.1 dX4_link_62 rfl (lv_at hl 1 rfl) ?_
            refine q_get (v := .int (nI (mTh M2))) C hW 0 rfl rfl 17 (by decide) gu_X4 (C.2.2.2.2 _ fl_X4_63) rfl rfl dX4_link_63 ?_
            refine q_zne (tgt := 120) C (by omega) dX4_link_66 (by decide) (fun c_66 => ?_) (fun c_66 => ?_)
            · exact L_120  _ (by rw [mLkN_end (by rw [← eM2]; exact c_66) (show i ≤ mNm M by omega)]) M2 (by rw [mLkN_end (by rw [← eM2]; exact c_66) (show i ≤ mNm M by omega)]; exact eM2) ls _ _ (lv_sub hl [1, 2, 0, 3] rfl) hW
            refine lv_aload_n C.1 C.2.1 dX4_link_69 rfl (lv_at hl 1 rfl) ?_
            refine q_get (v := .ref (a 1)) C hW 0 rfl rfl 1 (by decide) gu_X4 (C.2.2.2.2 _ fl_X4_13) rfl rfl dX4_link_70 ?_
            refine lv_iload C.1 C.2.1 dX4_link_73 (lv_at hl 4 rfl) ?_
            refine q_ialdO (f := mPl M2) C hW 2 rfl (k := i) (by omega) (by decide) dX4_link_75 ?_
            refine q_olt (o := (mPl M2) i) (tgt := 82) C (fun i9 e9 => by have := hM2.st (by omega) e9; omega) dX4_link_76 (by decide) (fun o_76 => ?_) (fun j_76 o_76 => ?_)
            · refine lv_aload_n C.1 C.2.1 dX4_link_82 rfl (lv_at hl 1 rfl) ?_
              refine q_get (v := .ref (a 1)) C hW 0 rfl rfl 1 (by decide) gu_X4 (C.2.2.2.2 _ fl_X4_13) rfl rfl dX4_link_83 ?_
              refine lv_iload C.1 C.2.1 dX4_link_86 (lv_at hl 4 rfl) ?_
              refine lv_aload_n C.1 C.2.1 dX4_link_88 rfl (lv_at hl 1 rfl) ?_
              refine lv_iload C.1 C.2.1 dX4_link_89 (lv_at hl 4 rfl) ?_
              refine lv_iload_n C.1 C.2.1 dX4_link_91 rfl (lv_at hl 2 rfl) ?_
              refine q_callVi (rest := [.int (nI i), .ref (a 1)]) C (c_X4_lowest l D g h a M2 i al hM2 (by omega) (by omega) (by omega) _) (gw_V ml_X4_96 im_X4_lowest se_X4_X4_lowest ini_X4 cd_X4_lowest rfl) rfl rfl rfl hd_X4_lowest ⟨Nat.le_of_ble_eq_true rfl, Nat.le_of_ble_eq_true rfl⟩ hW pm_0 (fun u_4 => ((wM g h a u_4) ++ [(q_18, .inl (g 1, 12, .inl (aO (growO (mPl U9) 12))))])) (fun _ => pm_0) rfl rfl hl.1 rfl (Nat.le_of_ble_eq_true rfl) ⟨Nat.le_of_ble_eq_true rfl, Nat.le_of_ble_eq_true rfl⟩ dX4_link_92 (fun r_4 u_4 H locs e_4 hW => ?_)
              obtain ⟨rfl, rfl⟩ := e_4
              refine q_iastO C hW 2 rfl (k := i) (by omega) (by decide) (v := (mLow M2 i al)) ((wMc g h a (mWd M2) (va_up (mPl M2) i (mLow M2 i al)) (mSt M2) (mUs M2) (mLb M2) (mNw M2) (mAh M2) (mMs M2) (mLm M2) (mLs M2) (mFe M2) (mUf M2) (mWr M2) (mCo M2) (mNa M2) (mCr M2) (mCa M2) (mTh M2) (mNm M2) (mAc M2) (mCk M2) (mCp M2)) ++ [(q_18, .inl (g 1, 12, .inl (aO (growO (mPl U9) 12))))]) rfl dX4_link_95 (fun H locs hW => ?_)
              refine lv_aload_n C.1 C.2.1 dX4_link_96 rfl (lv_at hl 1 rfl) ?_
              refine q_get (v := .ref (a 1)) C hW 0 rfl rfl 1 (by decide) gu_X4 (C.2.2.2.2 _ fl_X4_13) rfl rfl dX4_link_97 ?_
              refine lv_iload C.1 C.2.1 dX4_link_100 (lv_at hl 4 rfl) ?_
              refine q_ialdO (f := va_up (mPl M2) i (mLow M2 i al)) C hW 2 rfl (k := i) (by omega) (by decide) dX4_link_102 ?_
              refine q_to (y := oI (mLow M2 i al)) (by rw [va_up_self]) ?_
              refine q_oge (o := mLow M2 i al) (tgt := 111) C (fun i9 e9 => by have := (mLow_spec e9).1; omega) dX4_link_103 (by decide) (fun j_103 o_103 => ?_) (fun o_103 => ?_)
              · refine q_iinc (d := 1) (lv' := [(3, .int (nI ((mLkN U9 al i).1 + 1))), (2, .ref q_18), (0, .ref h), (1, .int (nI al)), (4, .int (nI i))]) C dX4_link_111 (by decide) hl (k := 3) rfl (by decide) rfl (fun ls hl => ?_)
                refine q_iinc (d := 1) (lv' := [(4, .int (nI (i + 1))), (3, .int (nI ((mLkN U9 al i).1 + 1))), (2, .ref q_18), (0, .ref h), (1, .int (nI al))]) C dX4_link_114 (by decide) hl (k := 4) rfl (by decide) rfl (fun ls hl => ?_)
                refine lv_goto (tgt := 53) C.1 C.2.1 dX4_link_117 (by decide) ?_
                exact ih (i + 1) (by omega) _ (by rw [mLkN_2 (by rw [← eM2]; exact c_66) (by rw [← eM2]; exact o_76) (by rw [← eM2, o_103]; rfl)]) _ rfl (mWd M2, va_up (mPl M2) i (mLow M2 i al), mSt M2, mUs M2, mLb M2, mNw M2, mAh M2, mMs M2, mLm M2, mLs M2, mFe M2, mUf M2, mWr M2, mCo M2, mNa M2, mCr M2, mCa M2, mTh M2, mNm M2, mAc M2, mCk M2, mCp M2) (by rw [mLkN_2 (by rw [← eM2]; exact c_66) (by rw [← eM2]; exact o_76) (by rw [← eM2, o_103]; rfl)]; dsimp only; rw [← eM2]; try rfl) (by omega) ls _ _ (lv_sub hl [2, 3, 4, 1, 0] rfl) hW
              refine lv_aload_n C.1 C.2.1 dX4_link_106 rfl (lv_at hl 1 rfl) ?_
              refine lv_iconst (v := nI 2) C.1 C.2.1 dX4_link_107 (by decide) ?_
              refine q_put C hW 0 rfl rfl 17 (by decide) gu_X4 tyX4_ok nmX4 (C.2.2.2.2 _ fl_X4_63) rfl rfl rfl rfl (Nat.le_of_ble_eq_true rfl) ((wMc g h a (mWd M2) (va_up (mPl M2) i (mLow M2 i al)) (mSt M2) (mUs M2) (mLb M2) (mNw M2) (mAh M2) (mMs M2) (mLm M2) (mLs M2) (mFe M2) (mUf M2) (mWr M2) (mCo M2) (mNa M2) (mCr M2) (mCa M2) 2 (mNm M2) (mAc M2) (mCk M2) (mCp M2)) ++ [(q_18, .inl (g 1, 12, .inl (aO (growO (mPl U9) 12))))]) rfl dX4_link_108 (fun H locs hW => ?_)
              refine q_iinc (d := 1) (lv' := [(3, .int (nI ((mLkN U9 al i).1 + 1))), (2, .ref q_18), (0, .ref h), (1, .int (nI al)), (4, .int (nI i))]) C dX4_link_111 (by decide) hl (k := 3) rfl (by decide) rfl (fun ls hl => ?_)
              refine q_iinc (d := 1) (lv' := [(4, .int (nI (i + 1))), (3, .int (nI ((mLkN U9 al i).1 + 1))), (2, .ref q_18), (0, .ref h), (1, .int (nI al))]) C dX4_link_114 (by decide) hl (k := 4) rfl (by decide) rfl (fun ls hl => ?_)
              refine lv_goto (tgt := 53) C.1 C.2.1 dX4_link_117 (by decide) ?_
              exact ih (i + 1) (by omega) _ (by rw [mLkN_3 (by rw [← eM2]; exact c_66) (by rw [← eM2]; exact o_76) (by rw [← eM2]; exact o_103)]) _ rfl (mWd M2, va_up (mPl M2) i (mLow M2 i al), mSt M2, mUs M2, mLb M2, mNw M2, mAh M2, mMs M2, mLm M2, mLs M2, mFe M2, mUf M2, mWr M2, mCo M2, mNa M2, mCr M2, mCa M2, 2, mNm M2, mAc M2, mCk M2, mCp M2) (by rw [mLkN_3 (by rw [← eM2]; exact c_66) (by rw [← eM2]; exact o_76) (by rw [← eM2]; exact o_103)]; dsimp only; rw [← eM2]; try rfl) (by omega) ls _ _ (lv_sub hl [2, 3, 4, 1, 0] rfl) hW
            refine lv_goto (tgt := 114) C.1 C.2.1 dX4_link_79 (by decide) ?_
            refine q_iinc (d := 1) (lv' := [(4, .int (nI (i + 1))), (2, .ref q_18), (0, .ref h), (1, .int (nI al)), (3, .int (nI ((mLkN U9 al i).1)))]) C dX4_link_114 (by decide) hl (k := 4) rfl (by decide) rfl (fun ls hl => ?_)
            refine lv_goto (tgt := 53) C.1 C.2.1 dX4_link_117 (by decide) ?_
            exact ih (i + 1) (by omega) _ (by rw [mLkN_1 (by rw [← eM2]; exact c_66) (by rw [← eM2, o_76]; rfl)]) _ rfl M2 (by rw [mLkN_1 (by rw [← eM2]; exact c_66) (by rw [← eM2, o_76]; rfl)]; exact eM2) (by omega) ls _ _ (lv_sub hl [1, 2, 3, 4, 0] rfl) hW
        exact L_53 (mNm M - 0 + 1) 0 (by omega) _ rfl _ rfl U9 rfl (by omega) ls _ _ (lv_sub hl [2, 3, 4, 1, 0] rfl) hW
      refine lv_aload_n C.1 C.2.1 dX4_link_33 rfl (lv_at hl 1 rfl) ?_
      refine lv_iload C.1 C.2.1 dX4_link_34 (lv_at hl 4 rfl) ?_
      refine lv_aload_n C.1 C.2.1 dX4_link_36 rfl (lv_at hl 2 rfl) ?_
      refine q_get (v := .ref (a 1)) C hW 0 rfl rfl 1 (by decide) gu_X4 (C.2.2.2.2 _ fl_X4_13) rfl rfl dX4_link_37 ?_
      refine lv_iload C.1 C.2.1 dX4_link_40 (lv_at hl 4 rfl) ?_
      refine q_ialdO (f := mPl U9) C hW 2 rfl (k := i) (by omega) (by decide) dX4_link_42 ?_
      refine q_iastO C hW 18 rfl (k := i) (by omega) (by decide) (v := ((mPl U9) i)) ((wM g h a U9) ++ [(q_18, .inl (g 1, 12, .inl (aO (va_up (growO (mPl U9) i) i ((mPl U9) i)))))]) rfl dX4_link_43 (fun H locs hW => ?_)
      refine q_iinc (d := 1) (lv' := [(4, .int (nI (i + 1))), (3, .int (nI 0)), (2, .ref q_18), (0, .ref h), (1, .int (nI al))]) C dX4_link_44 (by decide) hl (k := 4) rfl (by decide) rfl (fun ls hl => ?_)
      refine lv_goto (tgt := 26) C.1 C.2.1 dX4_link_47 (by decide) ?_
      exact ih (i + 1) (by omega) _ rfl (by omega) ls _ _ (lv_sub hl [1, 2, 3, 4, 0] rfl) (by rw [← growO_s (mPl U9) i]; exact hW)
  exact L_26 (12 - 0 + 1) 0 (by omega) _ rfl (by omega) ls _ _ (lv_sub hl [1, 2, 3, 4, 0] rfl) (by rw [← growO_0 (mPl U9)]; exact hW)
