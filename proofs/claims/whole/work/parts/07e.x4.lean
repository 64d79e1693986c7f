theorem hd_X4_read : yX4_read.cls = RX4 ∧ yX4_read.cls ≠ "java/lang/invoke/MethodHandle" ∧ yX4_read.cls ≠ "java/lang/invoke/VarHandle" ∧ (parseMethodDescriptor yX4_read.desc).map (fun d => d.parameters.length) = some 3 := by decide +kernel
set_option maxHeartbeats 4000000 in
set_option maxRecDepth 100000 in
theorem c_X4_read (l : Launch) (D : va_G) (g : Nat → ClassId) (h : Nat) (a : Nat → Nat) (M : MdS) (v1 : Int32) (v2 : Int32) (v3 : Int32) (hM : MOK M) (ha : mAc M < 512) (sz : Nat) : qMi l yX4_read (.code yX4_read cX4_read 8 (some .int) :: GW) ({ frames := 5, cells := 4, slots := 4096, locals := 118 } : Room) D g [.ref h, .int v1, .int v2, .int v3] (wM g h a M) sz (fun (r : Int32) (u : (Nat → Nat) × MdS) => nI ((mRead M v1 v2 v3).1) = r ∧ ((mRead M v1 v2 v3).2) = u.2) (fun (u : (Nat → Nat) × MdS) => wM g h u.1 u.2) 4 4096 := by
  refine q_entry (cc := cX4_read) (nL := 8) (ret := (some .int)) rfl (by decide) (Nat.le_of_ble_eq_true rfl) (fun pp ee ss mm bb mt kc ls C hRt hLk hin hsz hW hl => ?_)
  have hl : lv_has ls 8 [(0, .ref h), (1, .int v1), (2, .int v2), (3, .int v3)] := hl
  have h12 := hM.1
  have hcp1 := hM.2.2.2.2.1
  have hcp2 := hM.2.2.2.2.2.2
  refine lv_aload_n C.1 C.2.1 dX4_read_0 rfl (lv_at hl 0 rfl) ?_
  refine lv_aload_n C.1 C.2.1 dX4_read_1 rfl (lv_at hl 0 rfl) ?_
  refine lv_iload_n C.1 C.2.1 dX4_read_2 rfl (lv_at hl 1 rfl) ?_
  refine lv_iload_n C.1 C.2.1 dX4_read_3 rfl (lv_at hl 2 rfl) ?_
  refine lv_iload_n C.1 C.2.1 dX4_read_4 rfl (lv_at hl 3 rfl) ?_
  refine q_callVi (rest := [.ref h]) C (c_X4_wrongAccess l D g h a M v1 v2 v3 hM _) (gw_V ml_X4_133 im_X4_wrongAccess se_X4_X4_wrongAccess ini_X4 cd_X4_wrongAccess rfl) rfl rfl rfl hd_X4_wrongAccess ⟨Nat.le_of_ble_eq_true rfl, Nat.le_of_ble_eq_true rfl⟩ hW pm_all (fun u_1 => (wM g h a u_1)) (fun _ => pm_all) rfl rfl hl.1 rfl (Nat.le_of_ble_eq_true rfl) ⟨Nat.le_of_ble_eq_true rfl, Nat.le_of_ble_eq_true rfl⟩ dX4_read_5 (fun r_1 u_1 H locs e_1 hW => ?_)
  obtain ⟨rfl, rfl⟩ := e_1
  refine q_put C hW 0 rfl rfl 17 (by decide) gu_X4 tyX4_ok nmX4 (C.2.2.2.2 _ fl_X4_63) rfl rfl rfl rfl (Nat.le_of_ble_eq_true rfl) (wMc g h a (mWd M) (mPl M) (mSt M) (mUs M) (mLb M) (mNw M) (mAh M) (mMs M) (mLm M) (mLs M) (mFe M) (mUf M) (mWr M) (mCo M) (mNa M) (mCr M) (mCa M) (mWrong M v1 v2 v3) (mNm M) (mAc M) (mCk M) (mCp M)) rfl dX4_read_8 (fun H locs hW => ?_)
  have hwr := mWrong_le M v1 v2 v3
  refine lv_aload_n C.1 C.2.1 dX4_read_11 rfl (lv_at hl 0 rfl) ?_
  refine q_get (v := .int (nI (mWrong M v1 v2 v3))) C hW 0 rfl rfl 17 (by decide) gu_X4 (C.2.2.2.2 _ fl_X4_63) rfl rfl dX4_read_12 ?_
  refine q_zle (tgt := 20) C (by omega) dX4_read_15 (by decide) (fun c_15 => ?_) (fun c_15 => ?_)
  · obtain ⟨c, n, s0, x, hc, hv1, hn, hv2, hs0, hx, hv3⟩ := mWrong_0 hM (by omega)
    have hw0 : mWrong M v1 v2 v3 = 0 := by omega
    rw [hv1, hv2, hv3] at hl
    rw [hw0] at hW
    have hW : qW D g (va_A (wM g h a M) sz) ss.heap ss (wM g h a (sTh M 0)) _ _ := hW
    have hM0 : MOK (sTh M 0) := hM.same ⟨rfl, rfl, rfl, rfl, rfl⟩
    have hR0 : mRead M v1 v2 v3 = mReadAt (sTh M 0) c n ((s0 + x) / 8) := by unfold mRead; rw [hv1, hv2, hv3, mSpot_ok hM hc hn hs0 hx]
    have hs1 := hM.st (i := n) (by omega) hs0
    have hz := hM.sz (i := n) (by omega)
    have hsp := hM.sp (i := n) (by omega) hs0
    have hn0 : n < mNm (sTh M 0) := hn
    have hs00 : mPl (sTh M 0) n = some s0 := hs0
    have ha0 : mAc (sTh M 0) < 512 := ha
    generalize hM00 : sTh M 0 = M0 at hW hM0 hR0 hn0 hs00 ha0
    have h012 := hM0.1
    have hcp1 := hM0.2.2.2.2.1
    have hcp2 := hM0.2.2.2.2.2.2
    have hl : lv_has ls 8 [(0, .ref h), (1, .int (nI c)), (2, .int (nI n)), (3, .int (nI x))] := hl
    refine lv_aload_n C.1 C.2.1 dX4_read_20 rfl (lv_at hl 0 rfl) ?_
    refine q_get (v := .ref (a 1)) C hW 0 rfl rfl 1 (by decide) gu_X4 (C.2.2.2.2 _ fl_X4_13) rfl rfl dX4_read_21 ?_
    refine lv_iload_n C.1 C.2.1 dX4_read_24 rfl (lv_at hl 2 rfl) ?_
    refine q_ialdO (f := mPl M0) C hW 2 rfl (k := n) (by omega) (by decide) dX4_read_25 ?_
    refine q_to (y := nI s0) (by rw [hs00]; rfl) ?_
    refine lv_iload_n C.1 C.2.1 dX4_read_26 rfl (lv_at hl 3 rfl) ?_
    refine q_iadd C dX4_read_27 ?_
    refine lv_bipush (v := nI 8) C.1 C.2.1 dX4_read_28 (by decide) ?_
    refine q_idiv C (by omega) (by omega) (by omega) dX4_read_30 ?_
    refine lv_istore (lv' := [(4, .int (nI ((s0 + x) / 8))), (0, .ref h), (1, .int (nI c)), (2, .int (nI n)), (3, .int (nI x))]) C.1 C.2.1 dX4_read_31 hl (by decide) rfl (fun ls hl => ?_)
    have hk : (s0 + x) / 8 < 64 := by omega
    generalize hk9 : (s0 + x) / 8 = k at hl hR0 hk
    refine lv_aload_n C.1 C.2.1 dX4_read_33 rfl (lv_at hl 1 rfl) ?_
    refine lv_iload_n C.1 C.2.1 dX4_read_34 rfl (lv_at hl 2 rfl) ?_
    refine lv_iload C.1 C.2.1 dX4_read_35 (lv_at hl 0 rfl) ?_
    refine q_callVi (rest := []) C (c_X4_has l D g h a M0 c k hM0 (by omega) (by omega) _) (gw_V ml_X4_103 im_X4_has se_X4_X4_has ini_X4 cd_X4_has rfl) rfl rfl rfl hd_X4_has ⟨Nat.le_of_ble_eq_true rfl, Nat.le_of_ble_eq_true rfl⟩ hW pm_all (fun u_2 => (wM g h a u_2)) (fun _ => pm_all) rfl rfl hl.1 rfl (Nat.le_of_ble_eq_true rfl) ⟨Nat.le_of_ble_eq_true rfl, Nat.le_of_ble_eq_true rfl⟩ dX4_read_37 (fun r_2 u_2 H locs e_2 hW => ?_)
    obtain ⟨rfl, rfl⟩ := e_2
    refine q_bt (b := hasM M0 (64 * c + k)) (tgt := 60) C dX4_read_40 (by decide) (fun c_40 => ?_) (fun c_40 => ?_)
    · have L_85 : ∀ (o9 : Bool) (hO : mShared M0 c k = o9) (y0 : Int32) (f0 : y0 = bI o9) (ls : Array Slot) (H : Heap) (locs : List Loc), lv_has ls 8 [(0, .ref h), (1, .int (nI c)), (2, .int (nI n)), (3, .int (nI x)), (4, .int (nI k)), (5, .int (cI (mCause M0 c k (nI n))))] → qW D g (va_A (wM g h a M) sz) ss.heap ss (wM g h a M0) H locs → W pp l ee ({ frames := 5, cells := 4, slots := 4096, locals := 118 } : Room) ss mm [.ref h, .int v1, .int v2, .int v3].toArray bb mt kc H locs 0 0 (MQ bb (va_Qi (fun (r : Int32) (u : (Nat → Nat) × MdS) => nI ((mRead M v1 v2 v3).1) = r ∧ ((mRead M v1 v2 v3).2) = u.2) (qB D g (wM g h a M) sz (fun (u : (Nat → Nat) × MdS) => wM g h u.1 u.2)) (va_A (wM g h a M) sz)) [.ref h, .int v1, .int v2, .int v3].toArray ss 4 4096 (va_A (wM g h a M) sz)) (F0 mm 85 ls [.int y0]) := by
        intro o9 hO y0 f0 ls H locs hl hW
        subst f0
        refine lv_istore (lv' := [(6, .int (bI o9)), (0, .ref h), (1, .int (nI c)), (2, .int (nI n)), (3, .int (nI x)), (4, .int (nI k)), (5, .int (cI (mCause M0 c k (nI n))))]) C.1 C.2.1 dX4_read_85 hl (by decide) rfl (fun ls hl => ?_)
        refine lv_iconst (v := nI 0) C.1 C.2.1 dX4_read_87 (by decide) ?_
        refine lv_istore (lv' := [(7, .int (nI 0)), (6, .int (bI o9)), (0, .ref h), (1, .int (nI c)), (2, .int (nI n)), (3, .int (nI x)), (4, .int (nI k)), (5, .int (cI (mCause M0 c k (nI n))))]) C.1 C.2.1 dX4_read_88 hl (by decide) rfl (fun ls hl => ?_)
        have L_90 : ∀ (nf : Nat) (i : Nat) (hi : i ≤ 4) (x7 : Int32) (e7 : x7 = nI i) (M2 : MdS) (eM2 : M2 = mShareN M0 k i) (hmu : 4 - i < nf) (ls : Array Slot) (H : Heap) (locs : List Loc), lv_has ls 8 [(6, .int (bI o9)), (0, .ref h), (1, .int (nI c)), (2, .int (nI n)), (3, .int (nI x)), (4, .int (nI k)), (5, .int (cI (mCause M0 c k (nI n)))), (7, .int x7)] → qW D g (va_A (wM g h a M) sz) ss.heap ss (wM g h a M2) H locs → W pp l ee ({ frames := 5, cells := 4, slots := 4096, locals := 118 } : Room) ss mm [.ref h, .int v1, .int v2, .int v3].toArray bb mt kc H locs 0 0 (MQ bb (va_Qi (fun (r : Int32) (u : (Nat → Nat) × MdS) => nI ((mRead M v1 v2 v3).1) = r ∧ ((mRead M v1 v2 v3).2) = u.2) (qB D g (wM g h a M) sz (fun (u : (Nat → Nat) × MdS) => wM g h u.1 u.2)) (va_A (wM g h a M) sz)) [.ref h, .int v1, .int v2, .int v3].toArray ss 4 4096 (va_A (wM g h a M) sz)) (F0 mm 90 ls []) := by
          intro nf
          induction nf with
          | zero =>
            intro i hi x7 e7 M2 eM2 hmu ls H locs hl hW
            exact absurd hmu (by omega)
          | succ nf ih =>
            intro i hi x7 e7 M2 eM2 hmu ls H locs hl hW
            subst e7
            refine lv_iload C.1 C.2.1 dX4_read_90 (lv_at hl 7 rfl) ?_
            refine lv_iconst (v := nI 4) C.1 C.2.1 dX4_read_92 (by decide) ?_
            have hM2 : MOK M2 := by rw [eM2]; exact hM0.same ⟨rfl, rfl, rfl, rfl, rfl⟩
            have hA2 : mAc M2 = mAc M0 := by rw [eM2]; rfl
            refine q_ge (tgt := 127) C (by omega) (by omega) dX4_read_93 (by decide) (fun c_93 => ?_) (fun c_93 => ?_)
            · have eM3 : M2 = mShare M0 k := by rw [eM2, show i = 4 by omega]; rfl
              refine lv_aload_n C.1 C.2.1 dX4_read_127 rfl (lv_at hl 1 rfl) ?_
              refine lv_iload_n C.1 C.2.1 dX4_read_128 rfl (lv_at hl 2 rfl) ?_
              refine lv_iload C.1 C.2.1 dX4_read_129 (lv_at hl 5 rfl) ?_
              refine lv_iload C.1 C.2.1 dX4_read_131 (lv_at hl 0 rfl) ?_
              refine q_bt (b := o9) (tgt := 141) C dX4_read_133 (by decide) (fun c_133 => ?_) (fun c_133 => ?_)
              · refine lv_bipush (v := nI 101) C.1 C.2.1 dX4_read_141 (by decide) ?_
                refine q_callVi (rest := []) C (c_X4_comes l D g h a M2 c k (UInt16.ofNat 101) hM2 (by omega) (by omega) _) (gw_V ml_X4_126 im_X4_comes se_X4_X4_comes ini_X4 cd_X4_comes rfl) rfl rfl rfl hd_X4_comes ⟨Nat.le_of_ble_eq_true rfl, Nat.le_of_ble_eq_true rfl⟩ hW pm_all (fun u_3 => (wM g h a u_3)) (fun _ => pm_all) rfl rfl hl.1 rfl (Nat.le_of_ble_eq_true rfl) ⟨Nat.le_of_ble_eq_true rfl, Nat.le_of_ble_eq_true rfl⟩ dX4_read_143 (fun r_3 u_3 H locs e_3 hW => ?_)
                obtain ⟨rfl, e_3⟩ := e_3
                have hS3 := mSame_comes M2 c k (UInt16.ofNat 101)
                rw [e_3] at hS3
                have hM3 := hM2.same hS3
                have hA3 := hS3.2.2.2.1
                refine q_bt (b := (mComes M2 c k (UInt16.ofNat 101)).1) (tgt := 153) C dX4_read_146 (by decide) (fun c_146 => ?_) (fun c_146 => ?_)
                · refine lv_iconst (v := nI 0) C.1 C.2.1 dX4_read_153 (by decide) ?_
                  refine lv_istore (lv' := [(7, .int (nI 0)), (6, .int (bI o9)), (0, .ref h), (1, .int (nI c)), (2, .int (nI n)), (3, .int (nI x)), (4, .int (nI k)), (5, .int (cI (mCause M0 c k (nI n))))]) C.1 C.2.1 dX4_read_154 hl (by decide) rfl (fun ls hl => ?_)
                  refine lv_aload_n C.1 C.2.1 dX4_read_156 rfl (lv_at hl 2 rfl) ?_
                  refine lv_iload_n C.1 C.2.1 dX4_read_157 rfl (lv_at hl 3 rfl) ?_
                  refine lv_iload C.1 C.2.1 dX4_read_158 (lv_at hl 6 rfl) ?_
                  refine q_callVv (rest := []) C (c_X4_learns l D g h a u_3 c k hM3 (by omega) (by omega) _) (gw_V ml_X4_149 im_X4_learns se_X4_X4_learns ini_X4 cd_X4_learns rfl) rfl rfl rfl hd_X4_learns ⟨Nat.le_of_ble_eq_true rfl, Nat.le_of_ble_eq_true rfl⟩ hW pm_all (fun u_4 => (wM g h a u_4)) (fun _ => pm_all) rfl rfl hl.1 rfl (Nat.le_of_ble_eq_true rfl) ⟨Nat.le_of_ble_eq_true rfl, Nat.le_of_ble_eq_true rfl⟩ dX4_read_160 (fun u_4 H locs e_4 hW => ?_)
                  skip
                  have hS4 := mSame_learns u_3 c k
                  rw [e_4] at hS4
                  have hM4 := hM3.same hS4
                  have hA4 := hS4.2.2.2.1
                  refine lv_aload_n C.1 C.2.1 dX4_read_163 rfl (lv_at hl 2 rfl) ?_
                  refine lv_iload_n C.1 C.2.1 dX4_read_164 rfl (lv_at hl 3 rfl) ?_
                  refine lv_iload_n C.1 C.2.1 dX4_read_165 rfl (lv_at hl 4 rfl) ?_
                  refine lv_iload C.1 C.2.1 dX4_read_166 (lv_at hl 0 rfl) ?_
                  refine lv_iload C.1 C.2.1 dX4_read_168 (lv_at hl 1 rfl) ?_
                  refine q_bt (b := o9) (tgt := 178) C dX4_read_170 (by decide) (fun c_170 => ?_) (fun c_170 => absurd (c_133.symm.trans c_170) (by decide))
                  refine lv_bipush (v := nI 40) C.1 C.2.1 dX4_read_178 (by decide) ?_
                  refine q_iadd C dX4_read_180 ?_
                  refine lv_iload C.1 C.2.1 dX4_read_181 (lv_at hl 7 rfl) ?_
                  refine q_callVi (rest := []) C (c_X4_notes l D g h a u_4 c n (0 + 40) (mCause M0 c k (nI n)) hM4 (by omega) _) (gw_V ml_X4_141 im_X4_notes se_X4_X4_notes ini_X4 cd_X4_notes rfl) rfl rfl rfl hd_X4_notes ⟨Nat.le_of_ble_eq_true rfl, Nat.le_of_ble_eq_true rfl⟩ hW pm_all (fun u_5 => (wM g h u_5.1 u_5.2)) (fun _ => pm_all) rfl rfl hl.1 rfl (Nat.le_of_ble_eq_true rfl) ⟨Nat.le_of_ble_eq_true rfl, Nat.le_of_ble_eq_true rfl⟩ dX4_read_183 (fun r_5 u_5 H locs e_5 hW => ?_)
                  obtain ⟨rfl, e_5⟩ := e_5
                  exact q_iret C hRt hLk hW rfl (u_5.1, u_5.2) ⟨(Eq.symm (by rw [hR0]; unfold mReadAt; rw [if_neg (by rw [c_40]; decide), hO, c_133, ← eM3, show (if (false : Bool) = true then UInt16.ofNat 115 else UInt16.ofNat 101) = UInt16.ofNat 101 from rfl, mTail_1 c_146 e_3]; rfl)), (Eq.symm (by rw [hR0]; unfold mReadAt; rw [if_neg (by rw [c_40]; decide), hO, c_133, ← eM3, show (if (false : Bool) = true then UInt16.ofNat 115 else UInt16.ofNat 101) = UInt16.ofNat 101 from rfl, mTail_1 c_146 e_3]; dsimp only; rw [e_4]; exact e_5.symm))⟩  rfl (Nat.le_of_ble_eq_true rfl) (Nat.le_of_ble_eq_true rfl) dX4_read_186
                refine lv_iconst (v := nI 5) C.1 C.2.1 dX4_read_149 (by decide) ?_
                refine lv_goto (tgt := 154) C.1 C.2.1 dX4_read_150 (by decide) ?_
                refine lv_istore (lv' := [(7, .int (nI 5)), (6, .int (bI o9)), (0, .ref h), (1, .int (nI c)), (2, .int (nI n)), (3, .int (nI x)), (4, .int (nI k)), (5, .int (cI (mCause M0 c k (nI n))))]) C.1 C.2.1 dX4_read_154 hl (by decide) rfl (fun ls hl => ?_)
                refine lv_aload_n C.1 C.2.1 dX4_read_156 rfl (lv_at hl 2 rfl) ?_
                refine lv_iload_n C.1 C.2.1 dX4_read_157 rfl (lv_at hl 3 rfl) ?_
                refine lv_iload C.1 C.2.1 dX4_read_158 (lv_at hl 6 rfl) ?_
                refine q_callVv (rest := []) C (c_X4_learns l D g h a u_3 c k hM3 (by omega) (by omega) _) (gw_V ml_X4_149 im_X4_learns se_X4_X4_learns ini_X4 cd_X4_learns rfl) rfl rfl rfl hd_X4_learns ⟨Nat.le_of_ble_eq_true rfl, Nat.le_of_ble_eq_true rfl⟩ hW pm_all (fun u_6 => (wM g h a u_6)) (fun _ => pm_all) rfl rfl hl.1 rfl (Nat.le_of_ble_eq_true rfl) ⟨Nat.le_of_ble_eq_true rfl, Nat.le_of_ble_eq_true rfl⟩ dX4_read_160 (fun u_6 H locs e_6 hW => ?_)
                skip
                have hS4 := mSame_learns u_3 c k
                rw [e_6] at hS4
                have hM4 := hM3.same hS4
                have hA4 := hS4.2.2.2.1
                refine lv_aload_n C.1 C.2.1 dX4_read_163 rfl (lv_at hl 2 rfl) ?_
                refine lv_iload_n C.1 C.2.1 dX4_read_164 rfl (lv_at hl 3 rfl) ?_
                refine lv_iload_n C.1 C.2.1 dX4_read_165 rfl (lv_at hl 4 rfl) ?_
                refine lv_iload C.1 C.2.1 dX4_read_166 (lv_at hl 0 rfl) ?_
                refine lv_iload C.1 C.2.1 dX4_read_168 (lv_at hl 1 rfl) ?_
                refine q_bt (b := o9) (tgt := 178) C dX4_read_170 (by decide) (fun c_170 => ?_) (fun c_170 => absurd (c_133.symm.trans c_170) (by decide))
                refine lv_bipush (v := nI 40) C.1 C.2.1 dX4_read_178 (by decide) ?_
                refine q_iadd C dX4_read_180 ?_
                refine lv_iload C.1 C.2.1 dX4_read_181 (lv_at hl 7 rfl) ?_
                refine q_callVi (rest := []) C (c_X4_notes l D g h a u_6 c n (5 + 40) (mCause M0 c k (nI n)) hM4 (by omega) _) (gw_V ml_X4_141 im_X4_notes se_X4_X4_notes ini_X4 cd_X4_notes rfl) rfl rfl rfl hd_X4_notes ⟨Nat.le_of_ble_eq_true rfl, Nat.le_of_ble_eq_true rfl⟩ hW pm_all (fun u_7 => (wM g h u_7.1 u_7.2)) (fun _ => pm_all) rfl rfl hl.1 rfl (Nat.le_of_ble_eq_true rfl) ⟨Nat.le_of_ble_eq_true rfl, Nat.le_of_ble_eq_true rfl⟩ dX4_read_183 (fun r_7 u_7 H locs e_7 hW => ?_)
                obtain ⟨rfl, e_7⟩ := e_7
                exact q_iret C hRt hLk hW rfl (u_7.1, u_7.2) ⟨(Eq.symm (by rw [hR0]; unfold mReadAt; rw [if_neg (by rw [c_40]; decide), hO, c_133, ← eM3, show (if (false : Bool) = true then UInt16.ofNat 115 else UInt16.ofNat 101) = UInt16.ofNat 101 from rfl, mTail_1 c_146 e_3]; rfl)), (Eq.symm (by rw [hR0]; unfold mReadAt; rw [if_neg (by rw [c_40]; decide), hO, c_133, ← eM3, show (if (false : Bool) = true then UInt16.ofNat 115 else UInt16.ofNat 101) = UInt16.ofNat 101 from rfl, mTail_1 c_146 e_3]; dsimp only; rw [e_6]; exact e_7.symm))⟩  rfl (Nat.le_of_ble_eq_true rfl) (Nat.le_of_ble_eq_true rfl) dX4_read_186
              refine lv_bipush (v := nI 115) C.1 C.2.1 dX4_read_136 (by decide) ?_
              refine lv_goto (tgt := 143) C.1 C.2.1 dX4_read_138 (by decide) ?_
              refine q_callVi (rest := []) C (c_X4_comes l D g h a M2 c k (UInt16.ofNat 115) hM2 (by omega) (by omega) _) (gw_V ml_X4_126 im_X4_comes se_X4_X4_comes ini_X4 cd_X4_comes rfl) rfl rfl rfl hd_X4_comes ⟨Nat.le_of_ble_eq_true rfl, Nat.le_of_ble_eq_true rfl⟩ hW pm_all (fun u_8 => (wM g h a u_8)) (fun _ => pm_all) rfl rfl hl.1 rfl (Nat.le_of_ble_eq_true rfl) ⟨Nat.le_of_ble_eq_true rfl, Nat.le_of_ble_eq_true rfl⟩ dX4_read_143 (fun r_8 u_8 H locs e_8 hW => ?_)
              obtain ⟨rfl, e_8⟩ := e_8
              have hS3 := mSame_comes M2 c k (UInt16.ofNat 115)
              rw [e_8] at hS3
              have hM3 := hM2.same hS3
              have hA3 := hS3.2.2.2.1
              refine q_bt (b := (mComes M2 c k (UInt16.ofNat 115)).1) (tgt := 153) C dX4_read_146 (by decide) (fun c_146 => ?_) (fun c_146 => ?_)
              · refine lv_iconst (v := nI 0) C.1 C.2.1 dX4_read_153 (by decide) ?_
                refine lv_istore (lv' := [(7, .int (nI 0)), (6, .int (bI o9)), (0, .ref h), (1, .int (nI c)), (2, .int (nI n)), (3, .int (nI x)), (4, .int (nI k)), (5, .int (cI (mCause M0 c k (nI n))))]) C.1 C.2.1 dX4_read_154 hl (by decide) rfl (fun ls hl => ?_)
                refine lv_aload_n C.1 C.2.1 dX4_read_156 rfl (lv_at hl 2 rfl) ?_
                refine lv_iload_n C.1 C.2.1 dX4_read_157 rfl (lv_at hl 3 rfl) ?_
                refine lv_iload C.1 C.2.1 dX4_read_158 (lv_at hl 6 rfl) ?_
                refine q_callVv (rest := []) C (c_X4_learns l D g h a u_8 c k hM3 (by omega) (by omega) _) (gw_V ml_X4_149 im_X4_learns se_X4_X4_learns ini_X4 cd_X4_learns rfl) rfl rfl rfl hd_X4_learns ⟨Nat.le_of_ble_eq_true rfl, Nat.le_of_ble_eq_true rfl⟩ hW pm_all (fun u_9 => (wM g h a u_9)) (fun _ => pm_all) rfl rfl hl.1 rfl (Nat.le_of_ble_eq_true rfl) ⟨Nat.le_of_ble_eq_true rfl, Nat.le_of_ble_eq_true rfl⟩ dX4_read_160 (fun u_9 H locs e_9 hW => ?_)
                skip
                have hS4 := mSame_learns u_8 c k
                rw [e_9] at hS4
                have hM4 := hM3.same hS4
                have hA4 := hS4.2.2.2.1
                refine lv_aload_n C.1 C.2.1 dX4_read_163 rfl (lv_at hl 2 rfl) ?_
                refine lv_iload_n C.1 C.2.1 dX4_read_164 rfl (lv_at hl 3 rfl) ?_
                refine lv_iload_n C.1 C.2.1 dX4_read_165 rfl (lv_at hl 4 rfl) ?_
                refine lv_iload C.1 C.2.1 dX4_read_166 (lv_at hl 0 rfl) ?_
                refine lv_iload C.1 C.2.1 dX4_read_168 (lv_at hl 1 rfl) ?_
                refine q_bt (b := o9) (tgt := 178) C dX4_read_170 (by decide) (fun c_170 => absurd (c_133.symm.trans c_170) (by decide)) (fun c_170 => ?_)
                refine lv_bipush (v := nI 12) C.1 C.2.1 dX4_read_173 (by decide) ?_
                refine lv_goto (tgt := 180) C.1 C.2.1 dX4_read_175 (by decide) ?_
                refine q_iadd C dX4_read_180 ?_
                refine lv_iload C.1 C.2.1 dX4_read_181 (lv_at hl 7 rfl) ?_
                refine q_callVi (rest := []) C (c_X4_notes l D g h a u_9 c n (0 + 12) (mCause M0 c k (nI n)) hM4 (by omega) _) (gw_V ml_X4_141 im_X4_notes se_X4_X4_notes ini_X4 cd_X4_notes rfl) rfl rfl rfl hd_X4_notes ⟨Nat.le_of_ble_eq_true rfl, Nat.le_of_ble_eq_true rfl⟩ hW pm_all (fun u_10 => (wM g h u_10.1 u_10.2)) (fun _ => pm_all) rfl rfl hl.1 rfl (Nat.le_of_ble_eq_true rfl) ⟨Nat.le_of_ble_eq_true rfl, Nat.le_of_ble_eq_true rfl⟩ dX4_read_183 (fun r_10 u_10 H locs e_10 hW => ?_)
                obtain ⟨rfl, e_10⟩ := e_10
                exact q_iret C hRt hLk hW rfl (u_10.1, u_10.2) ⟨(Eq.symm (by rw [hR0]; unfold mReadAt; rw [if_neg (by rw [c_40]; decide), hO, c_133, ← eM3, show (if (true : Bool) = true then UInt16.ofNat 115 else UInt16.ofNat 101) = UInt16.ofNat 115 from rfl, mTail_1 c_146 e_8]; rfl)), (Eq.symm (by rw [hR0]; unfold mReadAt; rw [if_neg (by rw [c_40]; decide), hO, c_133, ← eM3, show (if (true : Bool) = true then UInt16.ofNat 115 else UInt16.ofNat 101) = UInt16.ofNat 115 from rfl, mTail_1 c_146 e_8]; dsimp only; rw [e_9]; exact e_10.symm))⟩  rfl (Nat.le_of_ble_eq_true rfl) (Nat.le_of_ble_eq_true rfl) dX4_read_186
              refine lv_iconst (v := nI 5) C.1 C.2.1 dX4_read_149 (by decide) ?_
              refine lv_goto (tgt := 154) C.1 C.2.1 dX4_read_150 (by decide) ?_
              refine lv_istore (lv' := [(7, .int (nI 5)), (6, .int (bI o9)), (0, .ref h), (1, .int (nI c)), (2, .int (nI n)), (3, .int (nI x)), (4, .int (nI k)), (5, .int (cI (mCause M0 c k (nI n))))]) C.1 C.2.1 dX4_read_154 hl (by decide) rfl (fun ls hl => ?_)
              refine lv_aload_n C.1 C.2.1 dX4_read_156 rfl (lv_at hl 2 rfl) ?_
              refine lv_iload_n C.1 C.2.1 dX4_read_157 rfl (lv_at hl 3 rfl) ?_
              refine lv_iload C.1 C.2.1 dX4_read_158 (lv_at hl 6 rfl) ?_
              refine q_callVv (rest := []) C (c_X4_learns l D g h a u_8 c k hM3 (by omega) (by omega) _) (gw_V ml_X4_149 im_X4_learns se_X4_X4_learns ini_X4 cd_X4_learns rfl) rfl rfl rfl hd_X4_learns ⟨Nat.le_of_ble_eq_true rfl, Nat.le_of_ble_eq_true rfl⟩ hW pm_all (fun u_11 => (wM g h a u_11)) (fun _ => pm_all) rfl rfl hl.1 rfl (Nat.le_of_ble_eq_true rfl) ⟨Nat.le_of_ble_eq_true rfl, Nat.le_of_ble_eq_true rfl⟩ dX4_read_160 (fun u_11 H locs e_11 hW => ?_)
              skip
              have hS4 := mSame_learns u_8 c k
              rw [e_11] at hS4
              have hM4 := hM3.same hS4
              have hA4 := hS4.2.2.2.1
              refine lv_aload_n C.1 C.2.1 dX4_read_163 rfl (lv_at hl 2 rfl) ?_
              refine lv_iload_n C.1 C.2.1 dX4_read_164 rfl (lv_at hl 3 rfl) ?_
              refine lv_iload_n C.1 C.2.1 dX4_read_165 rfl (lv_at hl 4 rfl) ?_
              refine lv_iload C.1 C.2.1 dX4_read_166 (lv_at hl 0 rfl) ?_
              refine lv_iload C.1 C.2.1 dX4_read_168 (lv_at hl 1 rfl) ?_
              refine q_bt (b := o9) (tgt := 178) C dX4_read_170 (by decide) (fun c_170 => absurd (c_133.symm.trans c_170) (by decide)) (fun c_170 => ?_)
              refine lv_bipush (v := nI 12) C.1 C.2.1 dX4_read_173 (by decide) ?_
              refine lv_goto (tgt := 180) C.1 C.2.1 dX4_read_175 (by decide) ?_
              refine q_iadd C dX4_read_180 ?_
              refine lv_iload C.1 C.2.1 dX4_read_181 (lv_at hl 7 rfl) ?_
              refine q_callVi (rest := []) C (c_X4_notes l D g h a u_11 c n (5 + 12) (mCause M0 c k (nI n)) hM4 (by omega) _) (gw_V ml_X4_141 im_X4_notes se_X4_X4_notes ini_X4 cd_X4_notes rfl) rfl rfl rfl hd_X4_notes ⟨Nat.le_of_ble_eq_true rfl, Nat.le_of_ble_eq_true rfl⟩ hW pm_all (fun u_12 => (wM g h u_12.1 u_12.2)) (fun _ => pm_all) rfl rfl hl.1 rfl (Nat.le_of_ble_eq_true rfl) ⟨Nat.le_of_ble_eq_true rfl, Nat.le_of_ble_eq_true rfl⟩ dX4_read_183 (fun r_12 u_12 H locs e_12 hW => ?_)
              obtain ⟨rfl, e_12⟩ := e_12
              exact q_iret C hRt hLk hW rfl (u_12.1, u_12.2) ⟨(Eq.symm (by rw [hR0]; unfold mReadAt; rw [if_neg (by rw [c_40]; decide), hO, c_133, ← eM3, show (if (true : Bool) = true then UInt16.ofNat 115 else UInt16.ofNat 101) = UInt16.ofNat 115 from rfl, mTail_1 c_146 e_8]; rfl)), (Eq.symm (by rw [hR0]; unfold mReadAt; rw [if_neg (by rw [c_40]; decide), hO, c_133, ← eM3, show (if (true : Bool) = true then UInt16.ofNat 115 else UInt16.ofNat 101) = UInt16.ofNat 115 from rfl, mTail_1 c_146 e_8]; dsimp only; rw [e_11]; exact e_12.symm))⟩  rfl (Nat.le_of_ble_eq_true rfl) (Nat.le_of_ble_eq_true rfl) dX4_read_186
            refine lv_aload_n C.1 C.2.1 dX4_read_96 rfl (lv_at hl 1 rfl) ?_
            refine lv_iload C.1 C.2.1 dX4_read_97 (lv_at hl 7 rfl) ?_
            refine lv_iload C.1 C.2.1 dX4_read_99 (lv_at hl 5 rfl) ?_
            refine q_callVi (rest := []) C (c_X4_has l D g h a M2 i k hM2 (by omega) (by omega) _) (gw_V ml_X4_103 im_X4_has se_X4_X4_has ini_X4 cd_X4_has rfl) rfl rfl rfl hd_X4_has ⟨Nat.le_of_ble_eq_true rfl, Nat.le_of_ble_eq_true rfl⟩ hW pm_all (fun u_13 => (wM g h a u_13)) (fun _ => pm_all) rfl rfl hl.1 rfl (Nat.le_of_ble_eq_true rfl) ⟨Nat.le_of_ble_eq_true rfl, Nat.le_of_ble_eq_true rfl⟩ dX4_read_101 (fun r_13 u_13 H locs e_13 hW => ?_)
            obtain ⟨rfl, rfl⟩ := e_13
            refine q_bt (b := hasM M2 (64 * i + k)) (tgt := 121) C dX4_read_104 (by decide) (fun c_104 => ?_) (fun c_104 => ?_)
            · refine q_iinc (d := 1) (lv' := [(7, .int (nI (i + 1))), (6, .int (bI o9)), (0, .ref h), (1, .int (nI c)), (2, .int (nI n)), (3, .int (nI x)), (4, .int (nI k)), (5, .int (cI (mCause M0 c k (nI n))))]) C dX4_read_121 (by decide) hl (k := 7) rfl (by decide) rfl (fun ls hl => ?_)
              refine lv_goto (tgt := 90) C.1 C.2.1 dX4_read_124 (by decide) ?_
              exact ih (i + 1) (by omega) _ rfl M2 (mShareN_f eM2 c_104) (by omega) ls _ _ (lv_sub hl [1, 2, 3, 4, 5, 6, 7, 0] rfl) hW
            refine lv_aload_n C.1 C.2.1 dX4_read_107 rfl (lv_at hl 1 rfl) ?_
            refine q_get (v := .ref (a 2)) C hW 0 rfl rfl 2 (by decide) gu_X4 (C.2.2.2.2 _ fl_X4_16) rfl rfl dX4_read_108 ?_
            refine lv_iload C.1 C.2.1 dX4_read_111 (lv_at hl 7 rfl) ?_
            refine lv_iload C.1 C.2.1 dX4_read_113 (lv_at hl 5 rfl) ?_
            refine q_callSi (rest := [.ref (a 2)]) C (c_X4_at l D g i k _) (gw_S ml_X4_100 sm_X4_at ini_X4 cd_X4_at rfl) rfl rfl rfl hd_X4_at ⟨Nat.le_of_ble_eq_true rfl, Nat.le_of_ble_eq_true rfl⟩ hW (List.Perm.refl _) (fun (u_14 : Unit) => (wM g h a M2)) (fun _ => List.Perm.refl _) hl.1 rfl (Nat.le_of_ble_eq_true rfl) ⟨Nat.le_of_ble_eq_true rfl, Nat.le_of_ble_eq_true rfl⟩ dX4_read_115 (fun r_14 u_14 H locs e_14 hW => ?_)
            subst e_14
            refine lv_bipush (v := nI 115) C.1 C.2.1 dX4_read_118 (by decide) ?_
            refine q_castC C hW 3 rfl (k := 64 * i + k) (by omega) (by decide) (v := (UInt16.ofNat 115)) (wMc g h a (mWd M2) (mPl M2) (va_up (mSt M2) (64 * i + k) (UInt16.ofNat 115)) (mUs M2) (mLb M2) (mNw M2) (mAh M2) (mMs M2) (mLm M2) (mLs M2) (mFe M2) (mUf M2) (mWr M2) (mCo M2) (mNa M2) (mCr M2) (mCa M2) (mTh M2) (mNm M2) (mAc M2) (mCk M2) (mCp M2)) rfl dX4_read_120 (fun H locs hW => ?_)
            refine q_iinc (d := 1) (lv' := [(7, .int (nI (i + 1))), (6, .int (bI o9)), (0, .ref h), (1, .int (nI c)), (2, .int (nI n)), (3, .int (nI x)), (4, .int (nI k)), (5, .int (cI (mCause M0 c k (nI n))))]) C dX4_read_121 (by decide) hl (k := 7) rfl (by decide) rfl (fun ls hl => ?_)
            refine lv_goto (tgt := 90) C.1 C.2.1 dX4_read_124 (by decide) ?_
            exact ih (i + 1) (by omega) _ rfl (mWd M2, mPl M2, va_up (mSt M2) (64 * i + k) (UInt16.ofNat 115), mUs M2, mLb M2, mNw M2, mAh M2, mMs M2, mLm M2, mLs M2, mFe M2, mUf M2, mWr M2, mCo M2, mNa M2, mCr M2, mCa M2, mTh M2, mNm M2, mAc M2, mCk M2, mCp M2) (mShareN_t eM2 c_104) (by omega) ls _ _ (lv_sub hl [1, 2, 3, 4, 5, 6, 7, 0] rfl) hW
        exact L_90 (4 - 0 + 1) 0 (by omega) _ rfl M0 rfl (by omega) ls _ _ (lv_sub hl [1, 2, 3, 4, 5, 6, 7, 0] rfl) hW
      refine lv_aload_n C.1 C.2.1 dX4_read_60 rfl (lv_at hl 1 rfl) ?_
      refine lv_iload_n C.1 C.2.1 dX4_read_61 rfl (lv_at hl 2 rfl) ?_
      refine lv_iload C.1 C.2.1 dX4_read_62 (lv_at hl 0 rfl) ?_
      refine lv_iload_n C.1 C.2.1 dX4_read_64 rfl (lv_at hl 3 rfl) ?_
      refine q_callVi (rest := []) C (c_X4_causeFor l D g h a M0 c k (nI n) hM0 (by omega) (by omega) _) (gw_V ml_X4_145 im_X4_causeFor se_X4_X4_causeFor ini_X4 cd_X4_causeFor rfl) rfl rfl rfl hd_X4_causeFor ⟨Nat.le_of_ble_eq_true rfl, Nat.le_of_ble_eq_true rfl⟩ hW pm_all (fun u_15 => (wM g h a u_15)) (fun _ => pm_all) rfl rfl hl.1 rfl (Nat.le_of_ble_eq_true rfl) ⟨Nat.le_of_ble_eq_true rfl, Nat.le_of_ble_eq_true rfl⟩ dX4_read_65 (fun r_15 u_15 H locs e_15 hW => ?_)
      obtain ⟨rfl, rfl⟩ := e_15
      refine lv_istore (lv' := [(5, .int (cI (mCause M0 c k (nI n)))), (4, .int (nI k)), (0, .ref h), (1, .int (nI c)), (2, .int (nI n)), (3, .int (nI x))]) C.1 C.2.1 dX4_read_68 hl (by decide) rfl (fun ls hl => ?_)
      refine lv_aload_n C.1 C.2.1 dX4_read_70 rfl (lv_at hl 2 rfl) ?_
      refine lv_iload_n C.1 C.2.1 dX4_read_71 rfl (lv_at hl 3 rfl) ?_
      refine lv_iload C.1 C.2.1 dX4_read_72 (lv_at hl 1 rfl) ?_
      refine q_callVi (rest := []) C (c_X4_othersWith l D g h a M0 (nI c) k hM0 (by omega) _) (gw_V ml_X4_123 im_X4_othersWith se_X4_X4_othersWith ini_X4 cd_X4_othersWith rfl) rfl rfl rfl hd_X4_othersWith ⟨Nat.le_of_ble_eq_true rfl, Nat.le_of_ble_eq_true rfl⟩ hW pm_all (fun u_16 => (wM g h a u_16)) (fun _ => pm_all) rfl rfl hl.1 rfl (Nat.le_of_ble_eq_true rfl) ⟨Nat.le_of_ble_eq_true rfl, Nat.le_of_ble_eq_true rfl⟩ dX4_read_74 (fun r_16 u_16 H locs e_16 hW => ?_)
      obtain ⟨rfl, rfl⟩ := e_16
      have ho9 := mOthers_le M0 (nI c) k
      refine q_zle (tgt := 84) C (by omega) dX4_read_77 (by decide) (fun c_77 => ?_) (fun c_77 => ?_)
      · refine lv_iconst (v := nI 0) C.1 C.2.1 dX4_read_84 (by decide) ?_
        exact L_85  (mShared M0 c k) rfl _ (by unfold mShared; rw [decide_eq_false (by omega)]; rfl) ls _ _ (lv_sub hl [2, 3, 4, 5, 1, 0] rfl) hW
      refine lv_iconst (v := nI 1) C.1 C.2.1 dX4_read_80 (by decide) ?_
      refine lv_goto (tgt := 85) C.1 C.2.1 dX4_read_81 (by decide) ?_
      exact L_85  (mShared M0 c k) rfl _ (by unfold mShared; rw [decide_eq_true c_77]; rfl) ls _ _ (lv_sub hl [2, 3, 4, 5, 1, 0] rfl) hW
    refine lv_aload_n C.1 C.2.1 dX4_read_43 rfl (lv_at hl 1 rfl) ?_
    refine lv_iload_n C.1 C.2.1 dX4_read_44 rfl (lv_at hl 2 rfl) ?_
    refine lv_iload C.1 C.2.1 dX4_read_45 (lv_at hl 0 rfl) ?_
    refine q_callVv (rest := []) C (c_X4_uses l D g h a M0 c k hM0 (by omega) (by omega) _) (gw_V ml_X4_137 im_X4_uses se_X4_X4_uses ini_X4 cd_X4_uses rfl) rfl rfl rfl hd_X4_uses ⟨Nat.le_of_ble_eq_true rfl, Nat.le_of_ble_eq_true rfl⟩ hW pm_all (fun u_17 => (wM g h a u_17)) (fun _ => pm_all) rfl rfl hl.1 rfl (Nat.le_of_ble_eq_true rfl) ⟨Nat.le_of_ble_eq_true rfl, Nat.le_of_ble_eq_true rfl⟩ dX4_read_47 (fun u_17 H locs e_17 hW => ?_)
    skip
    have hSU := mSame_uses M0 c k
    rw [e_17] at hSU
    have hMU := hM0.same hSU
    have hAU := hSU.2.2.2.1
    refine lv_aload_n C.1 C.2.1 dX4_read_50 rfl (lv_at hl 1 rfl) ?_
    refine lv_iload_n C.1 C.2.1 dX4_read_51 rfl (lv_at hl 2 rfl) ?_
    refine lv_iload_n C.1 C.2.1 dX4_read_52 rfl (lv_at hl 3 rfl) ?_
    refine lv_iconst (v := nI 1) C.1 C.2.1 dX4_read_53 (by decide) ?_
    refine lv_bipush (v := nI 104) C.1 C.2.1 dX4_read_54 (by decide) ?_
    refine q_callVi (rest := []) C (c_X4_notes l D g h a u_17 c n 1 (UInt16.ofNat 104) hMU (by omega) _) (gw_V ml_X4_141 im_X4_notes se_X4_X4_notes ini_X4 cd_X4_notes rfl) rfl rfl rfl hd_X4_notes ⟨Nat.le_of_ble_eq_true rfl, Nat.le_of_ble_eq_true rfl⟩ hW pm_all (fun u_18 => (wM g h u_18.1 u_18.2)) (fun _ => pm_all) rfl rfl hl.1 rfl (Nat.le_of_ble_eq_true rfl) ⟨Nat.le_of_ble_eq_true rfl, Nat.le_of_ble_eq_true rfl⟩ dX4_read_56 (fun r_18 u_18 H locs e_18 hW => ?_)
    obtain ⟨rfl, e_18⟩ := e_18
    exact q_iret C hRt hLk hW rfl (u_18.1, u_18.2) ⟨(Eq.symm (by rw [hR0]; unfold mReadAt; rw [if_pos c_40])), (Eq.symm (by rw [hR0]; unfold mReadAt; rw [if_pos c_40]; dsimp only; rw [e_17]; exact e_18.symm))⟩  rfl (Nat.le_of_ble_eq_true rfl) (Nat.le_of_ble_eq_true rfl) dX4_read_59
  refine lv_iconst (v := nI 0) C.1 C.2.1 dX4_read_18 (by decide) ?_
  exact q_iret C hRt hLk hW rfl (a, (mWd M, mPl M, mSt M, mUs M, mLb M, mNw M, mAh M, mMs M, mLm M, mLs M, mFe M, mUf M, mWr M, mCo M, mNa M, mCr M, mCa M, mWrong M v1 v2 v3, mNm M, mAc M, mCk M, mCp M)) ⟨(Eq.symm (by unfold mRead; rw [mSpot_none hM (by omega)])), (Eq.symm (by unfold mRead; rw [mSpot_none hM (by omega)]))⟩  rfl (Nat.le_of_ble_eq_true rfl) (Nat.le_of_ble_eq_true rfl) dX4_read_19
