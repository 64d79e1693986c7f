theorem hd_X4_write : yX4_write.cls = RX4 ∧ yX4_write.cls ≠ "java/lang/invoke/MethodHandle" ∧ yX4_write.cls ≠ "java/lang/invoke/VarHandle" ∧ (parseMethodDescriptor yX4_write.desc).map (fun d => d.parameters.length) = some 3 := by decide +kernel
set_option maxHeartbeats 4000000 in
set_option maxRecDepth 100000 in
theorem c_X4_write (l : Launch) (D : va_G) (g : Nat → ClassId) (h : Nat) (a : Nat → Nat) (M : MdS) (v1 : Int32) (v2 : Int32) (v3 : Int32) (hM : MOK M) (ha : mAc M < 512) (sz : Nat) : qMi l yX4_write (.code yX4_write cX4_write 9 (some .int) :: GW) ({ frames := 5, cells := 4, slots := 4096, locals := 118 } : Room) D g [.ref h, .int v1, .int v2, .int v3] (wM g h a M) sz (fun (r : Int32) (u : (Nat → Nat) × MdS) => nI ((mWrite M v1 v2 v3).1) = r ∧ ((mWrite M v1 v2 v3).2) = u.2) (fun (u : (Nat → Nat) × MdS) => wM g h u.1 u.2) 4 4096 := by
  refine q_entry (cc := cX4_write) (nL := 9) (ret := (some .int)) rfl (by decide) (Nat.le_of_ble_eq_true rfl) (fun pp ee ss mm bb mt kc ls C hRt hLk hin hsz hW hl => ?_)
  have hl : lv_has ls 9 [(0, .ref h), (1, .int v1), (2, .int v2), (3, .int v3)] := hl
  have h12 := hM.1
  have hcp1 := hM.2.2.2.2.1
  have hcp2 := hM.2.2.2.2.2.2
  refine lv_aload_n C.1 C.2.1 dX4_write_0 rfl (lv_at hl 0 rfl) ?_
  refine lv_aload_n C.1 C.2.1 dX4_write_1 rfl (lv_at hl 0 rfl) ?_
  refine lv_iload_n C.1 C.2.1 dX4_write_2 rfl (lv_at hl 1 rfl) ?_
  refine lv_iload_n C.1 C.2.1 dX4_write_3 rfl (lv_at hl 2 rfl) ?_
  refine lv_iload_n C.1 C.2.1 dX4_write_4 rfl (lv_at hl 3 rfl) ?_
  refine q_callVi (rest := [.ref h]) C (c_X4_wrongAccess l D g h a M v1 v2 v3 hM _) (gw_V ml_X4_133 im_X4_wrongAccess se_X4_X4_wrongAccess ini_X4 cd_X4_wrongAccess rfl) rfl rfl rfl hd_X4_wrongAccess ⟨Nat.le_of_ble_eq_true rfl, Nat.le_of_ble_eq_true rfl⟩ hW pm_all (fun u_1 => (wM g h a u_1)) (fun _ => pm_all) rfl rfl hl.1 rfl (Nat.le_of_ble_eq_true rfl) ⟨Nat.le_of_ble_eq_true rfl, Nat.le_of_ble_eq_true rfl⟩ dX4_write_5 (fun r_1 u_1 H locs e_1 hW => ?_)
  obtain ⟨rfl, rfl⟩ := e_1
  refine q_put C hW 0 rfl rfl 17 (by decide) gu_X4 tyX4_ok nmX4 (C.2.2.2.2 _ fl_X4_63) rfl rfl rfl rfl (Nat.le_of_ble_eq_true rfl) (wMc g h a (mWd M) (mPl M) (mSt M) (mUs M) (mLb M) (mNw M) (mAh M) (mMs M) (mLm M) (mLs M) (mFe M) (mUf M) (mWr M) (mCo M) (mNa M) (mCr M) (mCa M) (mWrong M v1 v2 v3) (mNm M) (mAc M) (mCk M) (mCp M)) rfl dX4_write_8 (fun H locs hW => ?_)
  have hwr := mWrong_le M v1 v2 v3
  refine lv_aload_n C.1 C.2.1 dX4_write_11 rfl (lv_at hl 0 rfl) ?_
  refine q_get (v := .int (nI (mWrong M v1 v2 v3))) C hW 0 rfl rfl 17 (by decide) gu_X4 (C.2.2.2.2 _ fl_X4_63) rfl rfl dX4_write_12 ?_
  refine q_zle (tgt := 20) C (by omega) dX4_write_15 (by decide) (fun c_15 => ?_) (fun c_15 => ?_)
  · obtain ⟨c, n, s0, x, hc, hv1, hn, hv2, hs0, hx, hv3⟩ := mWrong_0 hM (by omega)
    have hw0 : mWrong M v1 v2 v3 = 0 := by omega
    rw [hv1, hv2, hv3] at hl
    rw [hw0] at hW
    have hW : qW D g (va_A (wM g h a M) sz) ss.heap ss (wM g h a (sTh M 0)) _ _ := hW
    have hM0 : MOK (sTh M 0) := hM.same ⟨rfl, rfl, rfl, rfl, rfl⟩
    have hR0 : mWrite M v1 v2 v3 = mWriteAt (sTh M 0) c n ((s0 + x) / 8) := by unfold mWrite; rw [hv1, hv2, hv3, mSpot_ok hM hc hn hs0 hx]
    have hs1 := hM.st (i := n) (by omega) hs0
    have hz := hM.sz (i := n) (by omega)
    have hsp := hM.sp (i := n) (by omega) hs0
    have hn0 : n < mNm (sTh M 0) := hn
    have hs00 : mPl (sTh M 0) n = some s0 := hs0
    have ha0 : mAc (sTh M 0) < 512 := ha
    generalize hM00 : sTh M 0 = M0 at hW hM0 hR0 hn0 hs00 ha0
    have h012 := hM0.1
    have hcp1 := hM0.2.2.2.2.1
    have hcp2 := hM0.2.2.2.2.2.2
    have hl : lv_has ls 9 [(0, .ref h), (1, .int (nI c)), (2, .int (nI n)), (3, .int (nI x))] := hl
    refine lv_aload_n C.1 C.2.1 dX4_write_20 rfl (lv_at hl 0 rfl) ?_
    refine q_get (v := .ref (a 1)) C hW 0 rfl rfl 1 (by decide) gu_X4 (C.2.2.2.2 _ fl_X4_13) rfl rfl dX4_write_21 ?_
    refine lv_iload_n C.1 C.2.1 dX4_write_24 rfl (lv_at hl 2 rfl) ?_
    refine q_ialdO (f := mPl M0) C hW 2 rfl (k := n) (by omega) (by decide) dX4_write_25 ?_
    refine q_to (y := nI s0) (by rw [hs00]; rfl) ?_
    refine lv_iload_n C.1 C.2.1 dX4_write_26 rfl (lv_at hl 3 rfl) ?_
    refine q_iadd C dX4_write_27 ?_
    refine lv_bipush (v := nI 8) C.1 C.2.1 dX4_write_28 (by decide) ?_
    refine q_idiv C (by omega) (by omega) (by omega) dX4_write_30 ?_
    refine lv_istore (lv' := [(4, .int (nI ((s0 + x) / 8))), (0, .ref h), (1, .int (nI c)), (2, .int (nI n)), (3, .int (nI x))]) C.1 C.2.1 dX4_write_31 hl (by decide) rfl (fun ls hl => ?_)
    have hk : (s0 + x) / 8 < 64 := by omega
    generalize hk9 : (s0 + x) / 8 = k at hl hR0 hk
    refine lv_aload_n C.1 C.2.1 dX4_write_33 rfl (lv_at hl 1 rfl) ?_
    refine q_get (v := .ref (a 2)) C hW 0 rfl rfl 2 (by decide) gu_X4 (C.2.2.2.2 _ fl_X4_16) rfl rfl dX4_write_34 ?_
    refine lv_iload_n C.1 C.2.1 dX4_write_37 rfl (lv_at hl 2 rfl) ?_
    refine lv_iload C.1 C.2.1 dX4_write_38 (lv_at hl 0 rfl) ?_
    refine q_callSi (rest := [.ref (a 2)]) C (c_X4_at l D g c k _) (gw_S ml_X4_100 sm_X4_at ini_X4 cd_X4_at rfl) rfl rfl rfl hd_X4_at ⟨Nat.le_of_ble_eq_true rfl, Nat.le_of_ble_eq_true rfl⟩ hW (List.Perm.refl _) (fun (u_2 : Unit) => (wM g h a M0)) (fun _ => List.Perm.refl _) hl.1 rfl (Nat.le_of_ble_eq_true rfl) ⟨Nat.le_of_ble_eq_true rfl, Nat.le_of_ble_eq_true rfl⟩ dX4_write_40 (fun r_2 u_2 H locs e_2 hW => ?_)
    subst e_2
    refine q_caldC (f := mSt M0) C hW 3 rfl (k := 64 * c + k) (by omega) (by decide) dX4_write_43 ?_
    refine lv_istore (lv' := [(5, .int (cI ((mSt M0) (64 * c + k)))), (4, .int (nI k)), (0, .ref h), (1, .int (nI c)), (2, .int (nI n)), (3, .int (nI x))]) C.1 C.2.1 dX4_write_44 hl (by decide) rfl (fun ls hl => ?_)
    have L_61 : ∀ (o9 : Bool) (hO : mShared M0 c k = o9) (y0 : Int32) (f0 : y0 = bI o9) (ls : Array Slot) (H : Heap) (locs : List Loc), lv_has ls 9 [(0, .ref h), (1, .int (nI c)), (2, .int (nI n)), (3, .int (nI x)), (4, .int (nI k)), (5, .int (cI (mSt M0 (64 * c + k))))] → qW D g (va_A (wM g h a M) sz) ss.heap ss (wM g h a M0) H locs → W pp l ee ({ frames := 5, cells := 4, slots := 4096, locals := 118 } : Room) ss mm [.ref h, .int v1, .int v2, .int v3].toArray bb mt kc H locs 0 0 (MQ bb (va_Qi (fun (r : Int32) (u : (Nat → Nat) × MdS) => nI ((mWrite M v1 v2 v3).1) = r ∧ ((mWrite M v1 v2 v3).2) = u.2) (qB D g (wM g h a M) sz (fun (u : (Nat → Nat) × MdS) => wM g h u.1 u.2)) (va_A (wM g h a M) sz)) [.ref h, .int v1, .int v2, .int v3].toArray ss 4 4096 (va_A (wM g h a M) sz)) (F0 mm 61 ls [.int y0]) := by
      intro o9 hO y0 f0 ls H locs hl hW
      subst f0
      refine lv_istore (lv' := [(6, .int (bI o9)), (0, .ref h), (1, .int (nI c)), (2, .int (nI n)), (3, .int (nI x)), (4, .int (nI k)), (5, .int (cI (mSt M0 (64 * c + k))))]) C.1 C.2.1 dX4_write_61 hl (by decide) rfl (fun ls hl => ?_)
      refine lv_aload_n C.1 C.2.1 dX4_write_63 rfl (lv_at hl 1 rfl) ?_
      refine lv_iload_n C.1 C.2.1 dX4_write_64 rfl (lv_at hl 2 rfl) ?_
      refine lv_iload C.1 C.2.1 dX4_write_65 (lv_at hl 5 rfl) ?_
      refine lv_iload_n C.1 C.2.1 dX4_write_67 rfl (lv_at hl 3 rfl) ?_
      refine q_callVv (rest := []) C (c_X4_takesFromOthers l D g h a M0 c k (nI n) hM0 (by omega) (by omega) _) (gw_V ml_X4_152 im_X4_takesFromOthers se_X4_X4_takesFromOthers ini_X4 cd_X4_takesFromOthers rfl) rfl rfl rfl hd_X4_takesFromOthers ⟨Nat.le_of_ble_eq_true rfl, Nat.le_of_ble_eq_true rfl⟩ hW pm_all (fun u_3 => (wM g h a u_3)) (fun _ => pm_all) rfl rfl hl.1 rfl (Nat.le_of_ble_eq_true rfl) ⟨Nat.le_of_ble_eq_true rfl, Nat.le_of_ble_eq_true rfl⟩ dX4_write_68 (fun u_3 H locs e_3 hW => ?_)
      skip
      have hS2 := mSame_else M0 c k (nI n)
      rw [e_3] at hS2
      have hM2 := hM0.same hS2
      have hA2 := hS2.2.2.2.1
      refine lv_iload C.1 C.2.1 dX4_write_71 (lv_at hl 6 rfl) ?_
      refine lv_bipush (v := nI 45) C.1 C.2.1 dX4_write_73 (by decide) ?_
      refine q_ceq (tgt := 132) (y := 45) C (by decide) dX4_write_75 (by decide) (fun c_75 => ?_) (fun c_75 => ?_)
      · refine lv_aload_n C.1 C.2.1 dX4_write_132 rfl (lv_at hl 1 rfl) ?_
        refine lv_iload_n C.1 C.2.1 dX4_write_133 rfl (lv_at hl 2 rfl) ?_
        refine lv_iload C.1 C.2.1 dX4_write_134 (lv_at hl 5 rfl) ?_
        refine lv_iload_n C.1 C.2.1 dX4_write_136 rfl (lv_at hl 3 rfl) ?_
        refine q_callVi (rest := []) C (c_X4_causeFor l D g h a u_3 c k (nI n) hM2 (by omega) (by omega) _) (gw_V ml_X4_145 im_X4_causeFor se_X4_X4_causeFor ini_X4 cd_X4_causeFor rfl) rfl rfl rfl hd_X4_causeFor ⟨Nat.le_of_ble_eq_true rfl, Nat.le_of_ble_eq_true rfl⟩ hW pm_all (fun u_4 => (wM g h a u_4)) (fun _ => pm_all) rfl rfl hl.1 rfl (Nat.le_of_ble_eq_true rfl) ⟨Nat.le_of_ble_eq_true rfl, Nat.le_of_ble_eq_true rfl⟩ dX4_write_137 (fun r_4 u_4 H locs e_4 hW => ?_)
        obtain ⟨rfl, rfl⟩ := e_4
        refine lv_istore (lv' := [(7, .int (cI (mCause u_3 c k (nI n)))), (6, .int (bI o9)), (0, .ref h), (1, .int (nI c)), (2, .int (nI n)), (3, .int (nI x)), (4, .int (nI k)), (5, .int (cI (mSt M0 (64 * c + k))))]) C.1 C.2.1 dX4_write_140 hl (by decide) rfl (fun ls hl => ?_)
        refine lv_aload_n C.1 C.2.1 dX4_write_142 rfl (lv_at hl 2 rfl) ?_
        refine lv_iload_n C.1 C.2.1 dX4_write_143 rfl (lv_at hl 3 rfl) ?_
        refine lv_iload C.1 C.2.1 dX4_write_144 (lv_at hl 6 rfl) ?_
        refine lv_bipush (v := nI 109) C.1 C.2.1 dX4_write_146 (by decide) ?_
        refine q_callVi (rest := []) C (c_X4_comes l D g h a u_3 c k (UInt16.ofNat 109) hM2 (by omega) (by omega) _) (gw_V ml_X4_126 im_X4_comes se_X4_X4_comes ini_X4 cd_X4_comes rfl) rfl rfl rfl hd_X4_comes ⟨Nat.le_of_ble_eq_true rfl, Nat.le_of_ble_eq_true rfl⟩ hW pm_all (fun u_5 => (wM g h a u_5)) (fun _ => pm_all) rfl rfl hl.1 rfl (Nat.le_of_ble_eq_true rfl) ⟨Nat.le_of_ble_eq_true rfl, Nat.le_of_ble_eq_true rfl⟩ dX4_write_148 (fun r_5 u_5 H locs e_5 hW => ?_)
        obtain ⟨rfl, e_5⟩ := e_5
        have hS3 := mSame_comes u_3 c k (UInt16.ofNat 109)
        rw [e_5] at hS3
        have hM3 := hM2.same hS3
        have hA3 := hS3.2.2.2.1
        refine q_bt (b := (mComes u_3 c k (UInt16.ofNat 109)).1) (tgt := 158) C dX4_write_151 (by decide) (fun c_151 => ?_) (fun c_151 => ?_)
        · refine lv_iconst (v := nI 0) C.1 C.2.1 dX4_write_158 (by decide) ?_
          refine lv_istore (lv' := [(8, .int (nI 0)), (7, .int (cI (mCause u_3 c k (nI n)))), (6, .int (bI o9)), (0, .ref h), (1, .int (nI c)), (2, .int (nI n)), (3, .int (nI x)), (4, .int (nI k)), (5, .int (cI (mSt M0 (64 * c + k))))]) C.1 C.2.1 dX4_write_159 hl (by decide) rfl (fun ls hl => ?_)
          refine lv_aload_n C.1 C.2.1 dX4_write_161 rfl (lv_at hl 3 rfl) ?_
          refine lv_iload_n C.1 C.2.1 dX4_write_162 rfl (lv_at hl 4 rfl) ?_
          refine lv_iload C.1 C.2.1 dX4_write_163 (lv_at hl 7 rfl) ?_
          refine q_callVv (rest := []) C (c_X4_learns l D g h a u_5 c k hM3 (by omega) (by omega) _) (gw_V ml_X4_149 im_X4_learns se_X4_X4_learns ini_X4 cd_X4_learns rfl) rfl rfl rfl hd_X4_learns ⟨Nat.le_of_ble_eq_true rfl, Nat.le_of_ble_eq_true rfl⟩ hW pm_all (fun u_6 => (wM g h a u_6)) (fun _ => pm_all) rfl rfl hl.1 rfl (Nat.le_of_ble_eq_true rfl) ⟨Nat.le_of_ble_eq_true rfl, Nat.le_of_ble_eq_true rfl⟩ dX4_write_165 (fun u_6 H locs e_6 hW => ?_)
          skip
          have hS4 := mSame_learns u_5 c k
          rw [e_6] at hS4
          have hM4 := hM3.same hS4
          have hA4 := hS4.2.2.2.1
          refine lv_aload_n C.1 C.2.1 dX4_write_168 rfl (lv_at hl 3 rfl) ?_
          refine lv_iload_n C.1 C.2.1 dX4_write_169 rfl (lv_at hl 4 rfl) ?_
          refine lv_iload_n C.1 C.2.1 dX4_write_170 rfl (lv_at hl 5 rfl) ?_
          refine lv_iload C.1 C.2.1 dX4_write_171 (lv_at hl 0 rfl) ?_
          refine lv_iload C.1 C.2.1 dX4_write_173 (lv_at hl 2 rfl) ?_
          refine q_bt (b := o9) (tgt := 183) C dX4_write_175 (by decide) (fun c_175 => ?_) (fun c_175 => ?_)
          · refine lv_bipush (v := nI 40) C.1 C.2.1 dX4_write_183 (by decide) ?_
            refine q_iadd C dX4_write_185 ?_
            refine lv_iload C.1 C.2.1 dX4_write_186 (lv_at hl 1 rfl) ?_
            refine q_callVi (rest := []) C (c_X4_notes l D g h a u_6 c n (0 + 40) (mCause u_3 c k (nI n)) hM4 (by omega) _) (gw_V ml_X4_141 im_X4_notes se_X4_X4_notes ini_X4 cd_X4_notes rfl) rfl rfl rfl hd_X4_notes ⟨Nat.le_of_ble_eq_true rfl, Nat.le_of_ble_eq_true rfl⟩ hW pm_all (fun u_7 => (wM g h u_7.1 u_7.2)) (fun _ => pm_all) rfl rfl hl.1 rfl (Nat.le_of_ble_eq_true rfl) ⟨Nat.le_of_ble_eq_true rfl, Nat.le_of_ble_eq_true rfl⟩ dX4_write_188 (fun r_7 u_7 H locs e_7 hW => ?_)
            obtain ⟨rfl, e_7⟩ := e_7
            exact q_iret C hRt hLk hW rfl (u_7.1, u_7.2) ⟨(Eq.symm (by rw [hR0]; unfold mWriteAt; rw [if_pos c_75, hO, e_3, mTail_1 c_151 e_5, c_175]; rfl)), (Eq.symm (by rw [hR0]; unfold mWriteAt; rw [if_pos c_75, hO, e_3, mTail_1 c_151 e_5, c_175]; dsimp only; rw [e_6]; exact e_7.symm))⟩  rfl (Nat.le_of_ble_eq_true rfl) (Nat.le_of_ble_eq_true rfl) dX4_write_191
          refine lv_bipush (v := nI 12) C.1 C.2.1 dX4_write_178 (by decide) ?_
          refine lv_goto (tgt := 185) C.1 C.2.1 dX4_write_180 (by decide) ?_
          refine q_iadd C dX4_write_185 ?_
          refine lv_iload C.1 C.2.1 dX4_write_186 (lv_at hl 1 rfl) ?_
          refine q_callVi (rest := []) C (c_X4_notes l D g h a u_6 c n (0 + 12) (mCause u_3 c k (nI n)) hM4 (by omega) _) (gw_V ml_X4_141 im_X4_notes se_X4_X4_notes ini_X4 cd_X4_notes rfl) rfl rfl rfl hd_X4_notes ⟨Nat.le_of_ble_eq_true rfl, Nat.le_of_ble_eq_true rfl⟩ hW pm_all (fun u_8 => (wM g h u_8.1 u_8.2)) (fun _ => pm_all) rfl rfl hl.1 rfl (Nat.le_of_ble_eq_true rfl) ⟨Nat.le_of_ble_eq_true rfl, Nat.le_of_ble_eq_true rfl⟩ dX4_write_188 (fun r_8 u_8 H locs e_8 hW => ?_)
          obtain ⟨rfl, e_8⟩ := e_8
          exact q_iret C hRt hLk hW rfl (u_8.1, u_8.2) ⟨(Eq.symm (by rw [hR0]; unfold mWriteAt; rw [if_pos c_75, hO, e_3, mTail_1 c_151 e_5, c_175]; rfl)), (Eq.symm (by rw [hR0]; unfold mWriteAt; rw [if_pos c_75, hO, e_3, mTail_1 c_151 e_5, c_175]; dsimp only; rw [e_6]; exact e_8.symm))⟩  rfl (Nat.le_of_ble_eq_true rfl) (Nat.le_of_ble_eq_true rfl) dX4_write_191
        refine lv_iconst (v := nI 5) C.1 C.2.1 dX4_write_154 (by decide) ?_
        refine lv_goto (tgt := 159) C.1 C.2.1 dX4_write_155 (by decide) ?_
        refine lv_istore (lv' := [(8, .int (nI 5)), (7, .int (cI (mCause u_3 c k (nI n)))), (6, .int (bI o9)), (0, .ref h), (1, .int (nI c)), (2, .int (nI n)), (3, .int (nI x)), (4, .int (nI k)), (5, .int (cI (mSt M0 (64 * c + k))))]) C.1 C.2.1 dX4_write_159 hl (by decide) rfl (fun ls hl => ?_)
        refine lv_aload_n C.1 C.2.1 dX4_write_161 rfl (lv_at hl 3 rfl) ?_
        refine lv_iload_n C.1 C.2.1 dX4_write_162 rfl (lv_at hl 4 rfl) ?_
        refine lv_iload C.1 C.2.1 dX4_write_163 (lv_at hl 7 rfl) ?_
        refine q_callVv (rest := []) C (c_X4_learns l D g h a u_5 c k hM3 (by omega) (by omega) _) (gw_V ml_X4_149 im_X4_learns se_X4_X4_learns ini_X4 cd_X4_learns rfl) rfl rfl rfl hd_X4_learns ⟨Nat.le_of_ble_eq_true rfl, Nat.le_of_ble_eq_true rfl⟩ hW pm_all (fun u_9 => (wM g h a u_9)) (fun _ => pm_all) rfl rfl hl.1 rfl (Nat.le_of_ble_eq_true rfl) ⟨Nat.le_of_ble_eq_true rfl, Nat.le_of_ble_eq_true rfl⟩ dX4_write_165 (fun u_9 H locs e_9 hW => ?_)
        skip
        have hS4 := mSame_learns u_5 c k
        rw [e_9] at hS4
        have hM4 := hM3.same hS4
        have hA4 := hS4.2.2.2.1
        refine lv_aload_n C.1 C.2.1 dX4_write_168 rfl (lv_at hl 3 rfl) ?_
        refine lv_iload_n C.1 C.2.1 dX4_write_169 rfl (lv_at hl 4 rfl) ?_
        refine lv_iload_n C.1 C.2.1 dX4_write_170 rfl (lv_at hl 5 rfl) ?_
        refine lv_iload C.1 C.2.1 dX4_write_171 (lv_at hl 0 rfl) ?_
        refine lv_iload C.1 C.2.1 dX4_write_173 (lv_at hl 2 rfl) ?_
        refine q_bt (b := o9) (tgt := 183) C dX4_write_175 (by decide) (fun c_175 => ?_) (fun c_175 => ?_)
        · refine lv_bipush (v := nI 40) C.1 C.2.1 dX4_write_183 (by decide) ?_
          refine q_iadd C dX4_write_185 ?_
          refine lv_iload C.1 C.2.1 dX4_write_186 (lv_at hl 1 rfl) ?_
          refine q_callVi (rest := []) C (c_X4_notes l D g h a u_9 c n (5 + 40) (mCause u_3 c k (nI n)) hM4 (by omega) _) (gw_V ml_X4_141 im_X4_notes se_X4_X4_notes ini_X4 cd_X4_notes rfl) rfl rfl rfl hd_X4_notes ⟨Nat.le_of_ble_eq_true rfl, Nat.le_of_ble_eq_true rfl⟩ hW pm_all (fun u_10 => (wM g h u_10.1 u_10.2)) (fun _ => pm_all) rfl rfl hl.1 rfl (Nat.le_of_ble_eq_true rfl) ⟨Nat.le_of_ble_eq_true rfl, Nat.le_of_ble_eq_true rfl⟩ dX4_write_188 (fun r_10 u_10 H locs e_10 hW => ?_)
          obtain ⟨rfl, e_10⟩ := e_10
          exact q_iret C hRt hLk hW rfl (u_10.1, u_10.2) ⟨(Eq.symm (by rw [hR0]; unfold mWriteAt; rw [if_pos c_75, hO, e_3, mTail_1 c_151 e_5, c_175]; rfl)), (Eq.symm (by rw [hR0]; unfold mWriteAt; rw [if_pos c_75, hO, e_3, mTail_1 c_151 e_5, c_175]; dsimp only; rw [e_9]; exact e_10.symm))⟩  rfl (Nat.le_of_ble_eq_true rfl) (Nat.le_of_ble_eq_true rfl) dX4_write_191
        refine lv_bipush (v := nI 12) C.1 C.2.1 dX4_write_178 (by decide) ?_
        refine lv_goto (tgt := 185) C.1 C.2.1 dX4_write_180 (by decide) ?_
        refine q_iadd C dX4_write_185 ?_
        refine lv_iload C.1 C.2.1 dX4_write_186 (lv_at hl 1 rfl) ?_
        refine q_callVi (rest := []) C (c_X4_notes l D g h a u_9 c n (5 + 12) (mCause u_3 c k (nI n)) hM4 (by omega) _) (gw_V ml_X4_141 im_X4_notes se_X4_X4_notes ini_X4 cd_X4_notes rfl) rfl rfl rfl hd_X4_notes ⟨Nat.le_of_ble_eq_true rfl, Nat.le_of_ble_eq_true rfl⟩ hW pm_all (fun u_11 => (wM g h u_11.1 u_11.2)) (fun _ => pm_all) rfl rfl hl.1 rfl (Nat.le_of_ble_eq_true rfl) ⟨Nat.le_of_ble_eq_true rfl, Nat.le_of_ble_eq_true rfl⟩ dX4_write_188 (fun r_11 u_11 H locs e_11 hW => ?_)
        obtain ⟨rfl, e_11⟩ := e_11
        exact q_iret C hRt hLk hW rfl (u_11.1, u_11.2) ⟨(Eq.symm (by rw [hR0]; unfold mWriteAt; rw [if_pos c_75, hO, e_3, mTail_1 c_151 e_5, c_175]; rfl)), (Eq.symm (by rw [hR0]; unfold mWriteAt; rw [if_pos c_75, hO, e_3, mTail_1 c_151 e_5, c_175]; dsimp only; rw [e_9]; exact e_11.symm))⟩  rfl (Nat.le_of_ble_eq_true rfl) (Nat.le_of_ble_eq_true rfl) dX4_write_191
      refine lv_aload_n C.1 C.2.1 dX4_write_78 rfl (lv_at hl 1 rfl) ?_
      refine lv_iload_n C.1 C.2.1 dX4_write_79 rfl (lv_at hl 2 rfl) ?_
      refine lv_iload C.1 C.2.1 dX4_write_80 (lv_at hl 5 rfl) ?_
      refine q_callVv (rest := []) C (c_X4_uses l D g h a u_3 c k hM2 (by omega) (by omega) _) (gw_V ml_X4_137 im_X4_uses se_X4_X4_uses ini_X4 cd_X4_uses rfl) rfl rfl rfl hd_X4_uses ⟨Nat.le_of_ble_eq_true rfl, Nat.le_of_ble_eq_true rfl⟩ hW pm_all (fun u_12 => (wM g h a u_12)) (fun _ => pm_all) rfl rfl hl.1 rfl (Nat.le_of_ble_eq_true rfl) ⟨Nat.le_of_ble_eq_true rfl, Nat.le_of_ble_eq_true rfl⟩ dX4_write_82 (fun u_12 H locs e_12 hW => ?_)
      skip
      have hS3 := mSame_uses u_3 c k
      rw [e_12] at hS3
      have hM3 := hM2.same hS3
      have hA3 := hS3.2.2.2.1
      refine lv_aload_n C.1 C.2.1 dX4_write_85 rfl (lv_at hl 1 rfl) ?_
      refine q_get (v := .ref (a 2)) C hW 0 rfl rfl 2 (by decide) gu_X4 (C.2.2.2.2 _ fl_X4_16) rfl rfl dX4_write_86 ?_
      refine lv_iload_n C.1 C.2.1 dX4_write_89 rfl (lv_at hl 2 rfl) ?_
      refine lv_iload C.1 C.2.1 dX4_write_90 (lv_at hl 5 rfl) ?_
      refine q_callSi (rest := [.ref (a 2)]) C (c_X4_at l D g c k _) (gw_S ml_X4_100 sm_X4_at ini_X4 cd_X4_at rfl) rfl rfl rfl hd_X4_at ⟨Nat.le_of_ble_eq_true rfl, Nat.le_of_ble_eq_true rfl⟩ hW (List.Perm.refl _) (fun (u_13 : Unit) => (wM g h a u_12)) (fun _ => List.Perm.refl _) hl.1 rfl (Nat.le_of_ble_eq_true rfl) ⟨Nat.le_of_ble_eq_true rfl, Nat.le_of_ble_eq_true rfl⟩ dX4_write_92 (fun r_13 u_13 H locs e_13 hW => ?_)
      subst e_13
      refine lv_bipush (v := nI 109) C.1 C.2.1 dX4_write_95 (by decide) ?_
      refine q_castC C hW 3 rfl (k := 64 * c + k) (by omega) (by decide) (v := (UInt16.ofNat 109)) (wMc g h a (mWd u_12) (mPl u_12) (va_up (mSt u_12) (64 * c + k) (UInt16.ofNat 109)) (mUs u_12) (mLb u_12) (mNw u_12) (mAh u_12) (mMs u_12) (mLm u_12) (mLs u_12) (mFe u_12) (mUf u_12) (mWr u_12) (mCo u_12) (mNa u_12) (mCr u_12) (mCa u_12) (mTh u_12) (mNm u_12) (mAc u_12) (mCk u_12) (mCp u_12)) rfl dX4_write_97 (fun H locs hW => ?_)
      have hM4 : MOK (mSetM u_12 (64 * c + k)) := hM3.same (mSame_setM _ _)
      have hA4 : mAc (mSetM u_12 (64 * c + k)) = mAc u_12 := rfl
      have hW : qW D g (va_A (wM g h a M) sz) ss.heap ss (wM g h a (mSetM u_12 (64 * c + k))) H locs := hW
      refine lv_aload_n C.1 C.2.1 dX4_write_98 rfl (lv_at hl 1 rfl) ?_
      refine lv_iload_n C.1 C.2.1 dX4_write_99 rfl (lv_at hl 2 rfl) ?_
      refine lv_iload_n C.1 C.2.1 dX4_write_100 rfl (lv_at hl 3 rfl) ?_
      refine lv_iload C.1 C.2.1 dX4_write_101 (lv_at hl 6 rfl) ?_
      refine lv_bipush (v := nI 115) C.1 C.2.1 dX4_write_103 (by decide) ?_
      refine q_cne (tgt := 113) (y := 115) C (by decide) dX4_write_105 (by decide) (fun c_105 => ?_) (fun c_105 => ?_)
      · refine lv_iconst (v := nI 1) C.1 C.2.1 dX4_write_113 (by decide) ?_
        refine lv_iload C.1 C.2.1 dX4_write_114 (lv_at hl 6 rfl) ?_
        refine lv_bipush (v := nI 115) C.1 C.2.1 dX4_write_116 (by decide) ?_
        refine q_cne (tgt := 126) (y := 115) C (by decide) dX4_write_118 (by decide) (fun c_118 => ?_) (fun c_118 => absurd c_118 c_105)
        refine lv_bipush (v := nI 104) C.1 C.2.1 dX4_write_126 (by decide) ?_
        refine q_callVi (rest := []) C (c_X4_notes l D g h a (mSetM u_12 (64 * c + k)) c n 1 (UInt16.ofNat 104) hM4 (by omega) _) (gw_V ml_X4_141 im_X4_notes se_X4_X4_notes ini_X4 cd_X4_notes rfl) rfl rfl rfl hd_X4_notes ⟨Nat.le_of_ble_eq_true rfl, Nat.le_of_ble_eq_true rfl⟩ hW pm_all (fun u_14 => (wM g h u_14.1 u_14.2)) (fun _ => pm_all) rfl rfl hl.1 rfl (Nat.le_of_ble_eq_true rfl) ⟨Nat.le_of_ble_eq_true rfl, Nat.le_of_ble_eq_true rfl⟩ dX4_write_128 (fun r_14 u_14 H locs e_14 hW => ?_)
        obtain ⟨rfl, e_14⟩ := e_14
        exact q_iret C hRt hLk hW rfl (u_14.1, u_14.2) ⟨(Eq.symm (by rw [hR0]; unfold mWriteAt; rw [if_neg c_75, if_neg c_105]; try rfl)), (Eq.symm (by rw [hR0]; unfold mWriteAt; rw [if_neg c_75, if_neg c_105]; dsimp only; rw [e_3, e_12]; exact e_14.symm))⟩  rfl (Nat.le_of_ble_eq_true rfl) (Nat.le_of_ble_eq_true rfl) dX4_write_131
      refine lv_bipush (v := nI 8) C.1 C.2.1 dX4_write_108 (by decide) ?_
      refine lv_goto (tgt := 114) C.1 C.2.1 dX4_write_110 (by decide) ?_
      refine lv_iload C.1 C.2.1 dX4_write_114 (lv_at hl 6 rfl) ?_
      refine lv_bipush (v := nI 115) C.1 C.2.1 dX4_write_116 (by decide) ?_
      refine q_cne (tgt := 126) (y := 115) C (by decide) dX4_write_118 (by decide) (fun c_118 => absurd c_105 c_118) (fun c_118 => ?_)
      refine lv_bipush (v := nI 117) C.1 C.2.1 dX4_write_121 (by decide) ?_
      refine lv_goto (tgt := 128) C.1 C.2.1 dX4_write_123 (by decide) ?_
      refine q_callVi (rest := []) C (c_X4_notes l D g h a (mSetM u_12 (64 * c + k)) c n 8 (UInt16.ofNat 117) hM4 (by omega) _) (gw_V ml_X4_141 im_X4_notes se_X4_X4_notes ini_X4 cd_X4_notes rfl) rfl rfl rfl hd_X4_notes ⟨Nat.le_of_ble_eq_true rfl, Nat.le_of_ble_eq_true rfl⟩ hW pm_all (fun u_15 => (wM g h u_15.1 u_15.2)) (fun _ => pm_all) rfl rfl hl.1 rfl (Nat.le_of_ble_eq_true rfl) ⟨Nat.le_of_ble_eq_true rfl, Nat.le_of_ble_eq_true rfl⟩ dX4_write_128 (fun r_15 u_15 H locs e_15 hW => ?_)
      obtain ⟨rfl, e_15⟩ := e_15
      exact q_iret C hRt hLk hW rfl (u_15.1, u_15.2) ⟨(Eq.symm (by rw [hR0]; unfold mWriteAt; rw [if_neg c_75, if_pos c_105]; try rfl)), (Eq.symm (by rw [hR0]; unfold mWriteAt; rw [if_neg c_75, if_pos c_105]; dsimp only; rw [e_3, e_12]; exact e_15.symm))⟩  rfl (Nat.le_of_ble_eq_true rfl) (Nat.le_of_ble_eq_true rfl) dX4_write_131
    refine lv_aload_n C.1 C.2.1 dX4_write_46 rfl (lv_at hl 2 rfl) ?_
    refine lv_iload_n C.1 C.2.1 dX4_write_47 rfl (lv_at hl 3 rfl) ?_
    refine lv_iload C.1 C.2.1 dX4_write_48 (lv_at hl 1 rfl) ?_
    refine q_callVi (rest := []) C (c_X4_othersWith l D g h a M0 (nI c) k hM0 (by omega) _) (gw_V ml_X4_123 im_X4_othersWith se_X4_X4_othersWith ini_X4 cd_X4_othersWith rfl) rfl rfl rfl hd_X4_othersWith ⟨Nat.le_of_ble_eq_true rfl, Nat.le_of_ble_eq_true rfl⟩ hW pm_all (fun u_16 => (wM g h a u_16)) (fun _ => pm_all) rfl rfl hl.1 rfl (Nat.le_of_ble_eq_true rfl) ⟨Nat.le_of_ble_eq_true rfl, Nat.le_of_ble_eq_true rfl⟩ dX4_write_50 (fun r_16 u_16 H locs e_16 hW => ?_)
    obtain ⟨rfl, rfl⟩ := e_16
    have ho9 := mOthers_le M0 (nI c) k
    refine q_zle (tgt := 60) C (by omega) dX4_write_53 (by decide) (fun c_53 => ?_) (fun c_53 => ?_)
    · refine lv_iconst (v := nI 0) C.1 C.2.1 dX4_write_60 (by decide) ?_
      exact L_61  (mShared M0 c k) rfl _ (by unfold mShared; rw [decide_eq_false (by omega)]; rfl) ls _ _ (lv_sub hl [2, 3, 4, 5, 1, 0] rfl) hW
    refine lv_iconst (v := nI 1) C.1 C.2.1 dX4_write_56 (by decide) ?_
    refine lv_goto (tgt := 61) C.1 C.2.1 dX4_write_57 (by decide) ?_
    exact L_61  (mShared M0 c k) rfl _ (by unfold mShared; rw [decide_eq_true c_53]; rfl) ls _ _ (lv_sub hl [2, 3, 4, 5, 1, 0] rfl) hW
  refine lv_iconst (v := nI 0) C.1 C.2.1 dX4_write_18 (by decide) ?_
  exact q_iret C hRt hLk hW rfl (a, (mWd M, mPl M, mSt M, mUs M, mLb M, mNw M, mAh M, mMs M, mLm M, mLs M, mFe M, mUf M, mWr M, mCo M, mNa M, mCr M, mCa M, mWrong M v1 v2 v3, mNm M, mAc M, mCk M, mCp M)) ⟨(Eq.symm (by unfold mWrite; rw [mSpot_none hM (by omega)])), (Eq.symm (by unfold mWrite; rw [mSpot_none hM (by omega)]))⟩  rfl (Nat.le_of_ble_eq_true rfl) (Nat.le_of_ble_eq_true rfl) dX4_write_19
