/-! The class: coherence, the constructor. -/
theorem hd_X3_isSameByReplay : yX3_isSameByReplay.cls = RX3 ∧ yX3_isSameByReplay.cls ≠ "java/lang/invoke/MethodHandle" ∧ yX3_isSameByReplay.cls ≠ "java/lang/invoke/VarHandle" ∧ (parseMethodDescriptor yX3_isSameByReplay.desc).map (fun d => d.parameters.length) = some 0 := by decide +kernel
set_option maxHeartbeats 4000000 in
set_option maxRecDepth 100000 in
theorem c_X3_isSameByReplay (l : Launch) (hst : l.stackTraces = false) (D : va_G) (g : Nat → ClassId) (ev : Nat × Nat × (Nat → Nat)) (A : Nat → Nat → Nat) (X : XS) (hX : XOK ev.1 X)  (sz : Nat) : qNi l yX3_isSameByReplay (.code yX3_isSameByReplay cX3_isSameByReplay 3 (some .boolean) :: GW) ({ frames := 5, cells := 0, slots := 0, locals := 122 } : Room) D g ev [.ref (A 0 0)] (wX g A X) sz (fun (r : Int32) (u : XS) => bI (repAll (pX X)) = r ∧ ∃ Rv, xSetR X Rv = u) (fun (u : XS) => wX g A u) 0 0 := by
  refine qe_entry (cc := cX3_isSameByReplay) (nL := 3) (ret := (some .boolean)) rfl (by decide) (Nat.le_of_ble_eq_true rfl) (fun pp ee ss mm bb mt kc ls C hRt hLk hin hsz hW hE hl => ?_)
  have hl : lv_has ls 3 [(0, .ref (A 0 0))] := hl
  have hW : qW D g (va_A (wX g A X) sz) ss.heap ss ([((A 0 0), .inr (6, [.ref (A 0 1), .ref (A 0 2), .ref (A 0 3), .ref (A 0 4), .ref (A 0 5)]))] ++ ((wL g (A 0 1) (A 1) (xL X)) ++ ((wC g (A 0 2) (A 2) (xC X)) ++ ((wC g (A 0 3) (A 3) (xR X)) ++ ((wAL g (A 0 4) (xl X)) ++ ((wAL g (A 0 5) (xa X)) ++ (wP  (xE X)))))))) ss.heap [] := hW
  have hN := hX.1.1
  have hN9 : lNm (sL (pX X)) ≤ 12 := hN
  have hlen := hX.len
  refine lv_aload_n C.1 C.2.1 dX3_isSameByReplay_0 rfl (lv_at hl 0 rfl) ?_
  refine q_get (v := .ref (A 0 3)) C hW 0 rfl rfl 2 (by decide) gu_X3 (C.2.2.2.2 _ fl_X3_23) rfl rfl dX3_isSameByReplay_1 ?_
  refine q_callVv (rest := []) C (c_X0_clear l D g (A 0 3) (A 3) (xR X) _) (gw_V ml_X3_267 im_X0_clear se_X0_X0_clear ini_X0 cd_X0_clear rfl) rfl rfl rfl hd_X0_clear ⟨Nat.le_of_ble_eq_true rfl, Nat.le_of_ble_eq_true rfl⟩ hW pm_3 (fun u_1 => ([((A 0 0), .inr (6, [.ref (A 0 1), .ref (A 0 2), .ref (A 0 3), .ref (A 0 4), .ref (A 0 5)]))] ++ ((wL g (A 0 1) (A 1) (xL X)) ++ ((wC g (A 0 2) (A 2) (xC X)) ++ ((wC g (A 0 3) (A 3) u_1) ++ ((wAL g (A 0 4) (xl X)) ++ ((wAL g (A 0 5) (xa X)) ++ (wP  (xE X))))))))) (fun _ => pm_3) rfl rfl hl.1 rfl (Nat.le_of_ble_eq_true rfl) ⟨Nat.le_of_ble_eq_true rfl, Nat.le_of_ble_eq_true rfl⟩ dX3_isSameByReplay_4 (fun u_1 H locs e_1 hW => ?_)
  skip
  subst e_1
  refine lv_iconst (v := nI 0) C.1 C.2.1 dX3_isSameByReplay_7 (by decide) ?_
  refine lv_istore_n (lv' := [(1, .int (nI 0)), (0, .ref (A 0 0))]) C.1 C.2.1 dX3_isSameByReplay_8 rfl hl (by decide) rfl (fun ls hl => ?_)
  have L_9 : ∀ (nf : Nat) (i : Nat) (hi : i ≤ alC (xl X)) (hj : ∀ j, j < i → repSame (repN (evs X) j) ((evs X).getD j evD) = true) (x1 : Int32) (e1 : x1 = nI i) (hmu : alC (xl X) - i < nf) (ls : Array Slot) (H : Heap) (locs : List Loc), lv_has ls 3 [(0, .ref (A 0 0)), (1, .int x1)] → qW D g (va_A (wX g A X) sz) ss.heap ss ([((A 0 0), .inr (6, [.ref (A 0 1), .ref (A 0 2), .ref (A 0 3), .ref (A 0 4), .ref (A 0 5)]))] ++ ((wL g (A 0 1) (A 1) (xL X)) ++ ((wC g (A 0 2) (A 2) (xC X)) ++ ((wC g (A 0 3) (A 3) (repN (evs X) i)) ++ ((wAL g (A 0 4) (xl X)) ++ ((wAL g (A 0 5) (xa X)) ++ (wP  (xE X)))))))) H locs → W pp l ee ({ frames := 5, cells := 0, slots := 0, locals := 122 } : Room) ss mm [.ref (A 0 0)].toArray bb mt kc H locs 0 0 (MQ bb (va_Qi (fun (r : Int32) (u : XS) => bI (repAll (pX X)) = r ∧ ∃ Rv, xSetR X Rv = u) (qB D g (wX g A X) sz (fun (u : XS) => wX g A u)) (va_A (wX g A X) sz)) [.ref (A 0 0)].toArray ss 0 0 (va_A (wX g A X) sz)) (F0 mm 9 ls []) := by
    intro nf
    induction nf with
    | zero =>
      intro i hi hj x1 e1 hmu ls H locs hl hW
      exact absurd hmu (by omega)
    | succ nf ih =>
      intro i hi hj x1 e1 hmu ls H locs hl hW
      subst e1
      refine lv_iload_n C.1 C.2.1 dX3_isSameByReplay_9 rfl (lv_at hl 1 rfl) ?_
      refine lv_aload_n C.1 C.2.1 dX3_isSameByReplay_10 rfl (lv_at hl 0 rfl) ?_
      refine q_get (v := .ref (A 0 4)) C hW 0 rfl rfl 3 (by decide) gu_X3 (C.2.2.2.2 _ fl_X3_29) rfl rfl dX3_isSameByReplay_11 ?_
      refine q_callFi (rest := [.int (nI i)]) C hE.2.2.2.2.2.2.2.1.1 (c_AL_size l D g (A 0 4) (xl X) _) (gw_F ml_X3_141 se_Jx4a65c_Jxbd725_size_0699_Jx4a65c_size_8abf5 im_Jx4a65c_size_8abf5 ini_Jx4a65c cd_Jx4a65c_size_8abf5 rfl) rfl rfl rfl hd_xLsize ⟨(Nat.le_of_ble_eq_true rfl), (Nat.le_of_ble_eq_true rfl)⟩ hW pm_4 (fun _ => ([((A 0 0), .inr (6, [.ref (A 0 1), .ref (A 0 2), .ref (A 0 3), .ref (A 0 4), .ref (A 0 5)]))] ++ ((wL g (A 0 1) (A 1) (xL X)) ++ ((wC g (A 0 2) (A 2) (xC X)) ++ ((wC g (A 0 3) (A 3) (repN (evs X) i)) ++ ((wAL g (A 0 4) (xl X)) ++ ((wAL g (A 0 5) (xa X)) ++ (wP  (xE X))))))))) (fun _ => pm_4) rfl rfl hl.1 rfl (Nat.le_of_ble_eq_true rfl) ⟨(Nat.le_of_ble_eq_true rfl), (Nat.le_of_ble_eq_true rfl)⟩ dX3_isSameByReplay_14 (fun r_2 _ H locs e_2 hW => ?_)
      subst e_2
      refine q_ge (tgt := 95) C (by omega) (by omega) dX3_isSameByReplay_19 (by decide) (fun c_19 => ?_) (fun c_19 => ?_)
      · refine lv_aload_n C.1 C.2.1 dX3_isSameByReplay_95 rfl (lv_at hl 0 rfl) ?_
        refine q_get (v := .ref (A 0 3)) C hW 0 rfl rfl 2 (by decide) gu_X3 (C.2.2.2.2 _ fl_X3_23) rfl rfl dX3_isSameByReplay_96 ?_
        refine lv_aload_n C.1 C.2.1 dX3_isSameByReplay_99 rfl (lv_at hl 0 rfl) ?_
        refine q_get (v := .ref (A 0 2)) C hW 0 rfl rfl 1 (by decide) gu_X3 (C.2.2.2.2 _ fl_X3_19) rfl rfl dX3_isSameByReplay_100 ?_
        refine q_callVi (rest := []) C (c_X0_hasStatesOf l D g (A 0 3) (A 3) (repN (evs X) i) (A 0 2) (A 2) (xC X) _) (gw_V ml_X3_283 im_X0_hasStatesOf se_X0_X0_hasStatesOf ini_X0 cd_X0_hasStatesOf rfl) rfl rfl rfl hd_X0_hasStatesOf ⟨(Nat.le_of_ble_eq_true rfl), (Nat.le_of_ble_eq_true rfl)⟩ hW pm_RC (fun u => ([((A 0 0), .inr (6, [.ref (A 0 1), .ref (A 0 2), .ref (A 0 3), .ref (A 0 4), .ref (A 0 5)]))] ++ ((wL g (A 0 1) (A 1) (xL X)) ++ ((wC g (A 0 2) (A 2) (xC X)) ++ ((wC g (A 0 3) (A 3) u) ++ ((wAL g (A 0 4) (xl X)) ++ ((wAL g (A 0 5) (xa X)) ++ (wP  (xE X))))))))) (fun _ => pm_RC) rfl rfl hl.1 rfl (Nat.le_of_ble_eq_true rfl) ⟨(Nat.le_of_ble_eq_true rfl), (Nat.le_of_ble_eq_true rfl)⟩ dX3_isSameByReplay_103 (fun r_103 u_103 H locs e_3 hW => ?_)
        obtain ⟨rfl, rfl⟩ := e_3
        exact q_iret C hRt hLk hW (narB _) ((xL X), (xC X), (repN (evs X) i), (xl X), (xa X), (xE X)) ⟨by rw [repAll_en (S := pX X) (fun j h9 => hj j (by have := hX.elen; omega)), show (sE (pX X)).length = i by rw [← hX.elen]; omega]; rfl, _, rfl⟩ rfl (Nat.le_of_ble_eq_true rfl) (Nat.le_of_ble_eq_true rfl) dX3_isSameByReplay_106
      refine lv_aload_n C.1 C.2.1 dX3_isSameByReplay_22 rfl (lv_at hl 0 rfl) ?_
      refine q_get (v := .ref (A 0 4)) C hW 0 rfl rfl 3 (by decide) gu_X3 (C.2.2.2.2 _ fl_X3_29) rfl rfl dX3_isSameByReplay_23 ?_
      refine lv_iload_n C.1 C.2.1 dX3_isSameByReplay_26 rfl (lv_at hl 1 rfl) ?_
      obtain ⟨p_27, p_27_1, p_27_2, p_27_3, p_27_4⟩ := hX.evt (i := i) (by omega)
      refine q_callFq (rest := []) C hE.2.2.2.2.2.2.2.1.2.1 (c_AL_get l D g (A 0 4) (xl X) i (by omega) hX.2.1.2.1 (by have := hX.2.1.2.2.2; omega) _) (gw_F ml_X3_148 se_Jx4a65c_Jxbd725_get_3715_Jx4a65c_get_915e3 im_Jx4a65c_get_915e3 ini_Jx4a65c cd_Jx4a65c_get_915e3 rfl) rfl rfl rfl hd_xLget ⟨(Nat.le_of_ble_eq_true rfl), (Nat.le_of_ble_eq_true rfl)⟩ hW pm_4 (fun _ => ([((A 0 0), .inr (6, [.ref (A 0 1), .ref (A 0 2), .ref (A 0 3), .ref (A 0 4), .ref (A 0 5)]))] ++ ((wL g (A 0 1) (A 1) (xL X)) ++ ((wC g (A 0 2) (A 2) (xC X)) ++ ((wC g (A 0 3) (A 3) (repN (evs X) i)) ++ ((wAL g (A 0 4) (xl X)) ++ ((wAL g (A 0 5) (xa X)) ++ (wP  (xE X))))))))) (fun _ => pm_4) rfl rfl hl.1 rfl (Nat.le_of_ble_eq_true rfl) ⟨(Nat.le_of_ble_eq_true rfl), (Nat.le_of_ble_eq_true rfl)⟩ dX3_isSameByReplay_27 (fun r_4 _ H locs e_4 hW => ?_)
      rw [p_27_1] at e_4
      subst e_4
      refine q_castM C hW (C.2.2.2.2 _ cl_X3_113) (z := p_27.2) (wF_mem p_27_3) dX3_isSameByReplay_32 ?_
      refine lv_astore_n (lv' := [(2, .ref p_27.1), (0, .ref (A 0 0)), (1, .int (nI i))]) C.1 C.2.1 dX3_isSameByReplay_35 rfl hl (by decide) rfl (fun ls hl => ?_)
      have hz9 := (hX.eo p_27_3).2.2.2
      have hz8 := rep1_le (xR (xSetR X (repN (evs X) i))) p_27.2
      refine lv_aload_n C.1 C.2.1 dX3_isSameByReplay_36 rfl (lv_at hl 0 rfl) ?_
      obtain ⟨wr_37, hp_37⟩ := hW.out (wF_mem p_27_3)
      refine q_callVi (rest := []) C (c_X1_isAccess l D g p_27.1 p_27.2 ((hX.eo p_27_3).1) _) (gw_V ml_X3_274 im_X1_isAccess se_X1_X1_isAccess ini_X1 cd_X1_isAccess rfl) rfl rfl rfl hd_X1_isAccess ⟨(Nat.le_of_ble_eq_true rfl), (Nat.le_of_ble_eq_true rfl)⟩ hW hp_37 (fun u => wE1 p_27.1 u ++ wr_37) (fun _ => List.Perm.refl _) rfl rfl hl.1 rfl (Nat.le_of_ble_eq_true rfl) ⟨(Nat.le_of_ble_eq_true rfl), (Nat.le_of_ble_eq_true rfl)⟩ dX3_isSameByReplay_37 (fun r_37 u_37 H locs e_5 hW => ?_)
      obtain ⟨rfl, rfl⟩ := e_5
      have hW := hW.perm hp_37
      refine q_bt (b := isA p_27.2) (tgt := 75) C dX3_isSameByReplay_40 (by decide) (fun c_40 => ?_) (fun c_40 => ?_)
      · refine lv_aload_n C.1 C.2.1 dX3_isSameByReplay_75 rfl (lv_at hl 0 rfl) ?_
        refine q_getM (v := .int (nI (eCs p_27.2))) C hW (wF_mem p_27_3) rfl 4 (by decide) gu_X1 (C.2.2.2.2 _ fl_X3_152) rfl rfl dX3_isSameByReplay_76 ?_
        refine lv_aload_n C.1 C.2.1 dX3_isSameByReplay_79 rfl (lv_at hl 1 rfl) ?_
        refine lv_aload_n C.1 C.2.1 dX3_isSameByReplay_80 rfl (lv_at hl 0 rfl) ?_
        refine qe_callVi (rest := [.int (nI (eCs p_27.2))]) C hE (c_X3_replay l hst D g ev A (xSetR X (repN (evs X) i)) (hX.setR (repN (evs X) i)) p_27 p_27_3 _) (gw_V ml_X3_270 im_X3_replay se_X3_X3_replay ini_X3 cd_X3_replay rfl) rfl rfl rfl hd_X3_replay ⟨(Nat.le_of_ble_eq_true rfl), (Nat.le_of_ble_eq_true rfl)⟩ hW pm_all (fun u => wX g A u) (fun _ => pm_all) rfl rfl hl.1 rfl (Nat.le_of_ble_eq_true rfl) ⟨(Nat.le_of_ble_eq_true rfl), (Nat.le_of_ble_eq_true rfl)⟩ dX3_isSameByReplay_81 (fun r_6 u_6 H locs e_6 hW => ?_)
        obtain ⟨rfl, rfl⟩ := e_6
        have hR9 : (rep1 (repN (evs X) i) p_27.2).2 = repN (evs X) (i + 1) := (repN_s p_27_2).symm
        have hW : qW D g (va_A (wX g A X) sz) ss.heap ss ([((A 0 0), .inr (6, [.ref (A 0 1), .ref (A 0 2), .ref (A 0 3), .ref (A 0 4), .ref (A 0 5)]))] ++ ((wL g (A 0 1) (A 1) (xL X)) ++ ((wC g (A 0 2) (A 2) (xC X)) ++ ((wC g (A 0 3) (A 3) (repN (evs X) (i + 1))) ++ ((wAL g (A 0 4) (xl X)) ++ ((wAL g (A 0 5) (xa X)) ++ (wP  (xE X)))))))) H locs := by rw [← hR9]; exact hW
        refine q_eq (tgt := 89) C (by omega) (by omega) dX3_isSameByReplay_84 (by decide) (fun c_84 => ?_) (fun c_84 => ?_)
        · refine q_iinc (d := 1) (lv' := [(1, .int (nI (i + 1))), (2, .ref p_27.1), (0, .ref (A 0 0))]) C dX3_isSameByReplay_89 (by decide) hl (k := 2) rfl (by decide) rfl (fun ls hl => ?_)
          refine lv_goto (tgt := 9) C.1 C.2.1 dX3_isSameByReplay_92 (by decide) ?_
          exact ih (i + 1) (by omega) (fun j hj9 => (Nat.lt_succ_iff_lt_or_eq.mp hj9).elim (hj j) (fun e9 => by rw [e9, getD_of p_27_2]; exact repSame_t (Or.inl c_40) c_84)) _ rfl (by omega) ls _ _ (lv_sub hl [2, 0] rfl) hW
        refine lv_iconst (v := nI 0) C.1 C.2.1 dX3_isSameByReplay_87 (by decide) ?_
        exact q_iret C hRt hLk hW (by decide) ((xL X), (xC X), (repN (evs X) (i + 1)), (xl X), (xa X), (xE X)) ⟨by rw [repAll_cs (S := pX X) p_27_2 (repSame_o c_84)]; rfl, _, rfl⟩ rfl (Nat.le_of_ble_eq_true rfl) (Nat.le_of_ble_eq_true rfl) dX3_isSameByReplay_88
      refine lv_aload_n C.1 C.2.1 dX3_isSameByReplay_43 rfl (lv_at hl 0 rfl) ?_
      refine q_getM (v := .int (cI (eCa p_27.2))) C hW (wF_mem p_27_3) rfl 5 (by decide) gu_X1 (C.2.2.2.2 _ fl_X3_159) rfl rfl dX3_isSameByReplay_44 ?_
      refine lv_aload_n C.1 C.2.1 dX3_isSameByReplay_47 rfl (lv_at hl 1 rfl) ?_
      refine q_get (v := .ref (A 0 3)) C hW 0 rfl rfl 2 (by decide) gu_X3 (C.2.2.2.2 _ fl_X3_23) rfl rfl dX3_isSameByReplay_48 ?_
      refine lv_aload_n C.1 C.2.1 dX3_isSameByReplay_51 rfl (lv_at hl 0 rfl) ?_
      refine q_getM (v := .int (nI (eCo p_27.2))) C hW (wF_mem p_27_3) rfl 1 (by decide) gu_X1 (C.2.2.2.2 _ fl_X3_207) rfl rfl dX3_isSameByReplay_52 ?_
      refine lv_aload_n C.1 C.2.1 dX3_isSameByReplay_55 rfl (lv_at hl 0 rfl) ?_
      refine q_getM (v := .int (oI (eNa p_27.2))) C hW (wF_mem p_27_3) rfl 2 (by decide) gu_X1 (C.2.2.2.2 _ fl_X3_195) rfl rfl dX3_isSameByReplay_56 ?_
      refine lv_aload_n C.1 C.2.1 dX3_isSameByReplay_59 rfl (lv_at hl 0 rfl) ?_
      refine q_getM (v := .int (oI (eLi p_27.2))) C hW (wF_mem p_27_3) rfl 3 (by decide) gu_X1 (C.2.2.2.2 _ fl_X3_277) rfl rfl dX3_isSameByReplay_60 ?_
      obtain ⟨n, k, hna, hli, hn12, hk⟩ := (hX.eo p_27_3).2.2.1 (of_decide_eq_true c_40)
      refine q_to (y := nI k) (by rw [hli]; rfl) ?_
      refine lv_aload_n C.1 C.2.1 dX3_isSameByReplay_63 rfl (lv_at hl 0 rfl) ?_
      obtain ⟨wr_64, hp_64⟩ := hW.out (wF_mem p_27_3)
      refine q_callVi (rest := [.int (nI k), .int (oI (eNa p_27.2)), .int (nI (eCo p_27.2)), .ref (A 0 3), .int (cI (eCa p_27.2))]) C (c_X1_isWrite l D g p_27.1 p_27.2 ((hX.eo p_27_3).1) _) (gw_V ml_X3_280 im_X1_isWrite se_X1_X1_isWrite ini_X1 cd_X1_isWrite rfl) rfl rfl rfl hd_X1_isWrite ⟨(Nat.le_of_ble_eq_true rfl), (Nat.le_of_ble_eq_true rfl)⟩ hW hp_64 (fun u => wE1 p_27.1 u ++ wr_64) (fun _ => List.Perm.refl _) rfl rfl hl.1 rfl (Nat.le_of_ble_eq_true rfl) ⟨(Nat.le_of_ble_eq_true rfl), (Nat.le_of_ble_eq_true rfl)⟩ dX3_isSameByReplay_64 (fun r_64 u_64 H locs e_7 hW => ?_)
      obtain ⟨rfl, rfl⟩ := e_7
      have hW := hW.perm hp_64
      refine q_callVi (rest := [.int (cI (eCa p_27.2))]) C (c_X0_causeOfNext l D g (A 0 3) (A 3) (repN (evs X) i) (eCo p_27.2) (oI (eNa p_27.2)) k (isW p_27.2) (hX.eo p_27_3).2.1 hk _) (gw_V ml_X3_256 im_X0_causeOfNext se_X0_X0_causeOfNext ini_X0 cd_X0_causeOfNext rfl) rfl rfl rfl hd_X0_causeOfNext ⟨Nat.le_of_ble_eq_true rfl, Nat.le_of_ble_eq_true rfl⟩ hW pm_3 (fun u_8 => ([((A 0 0), .inr (6, [.ref (A 0 1), .ref (A 0 2), .ref (A 0 3), .ref (A 0 4), .ref (A 0 5)]))] ++ ((wL g (A 0 1) (A 1) (xL X)) ++ ((wC g (A 0 2) (A 2) (xC X)) ++ ((wC g (A 0 3) (A 3) u_8) ++ ((wAL g (A 0 4) (xl X)) ++ ((wAL g (A 0 5) (xa X)) ++ (wP  (xE X))))))))) (fun _ => pm_3) rfl rfl hl.1 rfl (Nat.le_of_ble_eq_true rfl) ⟨Nat.le_of_ble_eq_true rfl, Nat.le_of_ble_eq_true rfl⟩ dX3_isSameByReplay_67 (fun r_8 u_8 H locs e_8 hW => ?_)
      obtain ⟨rfl, rfl⟩ := e_8
      refine q_cceq (tgt := 75) C dX3_isSameByReplay_70 (by decide) (fun c_70 => ?_) (fun c_70 => ?_)
      · refine lv_aload_n C.1 C.2.1 dX3_isSameByReplay_75 rfl (lv_at hl 0 rfl) ?_
        refine q_getM (v := .int (nI (eCs p_27.2))) C hW (wF_mem p_27_3) rfl 4 (by decide) gu_X1 (C.2.2.2.2 _ fl_X3_152) rfl rfl dX3_isSameByReplay_76 ?_
        refine lv_aload_n C.1 C.2.1 dX3_isSameByReplay_79 rfl (lv_at hl 1 rfl) ?_
        refine lv_aload_n C.1 C.2.1 dX3_isSameByReplay_80 rfl (lv_at hl 0 rfl) ?_
        refine qe_callVi (rest := [.int (nI (eCs p_27.2))]) C hE (c_X3_replay l hst D g ev A (xSetR X (repN (evs X) i)) (hX.setR (repN (evs X) i)) p_27 p_27_3 _) (gw_V ml_X3_270 im_X3_replay se_X3_X3_replay ini_X3 cd_X3_replay rfl) rfl rfl rfl hd_X3_replay ⟨(Nat.le_of_ble_eq_true rfl), (Nat.le_of_ble_eq_true rfl)⟩ hW pm_all (fun u => wX g A u) (fun _ => pm_all) rfl rfl hl.1 rfl (Nat.le_of_ble_eq_true rfl) ⟨(Nat.le_of_ble_eq_true rfl), (Nat.le_of_ble_eq_true rfl)⟩ dX3_isSameByReplay_81 (fun r_9 u_9 H locs e_9 hW => ?_)
        obtain ⟨rfl, rfl⟩ := e_9
        have hR9 : (rep1 (repN (evs X) i) p_27.2).2 = repN (evs X) (i + 1) := (repN_s p_27_2).symm
        have hW : qW D g (va_A (wX g A X) sz) ss.heap ss ([((A 0 0), .inr (6, [.ref (A 0 1), .ref (A 0 2), .ref (A 0 3), .ref (A 0 4), .ref (A 0 5)]))] ++ ((wL g (A 0 1) (A 1) (xL X)) ++ ((wC g (A 0 2) (A 2) (xC X)) ++ ((wC g (A 0 3) (A 3) (repN (evs X) (i + 1))) ++ ((wAL g (A 0 4) (xl X)) ++ ((wAL g (A 0 5) (xa X)) ++ (wP  (xE X)))))))) H locs := by rw [← hR9]; exact hW
        refine q_eq (tgt := 89) C (by omega) (by omega) dX3_isSameByReplay_84 (by decide) (fun c_84 => ?_) (fun c_84 => ?_)
        · refine q_iinc (d := 1) (lv' := [(1, .int (nI (i + 1))), (2, .ref p_27.1), (0, .ref (A 0 0))]) C dX3_isSameByReplay_89 (by decide) hl (k := 2) rfl (by decide) rfl (fun ls hl => ?_)
          refine lv_goto (tgt := 9) C.1 C.2.1 dX3_isSameByReplay_92 (by decide) ?_
          exact ih (i + 1) (by omega) (fun j hj9 => (Nat.lt_succ_iff_lt_or_eq.mp hj9).elim (hj j) (fun e9 => by rw [e9, getD_of p_27_2]; exact repSame_t (Or.inr ⟨k, hli, c_70⟩) c_84)) _ rfl (by omega) ls _ _ (lv_sub hl [2, 0] rfl) hW
        refine lv_iconst (v := nI 0) C.1 C.2.1 dX3_isSameByReplay_87 (by decide) ?_
        exact q_iret C hRt hLk hW (by decide) ((xL X), (xC X), (repN (evs X) (i + 1)), (xl X), (xa X), (xE X)) ⟨by rw [repAll_cs (S := pX X) p_27_2 (repSame_o c_84)]; rfl, _, rfl⟩ rfl (Nat.le_of_ble_eq_true rfl) (Nat.le_of_ble_eq_true rfl) dX3_isSameByReplay_88
      refine lv_iconst (v := nI 0) C.1 C.2.1 dX3_isSameByReplay_73 (by decide) ?_
      exact q_iret C hRt hLk hW (by decide) ((xL X), (xC X), (repN (evs X) i), (xl X), (xa X), (xE X)) ⟨by rw [repAll_cs (S := pX X) p_27_2 (repSame_c c_40 hli c_70)]; rfl, _, rfl⟩ rfl (Nat.le_of_ble_eq_true rfl) (Nat.le_of_ble_eq_true rfl) dX3_isSameByReplay_74
  exact L_9 (alC (xl X) - 0 + 1) 0 (by omega) (fun j hj9 => absurd hj9 (by omega)) _ rfl (by omega) ls _ _ (lv_sub hl [1, 0] rfl) hW

theorem hd_X3_isCoherent : yX3_isCoherent.cls = RX3 ∧ yX3_isCoherent.cls ≠ "java/lang/invoke/MethodHandle" ∧ yX3_isCoherent.cls ≠ "java/lang/invoke/VarHandle" ∧ (parseMethodDescriptor yX3_isCoherent.desc).map (fun d => d.parameters.length) = some 0 := by decide +kernel
set_option maxHeartbeats 4000000 in
set_option maxRecDepth 100000 in
theorem c_X3_isCoherent (l : Launch) (hst : l.stackTraces = false) (D : va_G) (g : Nat → ClassId) (ev : Nat × Nat × (Nat → Nat)) (A : Nat → Nat → Nat) (X : XS) (hX : XOK ev.1 X)  (sz : Nat) : qNi l yX3_isCoherent (.code yX3_isCoherent cX3_isCoherent 1 (some .boolean) :: GW) ({ frames := 6, cells := 0, slots := 0, locals := 144 } : Room) D g ev [.ref (A 0 0)] (wX g A X) sz (fun (r : Int32) (u : XS) => bI (pLone (xC X) && repAll (pX X)) = r ∧ ∃ Rv, xSetR X Rv = u) (fun (u : XS) => wX g A u) 0 0 := by
  refine qe_entry (cc := cX3_isCoherent) (nL := 1) (ret := (some .boolean)) rfl (by decide) (Nat.le_of_ble_eq_true rfl) (fun pp ee ss mm bb mt kc ls C hRt hLk hin hsz hW hE hl => ?_)
  have hl : lv_has ls 1 [(0, .ref (A 0 0))] := hl
  have hW : qW D g (va_A (wX g A X) sz) ss.heap ss ([((A 0 0), .inr (6, [.ref (A 0 1), .ref (A 0 2), .ref (A 0 3), .ref (A 0 4), .ref (A 0 5)]))] ++ ((wL g (A 0 1) (A 1) (xL X)) ++ ((wC g (A 0 2) (A 2) (xC X)) ++ ((wC g (A 0 3) (A 3) (xR X)) ++ ((wAL g (A 0 4) (xl X)) ++ ((wAL g (A 0 5) (xa X)) ++ (wP  (xE X)))))))) ss.heap [] := hW
  have hN := hX.1.1
  have hN9 : lNm (sL (pX X)) ≤ 12 := hN
  refine lv_aload_n C.1 C.2.1 dX3_isCoherent_0 rfl (lv_at hl 0 rfl) ?_
  refine q_get (v := .ref (A 0 2)) C hW 0 rfl rfl 1 (by decide) gu_X3 (C.2.2.2.2 _ fl_X3_19) rfl rfl dX3_isCoherent_1 ?_
  refine q_callVi (rest := []) C (c_X0_hasLoneOwners l D g (A 0 2) (A 2) (xC X) _) (gw_V ml_X3_227 im_X0_hasLoneOwners se_X0_X0_hasLoneOwners ini_X0 cd_X0_hasLoneOwners rfl) rfl rfl rfl hd_X0_hasLoneOwners ⟨Nat.le_of_ble_eq_true rfl, Nat.le_of_ble_eq_true rfl⟩ hW pm_2 (fun u_1 => ([((A 0 0), .inr (6, [.ref (A 0 1), .ref (A 0 2), .ref (A 0 3), .ref (A 0 4), .ref (A 0 5)]))] ++ ((wL g (A 0 1) (A 1) (xL X)) ++ ((wC g (A 0 2) (A 2) u_1) ++ ((wC g (A 0 3) (A 3) (xR X)) ++ ((wAL g (A 0 4) (xl X)) ++ ((wAL g (A 0 5) (xa X)) ++ (wP  (xE X))))))))) (fun _ => pm_2) rfl rfl hl.1 rfl (Nat.le_of_ble_eq_true rfl) ⟨Nat.le_of_ble_eq_true rfl, Nat.le_of_ble_eq_true rfl⟩ dX3_isCoherent_4 (fun r_1 u_1 H locs e_1 hW => ?_)
  obtain ⟨rfl, rfl⟩ := e_1
  refine q_bt (b := pLone (xC X)) (tgt := 21) C dX3_isCoherent_7 (by decide) (fun c_7 => ?_) (fun c_7 => ?_)
  · refine lv_iconst (v := nI 0) C.1 C.2.1 dX3_isCoherent_21 (by decide) ?_
    exact q_iret C hRt hLk hW (by decide) ((xL X), (xC X), (xR X), (xl X), (xa X), (xE X)) ⟨by rw [c_7]; rfl, _, rfl⟩ rfl (Nat.le_of_ble_eq_true rfl) (Nat.le_of_ble_eq_true rfl) dX3_isCoherent_22
  refine lv_aload_n C.1 C.2.1 dX3_isCoherent_10 rfl (lv_at hl 0 rfl) ?_
  refine qe_callVi (rest := []) C hE (c_X3_isSameByReplay l hst D g ev A X hX  _) (gw_V ml_X3_230 im_X3_isSameByReplay se_X3_X3_isSameByReplay ini_X3 cd_X3_isSameByReplay rfl) rfl rfl rfl hd_X3_isSameByReplay ⟨(Nat.le_of_ble_eq_true rfl), (Nat.le_of_ble_eq_true rfl)⟩ hW pm_all (fun u => wX g A u) (fun _ => pm_all) rfl rfl hl.1 rfl (Nat.le_of_ble_eq_true rfl) ⟨(Nat.le_of_ble_eq_true rfl), (Nat.le_of_ble_eq_true rfl)⟩ dX3_isCoherent_11 (fun r_2 u_2 H locs e_2 hW => ?_)
  obtain ⟨rfl, Rv, rfl⟩ := e_2
  refine q_bt (b := repAll (pX X)) (tgt := 21) C dX3_isCoherent_14 (by decide) (fun c_14 => ?_) (fun c_14 => ?_)
  · refine lv_iconst (v := nI 0) C.1 C.2.1 dX3_isCoherent_21 (by decide) ?_
    exact q_iret C hRt hLk hW (by decide) ((xL X), (xC X), Rv, (xl X), (xa X), (xE X)) ⟨by rw [c_7, c_14]; rfl, _, rfl⟩ rfl (Nat.le_of_ble_eq_true rfl) (Nat.le_of_ble_eq_true rfl) dX3_isCoherent_22
  refine lv_iconst (v := nI 1) C.1 C.2.1 dX3_isCoherent_17 (by decide) ?_
  refine lv_goto (tgt := 22) C.1 C.2.1 dX3_isCoherent_18 (by decide) ?_
  exact q_iret C hRt hLk hW (by decide) ((xL X), (xC X), Rv, (xl X), (xa X), (xE X)) ⟨by rw [c_7, c_14]; rfl, _, rfl⟩ rfl (Nat.le_of_ble_eq_true rfl) (Nat.le_of_ble_eq_true rfl) dX3_isCoherent_22

theorem hd_X3_init : yX3_init.cls ≠ "java/lang/invoke/MethodHandle" ∧ yX3_init.cls ≠ "java/lang/invoke/VarHandle" ∧ (parseMethodDescriptor yX3_init.desc).map (fun d => d.parameters.length) = some 0 := by decide +kernel
theorem df_X2 : ∀ j, j < 4 → defaultValue (tyX2 j) = vp_V [.null, .null, .null, .int (nI 0)] j := by
  intro j hj
  match j with
  | 0 => rfl
  | 1 => rfl
  | 2 => rfl
  | 3 => rfl
  | n + 4 => omega
theorem df_X0 : ∀ j, j < 11 → defaultValue (tyX0 j) = vp_V [.null, .null, .null, .null, .null, .null, .null, .null, .null, .null, .int (nI 0)] j := by
  intro j hj
  match j with
  | 0 => rfl
  | 1 => rfl
  | 2 => rfl
  | 3 => rfl
  | 4 => rfl
  | 5 => rfl
  | 6 => rfl
  | 7 => rfl
  | 8 => rfl
  | 9 => rfl
  | 10 => rfl
  | n + 11 => omega
theorem df_AL : ∀ j, j < 3 → defaultValue (tyJx4a65c j) = vp_V [.int (nI 0), .null, .int (nI 0)] j := by
  intro j hj
  match j with
  | 0 => rfl
  | 1 => rfl
  | 2 => rfl
  | n + 3 => omega
set_option maxHeartbeats 4000000 in
set_option maxRecDepth 100000 in
theorem c_X3_init (l : Launch) (D : va_G) (g : Nat → ClassId) (ev : Nat × Nat × (Nat → Nat)) (h : Nat) (sz : Nat) : qNv l yX3_init (.code yX3_init cX3_init 1 none :: GW) ({ frames := 4, cells := 28, slots := 2164, locals := 130 } : Room) D g ev [.ref h] [(h, .inr (6, [.null, .null, .null, .null, .null]))] sz (fun (A : Nat → Nat → Nat) => A 0 0 = h) (fun (A : Nat → Nat → Nat) => wX g A (xInit ev.1)) 28 2164 := by
  refine qe_entry (cc := cX3_init) (nL := 1) (ret := none) rfl (by decide) (Nat.le_of_ble_eq_true rfl) (fun pp ee ss mm bb mt kc ls C hRt hLk hin hsz hW hE hl => ?_)
  have hl : lv_has ls 1 [(0, .ref h)] := hl
  refine lv_aload_n C.1 C.2.1 dX3_init_0 rfl (lv_at hl 0 rfl) ?_
  refine W.objInit C.1 C.2.1 C.2.2.2.1 (C.2.2.2.2 _ ml_X3_1) (C.2.2.2.2 _ im_objectInit) (C.2.2.2.2 _ cd_objectInit) rfl (by rw [C.2.2.1]; exact hl.1) rfl dX3_init_1 (Nat.le_of_ble_eq_true rfl) (Nat.le_of_ble_eq_true rfl) ?_
  refine W.eq (g2 := F0 mm 4 ls []) rfl ?_
  refine lv_aload_n C.1 C.2.1 dX3_init_4 rfl (lv_at hl 0 rfl) ?_
  refine q_new C hW (ci := 5) rfl gu_X2 tyX2_ok (C.2.2.2.2 _ cl_X3_7) (C.2.2.2.2 _ inst_X2) (C.2.2.2.2 _ ini_X2) [.null, .null, .null, .int (nI 0)] df_X2 (Nat.le_of_ble_eq_true rfl) (Nat.le_of_ble_eq_true rfl) dX3_init_5 (fun q_5 H hW => ?_)
  have hW := hW.perm (w' := [(q_5, .inr (5, [.null, .null, .null, .int (nI 0)]))] ++ [(h, .inr (6, [.null, .null, .null, .null, .null]))]) List.perm_append_comm
  refine lv_dup C.1 C.2.1 dX3_init_8 rfl ?_
  refine q_callIv (rest := [.ref q_5, .ref h]) C (c_X2_init l D g q_5 _) (gw_self cd_X2_init rfl) (C.2.2.2.2 _ ini_X2) (C.2.2.2.2 _ ml_X3_9) (C.2.2.2.2 _ im_X2_init) rfl rfl rfl rfl hd_X2_init ⟨(Nat.le_of_ble_eq_true rfl), (Nat.le_of_ble_eq_true rfl)⟩ hW (wr := [(h, .inr (6, [.null, .null, .null, .null, .null]))]) (List.Perm.refl _) (fun aL => ([(h, .inr (6, [.null, .null, .null, .null, .null]))] ++ (wL g q_5 aL lInit))) (fun aL => List.perm_append_comm) hl.1 rfl (Nat.le_of_ble_eq_true rfl) ⟨(Nat.le_of_ble_eq_true rfl), (Nat.le_of_ble_eq_true rfl)⟩ dX3_init_9 (fun aL H locs _ hW => ?_)
  refine q_putF C hW 0 rfl rfl 0 (by decide) gu_X3 tyX3_ok nmX3 (C.2.2.2.2 _ fl_X3_10) rfl rfl hin rfl rfl rfl (Nat.le_of_ble_eq_true rfl) ([(h, .inr (6, [.ref q_5, .null, .null, .null, .null]))] ++ (wL g q_5 aL lInit)) rfl dX3_init_12 (fun H locs hW => ?_)
  refine lv_aload_n C.1 C.2.1 dX3_init_15 rfl (lv_at hl 0 rfl) ?_
  refine q_new C hW (ci := 3) rfl gu_X0 tyX0_ok (C.2.2.2.2 _ cl_X3_16) (C.2.2.2.2 _ inst_X0) (C.2.2.2.2 _ ini_X0) [.null, .null, .null, .null, .null, .null, .null, .null, .null, .null, .int (nI 0)] df_X0 (Nat.le_of_ble_eq_true rfl) (Nat.le_of_ble_eq_true rfl) dX3_init_16 (fun q_16 H hW => ?_)
  have hW := hW.perm (w' := [(q_16, .inr (3, [.null, .null, .null, .null, .null, .null, .null, .null, .null, .null, .int (nI 0)]))] ++ ([(h, .inr (6, [.ref q_5, .null, .null, .null, .null]))] ++ (wL g q_5 aL lInit))) List.perm_append_comm
  refine lv_dup C.1 C.2.1 dX3_init_19 rfl ?_
  refine q_callIv (rest := [.ref q_16, .ref h]) C (c_X0_init l D g q_16 _) (gw_self cd_X0_init rfl) (C.2.2.2.2 _ ini_X0) (C.2.2.2.2 _ ml_X3_18) (C.2.2.2.2 _ im_X0_init) rfl rfl rfl rfl hd_X0_init ⟨(Nat.le_of_ble_eq_true rfl), (Nat.le_of_ble_eq_true rfl)⟩ hW (wr := ([(h, .inr (6, [.ref q_5, .null, .null, .null, .null]))] ++ (wL g q_5 aL lInit))) (List.Perm.refl _) (fun aC => ([(h, .inr (6, [.ref q_5, .null, .null, .null, .null]))] ++ ((wL g q_5 aL lInit) ++ (wC g q_16 aC pInit)))) (fun aC => by have h9 := List.perm_append_comm (l₁ := ([(h, .inr (6, [.ref q_5, .null, .null, .null, .null]))] ++ (wL g q_5 aL lInit))) (l₂ := wC g q_16 aC pInit); simp only [List.append_assoc] at h9; exact h9) hl.1 rfl (Nat.le_of_ble_eq_true rfl) ⟨(Nat.le_of_ble_eq_true rfl), (Nat.le_of_ble_eq_true rfl)⟩ dX3_init_20 (fun aC H locs _ hW => ?_)
  refine q_putF C hW 0 rfl rfl 1 (by decide) gu_X3 tyX3_ok nmX3 (C.2.2.2.2 _ fl_X3_19) rfl rfl hin rfl rfl rfl (Nat.le_of_ble_eq_true rfl) ([(h, .inr (6, [.ref q_5, .ref q_16, .null, .null, .null]))] ++ ((wL g q_5 aL lInit) ++ (wC g q_16 aC pInit))) rfl dX3_init_23 (fun H locs hW => ?_)
  refine lv_aload_n C.1 C.2.1 dX3_init_26 rfl (lv_at hl 0 rfl) ?_
  refine q_new C hW (ci := 3) rfl gu_X0 tyX0_ok (C.2.2.2.2 _ cl_X3_16) (C.2.2.2.2 _ inst_X0) (C.2.2.2.2 _ ini_X0) [.null, .null, .null, .null, .null, .null, .null, .null, .null, .null, .int (nI 0)] df_X0 (Nat.le_of_ble_eq_true rfl) (Nat.le_of_ble_eq_true rfl) dX3_init_27 (fun q_27 H hW => ?_)
  have hW := hW.perm (w' := [(q_27, .inr (3, [.null, .null, .null, .null, .null, .null, .null, .null, .null, .null, .int (nI 0)]))] ++ ([(h, .inr (6, [.ref q_5, .ref q_16, .null, .null, .null]))] ++ ((wL g q_5 aL lInit) ++ (wC g q_16 aC pInit)))) List.perm_append_comm
  refine lv_dup C.1 C.2.1 dX3_init_30 rfl ?_
  refine q_callIv (rest := [.ref q_27, .ref h]) C (c_X0_init l D g q_27 _) (gw_self cd_X0_init rfl) (C.2.2.2.2 _ ini_X0) (C.2.2.2.2 _ ml_X3_18) (C.2.2.2.2 _ im_X0_init) rfl rfl rfl rfl hd_X0_init ⟨(Nat.le_of_ble_eq_true rfl), (Nat.le_of_ble_eq_true rfl)⟩ hW (wr := ([(h, .inr (6, [.ref q_5, .ref q_16, .null, .null, .null]))] ++ ((wL g q_5 aL lInit) ++ (wC g q_16 aC pInit)))) (List.Perm.refl _) (fun aR => ([(h, .inr (6, [.ref q_5, .ref q_16, .null, .null, .null]))] ++ ((wL g q_5 aL lInit) ++ ((wC g q_16 aC pInit) ++ (wC g q_27 aR pInit))))) (fun aR => by have h9 := List.perm_append_comm (l₁ := ([(h, .inr (6, [.ref q_5, .ref q_16, .null, .null, .null]))] ++ ((wL g q_5 aL lInit) ++ (wC g q_16 aC pInit)))) (l₂ := wC g q_27 aR pInit); simp only [List.append_assoc] at h9; exact h9) hl.1 rfl (Nat.le_of_ble_eq_true rfl) ⟨(Nat.le_of_ble_eq_true rfl), (Nat.le_of_ble_eq_true rfl)⟩ dX3_init_31 (fun aR H locs _ hW => ?_)
  refine q_putF C hW 0 rfl rfl 2 (by decide) gu_X3 tyX3_ok nmX3 (C.2.2.2.2 _ fl_X3_23) rfl rfl hin rfl rfl rfl (Nat.le_of_ble_eq_true rfl) ([(h, .inr (6, [.ref q_5, .ref q_16, .ref q_27, .null, .null]))] ++ ((wL g q_5 aL lInit) ++ ((wC g q_16 aC pInit) ++ (wC g q_27 aR pInit)))) rfl dX3_init_34 (fun H locs hW => ?_)
  refine lv_aload_n C.1 C.2.1 dX3_init_37 rfl (lv_at hl 0 rfl) ?_
  refine q_new C hW (ci := 2) rfl gu_Jx4a65c tyJx4a65c_ok (C.2.2.2.2 _ cl_X3_26) (C.2.2.2.2 _ inst_Jx4a65c) (C.2.2.2.2 _ ini_Jx4a65c) [.int (nI 0), .null, .int (nI 0)] df_AL (Nat.le_of_ble_eq_true rfl) (Nat.le_of_ble_eq_true rfl) dX3_init_38 (fun q_38 H hW => ?_)
  have hW := hW.perm (w' := [(q_38, .inr (2, [.int (nI 0), .null, .int (nI 0)]))] ++ ([(h, .inr (6, [.ref q_5, .ref q_16, .ref q_27, .null, .null]))] ++ ((wL g q_5 aL lInit) ++ ((wC g q_16 aC pInit) ++ (wC g q_27 aR pInit))))) List.perm_append_comm
  refine lv_dup C.1 C.2.1 dX3_init_41 rfl ?_
  refine qe_callIv (rest := [.ref q_38, .ref h]) C hE (c_ALini l D g ev q_38 (nI 0) .null _) (gw_self cd_Jx4a65c_init_da8c8 rfl) (C.2.2.2.2 _ ini_Jx4a65c) (C.2.2.2.2 _ ml_X3_28) (C.2.2.2.2 _ im_Jx4a65c_init_da8c8) rfl rfl rfl rfl hd_ALini ⟨(Nat.le_of_ble_eq_true rfl), (Nat.le_of_ble_eq_true rfl)⟩ hW (wr := ([(h, .inr (6, [.ref q_5, .ref q_16, .ref q_27, .null, .null]))] ++ ((wL g q_5 aL lInit) ++ ((wC g q_16 aC pInit) ++ (wC g q_27 aR pInit))))) (List.Perm.refl _) (fun _ => ([(h, .inr (6, [.ref q_5, .ref q_16, .ref q_27, .null, .null]))] ++ ((wL g q_5 aL lInit) ++ ((wC g q_16 aC pInit) ++ ((wC g q_27 aR pInit) ++ (wAL g q_38 (ev.1, 0, fun _ => none, nI 0, 0))))))) (fun _ => by have h9 := List.perm_append_comm (l₁ := ([(h, .inr (6, [.ref q_5, .ref q_16, .ref q_27, .null, .null]))] ++ ((wL g q_5 aL lInit) ++ ((wC g q_16 aC pInit) ++ (wC g q_27 aR pInit))))) (l₂ := wAL g q_38 (ev.1, 0, fun _ => none, nI 0, 0)); simp only [List.append_assoc] at h9; exact h9) hl.1 rfl (Nat.le_of_ble_eq_true rfl) ⟨(Nat.le_of_ble_eq_true rfl), (Nat.le_of_ble_eq_true rfl)⟩ dX3_init_42 (fun _ H locs _ hW => ?_)
  refine q_putF C hW 0 rfl rfl 3 (by decide) gu_X3 tyX3_ok nmX3 (C.2.2.2.2 _ fl_X3_29) rfl rfl hin rfl rfl rfl (Nat.le_of_ble_eq_true rfl) ([(h, .inr (6, [.ref q_5, .ref q_16, .ref q_27, .ref q_38, .null]))] ++ ((wL g q_5 aL lInit) ++ ((wC g q_16 aC pInit) ++ ((wC g q_27 aR pInit) ++ (wAL g q_38 (ev.1, 0, fun _ => none, nI 0, 0)))))) rfl dX3_init_45 (fun H locs hW => ?_)
  refine lv_aload_n C.1 C.2.1 dX3_init_48 rfl (lv_at hl 0 rfl) ?_
  refine q_new C hW (ci := 2) rfl gu_Jx4a65c tyJx4a65c_ok (C.2.2.2.2 _ cl_X3_26) (C.2.2.2.2 _ inst_Jx4a65c) (C.2.2.2.2 _ ini_Jx4a65c) [.int (nI 0), .null, .int (nI 0)] df_AL (Nat.le_of_ble_eq_true rfl) (Nat.le_of_ble_eq_true rfl) dX3_init_49 (fun q_49 H hW => ?_)
  have hW := hW.perm (w' := [(q_49, .inr (2, [.int (nI 0), .null, .int (nI 0)]))] ++ ([(h, .inr (6, [.ref q_5, .ref q_16, .ref q_27, .ref q_38, .null]))] ++ ((wL g q_5 aL lInit) ++ ((wC g q_16 aC pInit) ++ ((wC g q_27 aR pInit) ++ (wAL g q_38 (ev.1, 0, fun _ => none, nI 0, 0))))))) List.perm_append_comm
  refine lv_dup C.1 C.2.1 dX3_init_52 rfl ?_
  refine qe_callIv (rest := [.ref q_49, .ref h]) C hE (c_ALini l D g ev q_49 (nI 0) .null _) (gw_self cd_Jx4a65c_init_da8c8 rfl) (C.2.2.2.2 _ ini_Jx4a65c) (C.2.2.2.2 _ ml_X3_28) (C.2.2.2.2 _ im_Jx4a65c_init_da8c8) rfl rfl rfl rfl hd_ALini ⟨(Nat.le_of_ble_eq_true rfl), (Nat.le_of_ble_eq_true rfl)⟩ hW (wr := ([(h, .inr (6, [.ref q_5, .ref q_16, .ref q_27, .ref q_38, .null]))] ++ ((wL g q_5 aL lInit) ++ ((wC g q_16 aC pInit) ++ ((wC g q_27 aR pInit) ++ (wAL g q_38 (ev.1, 0, fun _ => none, nI 0, 0))))))) (List.Perm.refl _) (fun _ => ([(h, .inr (6, [.ref q_5, .ref q_16, .ref q_27, .ref q_38, .null]))] ++ ((wL g q_5 aL lInit) ++ ((wC g q_16 aC pInit) ++ ((wC g q_27 aR pInit) ++ ((wAL g q_38 (ev.1, 0, fun _ => none, nI 0, 0)) ++ (wAL g q_49 (ev.1, 0, fun _ => none, nI 0, 0)))))))) (fun _ => by have h9 := List.perm_append_comm (l₁ := ([(h, .inr (6, [.ref q_5, .ref q_16, .ref q_27, .ref q_38, .null]))] ++ ((wL g q_5 aL lInit) ++ ((wC g q_16 aC pInit) ++ ((wC g q_27 aR pInit) ++ (wAL g q_38 (ev.1, 0, fun _ => none, nI 0, 0))))))) (l₂ := wAL g q_49 (ev.1, 0, fun _ => none, nI 0, 0)); simp only [List.append_assoc] at h9; exact h9) hl.1 rfl (Nat.le_of_ble_eq_true rfl) ⟨(Nat.le_of_ble_eq_true rfl), (Nat.le_of_ble_eq_true rfl)⟩ dX3_init_53 (fun _ H locs _ hW => ?_)
  refine q_putF C hW 0 rfl rfl 4 (by decide) gu_X3 tyX3_ok nmX3 (C.2.2.2.2 _ fl_X3_33) rfl rfl hin rfl rfl rfl (Nat.le_of_ble_eq_true rfl) ([(h, .inr (6, [.ref q_5, .ref q_16, .ref q_27, .ref q_38, .ref q_49]))] ++ ((wL g q_5 aL lInit) ++ ((wC g q_16 aC pInit) ++ ((wC g q_27 aR pInit) ++ ((wAL g q_38 (ev.1, 0, fun _ => none, nI 0, 0)) ++ (wAL g q_49 (ev.1, 0, fun _ => none, nI 0, 0))))))) rfl dX3_init_56 (fun H locs hW => ?_)
  exact q_vret C hRt hLk (by have h9 := hW; rw [← List.append_nil (wAL g q_49 _)] at h9; exact h9) (fun i j => match i with | 0 => [h, q_5, q_16, q_27, q_38, q_49].getD j 0 | 1 => aL j | 2 => aC j | _ => aR j) rfl rfl (Nat.le_of_ble_eq_true rfl) (Nat.le_of_ble_eq_true rfl) dX3_init_59