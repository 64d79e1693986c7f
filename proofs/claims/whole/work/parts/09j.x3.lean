/-! The class: replays. -/
theorem wF_mem {b0 b1 b2 b3 b4 b5 : va_W} {E : List (Nat × Ev)} {p : Nat × Ev} (h : p ∈ E) : ((p.1, evC p.2) : Nat × va_E) ∈ b0 ++ (b1 ++ (b2 ++ (b3 ++ (b4 ++ (b5 ++ wP E))))) := List.mem_append_right _ (List.mem_append_right _ (List.mem_append_right _ (List.mem_append_right _ (List.mem_append_right _ (List.mem_append_right _ (wP_mem h))))))
theorem hd_X3_replay : yX3_replay.cls = RX3 ∧ yX3_replay.cls ≠ "java/lang/invoke/MethodHandle" ∧ yX3_replay.cls ≠ "java/lang/invoke/VarHandle" ∧ (parseMethodDescriptor yX3_replay.desc).map (fun d => d.parameters.length) = some 1 := by decide +kernel
set_option maxHeartbeats 4000000 in
set_option maxRecDepth 100000 in
theorem c_X3_replay (l : Launch) (hst : l.stackTraces = false) (D : va_G) (g : Nat → ClassId) (ev : Nat × Nat × (Nat → Nat)) (A : Nat → Nat → Nat) (X : XS) (hX : XOK ev.1 X) (p : Nat × Ev) (hp : p ∈ xE X) (sz : Nat) : qNi l yX3_replay (.code yX3_replay cX3_replay 2 (some .int) :: GW) ({ frames := 4, cells := 0, slots := 0, locals := 101 } : Room) D g ev [.ref (A 0 0), .ref p.1] (wX g A X) sz (fun (r : Int32) (u : XS) => nI (rep1 (xR X) p.2).1 = r ∧ xSetR X (rep1 (xR X) p.2).2 = u) (fun (u : XS) => wX g A u) 0 0 := by
  refine qe_entry (cc := cX3_replay) (nL := 2) (ret := (some .int)) rfl (by decide) (Nat.le_of_ble_eq_true rfl) (fun pp ee ss mm bb mt kc ls C hRt hLk hin hsz hW hE hl => ?_)
  have hl : lv_has ls 2 [(0, .ref (A 0 0)), (1, .ref p.1)] := hl
  have hW : qW D g (va_A (wX g A X) sz) ss.heap ss ([((A 0 0), .inr (6, [.ref (A 0 1), .ref (A 0 2), .ref (A 0 3), .ref (A 0 4), .ref (A 0 5)]))] ++ ((wL g (A 0 1) (A 1) (xL X)) ++ ((wC g (A 0 2) (A 2) (xC X)) ++ ((wC g (A 0 3) (A 3) (xR X)) ++ ((wAL g (A 0 4) (xl X)) ++ ((wAL g (A 0 5) (xa X)) ++ (wP  (xE X)))))))) ss.heap [] := hW
  have hN := hX.1.1
  have hN9 : lNm (sL (pX X)) ≤ 12 := hN
  have hev := hX.eo hp
  have hk5 := hev.1
  refine lv_aload_n C.1 C.2.1 dX3_replay_0 rfl (lv_at hl 1 rfl) ?_
  obtain ⟨wr_1, hp_1⟩ := hW.out (wX_mem hp)
  refine q_callVi (rest := []) C (c_X1_isAccess l D g p.1 p.2 ((hX.eo hp).1) _) (gw_V ml_X3_274 im_X1_isAccess se_X1_X1_isAccess ini_X1 cd_X1_isAccess rfl) rfl rfl rfl hd_X1_isAccess ⟨(Nat.le_of_ble_eq_true rfl), (Nat.le_of_ble_eq_true rfl)⟩ hW hp_1 (fun u => wE1 p.1 u ++ wr_1) (fun _ => List.Perm.refl _) rfl rfl hl.1 rfl (Nat.le_of_ble_eq_true rfl) ⟨(Nat.le_of_ble_eq_true rfl), (Nat.le_of_ble_eq_true rfl)⟩ dX3_replay_1 (fun r_1 u_1 H locs e_1 hW => ?_)
  obtain ⟨rfl, rfl⟩ := e_1
  have hW := hW.perm hp_1
  refine q_bt (b := isA p.2) (tgt := 31) C dX3_replay_4 (by decide) (fun c_4 => ?_) (fun c_4 => ?_)
  · refine lv_aload_n C.1 C.2.1 dX3_replay_31 rfl (lv_at hl 1 rfl) ?_
    refine q_getM (v := .int (nI (eKd p.2))) C hW (wX_mem hp) rfl 0 (by decide) gu_X1 (C.2.2.2.2 _ fl_X3_287) rfl rfl dX3_replay_32 ?_
    refine lv_iconst (v := nI 2) C.1 C.2.1 dX3_replay_35 (by decide) ?_
    refine q_ne (tgt := 54) C (by omega) (by omega) dX3_replay_36 (by decide) (fun c_36 => ?_) (fun c_36 => ?_)
    · refine lv_aload_n C.1 C.2.1 dX3_replay_54 rfl (lv_at hl 0 rfl) ?_
      refine q_get (v := .ref (A 0 3)) C hW 0 rfl rfl 2 (by decide) gu_X3 (C.2.2.2.2 _ fl_X3_23) rfl rfl dX3_replay_55 ?_
      refine lv_aload_n C.1 C.2.1 dX3_replay_58 rfl (lv_at hl 1 rfl) ?_
      refine q_getM (v := .int (nI (eCo p.2))) C hW (wX_mem hp) rfl 1 (by decide) gu_X1 (C.2.2.2.2 _ fl_X3_207) rfl rfl dX3_replay_59 ?_
      refine lv_aload_n C.1 C.2.1 dX3_replay_62 rfl (lv_at hl 1 rfl) ?_
      refine q_getM (v := .int (nI (eKd p.2))) C hW (wX_mem hp) rfl 0 (by decide) gu_X1 (C.2.2.2.2 _ fl_X3_287) rfl rfl dX3_replay_63 ?_
      refine lv_iconst (v := nI 3) C.1 C.2.1 dX3_replay_66 (by decide) ?_
      refine q_ne (tgt := 74) C (by omega) (by omega) dX3_replay_67 (by decide) (fun c_67 => ?_) (fun c_67 => ?_)
      · refine lv_iconst (v := nI 0) C.1 C.2.1 dX3_replay_74 (by decide) ?_
        refine q_callVv (rest := []) C (c_X0_tellAhead l D g (A 0 3) (A 3) (xR X) (eCo p.2) false hev.2.1 _) (gw_V ml_X3_137 im_X0_tellAhead se_X0_X0_tellAhead ini_X0 cd_X0_tellAhead rfl) rfl rfl rfl hd_X0_tellAhead ⟨Nat.le_of_ble_eq_true rfl, Nat.le_of_ble_eq_true rfl⟩ hW pm_3 (fun u_2 => ([((A 0 0), .inr (6, [.ref (A 0 1), .ref (A 0 2), .ref (A 0 3), .ref (A 0 4), .ref (A 0 5)]))] ++ ((wL g (A 0 1) (A 1) (xL X)) ++ ((wC g (A 0 2) (A 2) (xC X)) ++ ((wC g (A 0 3) (A 3) u_2) ++ ((wAL g (A 0 4) (xl X)) ++ ((wAL g (A 0 5) (xa X)) ++ (wP  (xE X))))))))) (fun _ => pm_3) rfl rfl hl.1 rfl (Nat.le_of_ble_eq_true rfl) ⟨Nat.le_of_ble_eq_true rfl, Nat.le_of_ble_eq_true rfl⟩ dX3_replay_75 (fun u_2 H locs e_2 hW => ?_)
        skip
        refine lv_iconst (v := nI 0) C.1 C.2.1 dX3_replay_78 (by decide) ?_
        exact q_iret C hRt hLk hW rfl ((xL X), (xC X), u_2, (xl X), (xa X), (xE X)) ⟨by rw [rep1_T c_4 c_36], by unfold xSetR; rw [rep1_T c_4 c_36, decide_eq_false c_67, e_2]⟩ rfl (Nat.le_of_ble_eq_true rfl) (Nat.le_of_ble_eq_true rfl) dX3_replay_79
      refine lv_iconst (v := nI 1) C.1 C.2.1 dX3_replay_70 (by decide) ?_
      refine lv_goto (tgt := 75) C.1 C.2.1 dX3_replay_71 (by decide) ?_
      refine q_callVv (rest := []) C (c_X0_tellAhead l D g (A 0 3) (A 3) (xR X) (eCo p.2) true hev.2.1 _) (gw_V ml_X3_137 im_X0_tellAhead se_X0_X0_tellAhead ini_X0 cd_X0_tellAhead rfl) rfl rfl rfl hd_X0_tellAhead ⟨Nat.le_of_ble_eq_true rfl, Nat.le_of_ble_eq_true rfl⟩ hW pm_3 (fun u_3 => ([((A 0 0), .inr (6, [.ref (A 0 1), .ref (A 0 2), .ref (A 0 3), .ref (A 0 4), .ref (A 0 5)]))] ++ ((wL g (A 0 1) (A 1) (xL X)) ++ ((wC g (A 0 2) (A 2) (xC X)) ++ ((wC g (A 0 3) (A 3) u_3) ++ ((wAL g (A 0 4) (xl X)) ++ ((wAL g (A 0 5) (xa X)) ++ (wP  (xE X))))))))) (fun _ => pm_3) rfl rfl hl.1 rfl (Nat.le_of_ble_eq_true rfl) ⟨Nat.le_of_ble_eq_true rfl, Nat.le_of_ble_eq_true rfl⟩ dX3_replay_75 (fun u_3 H locs e_3 hW => ?_)
      skip
      refine lv_iconst (v := nI 0) C.1 C.2.1 dX3_replay_78 (by decide) ?_
      exact q_iret C hRt hLk hW rfl ((xL X), (xC X), u_3, (xl X), (xa X), (xE X)) ⟨by rw [rep1_T c_4 c_36], by unfold xSetR; rw [rep1_T c_4 c_36, decide_eq_true c_67, e_3]⟩ rfl (Nat.le_of_ble_eq_true rfl) (Nat.le_of_ble_eq_true rfl) dX3_replay_79
    refine lv_aload_n C.1 C.2.1 dX3_replay_39 rfl (lv_at hl 0 rfl) ?_
    refine q_get (v := .ref (A 0 3)) C hW 0 rfl rfl 2 (by decide) gu_X3 (C.2.2.2.2 _ fl_X3_23) rfl rfl dX3_replay_40 ?_
    refine lv_aload_n C.1 C.2.1 dX3_replay_43 rfl (lv_at hl 1 rfl) ?_
    refine q_getM (v := .int (nI (eCo p.2))) C hW (wX_mem hp) rfl 1 (by decide) gu_X1 (C.2.2.2.2 _ fl_X3_207) rfl rfl dX3_replay_44 ?_
    refine q_callVi (rest := []) C (c_X0_dropAll l D g (A 0 3) (A 3) (xR X) (eCo p.2) hev.2.1 _) (gw_V ml_X3_131 im_X0_dropAll se_X0_X0_dropAll ini_X0 cd_X0_dropAll rfl) rfl rfl rfl hd_X0_dropAll ⟨Nat.le_of_ble_eq_true rfl, Nat.le_of_ble_eq_true rfl⟩ hW pm_3 (fun u_4 => ([((A 0 0), .inr (6, [.ref (A 0 1), .ref (A 0 2), .ref (A 0 3), .ref (A 0 4), .ref (A 0 5)]))] ++ ((wL g (A 0 1) (A 1) (xL X)) ++ ((wC g (A 0 2) (A 2) (xC X)) ++ ((wC g (A 0 3) (A 3) u_4) ++ ((wAL g (A 0 4) (xl X)) ++ ((wAL g (A 0 5) (xa X)) ++ (wP  (xE X))))))))) (fun _ => pm_3) rfl rfl hl.1 rfl (Nat.le_of_ble_eq_true rfl) ⟨Nat.le_of_ble_eq_true rfl, Nat.le_of_ble_eq_true rfl⟩ dX3_replay_47 (fun r_4 u_4 H locs e_4 hW => ?_)
    obtain ⟨rfl, e_4⟩ := e_4
    refine lv_pop C.1 C.2.1 dX3_replay_50 rfl ?_
    refine lv_goto (tgt := 78) C.1 C.2.1 dX3_replay_51 (by decide) ?_
    refine lv_iconst (v := nI 0) C.1 C.2.1 dX3_replay_78 (by decide) ?_
    exact q_iret C hRt hLk hW rfl ((xL X), (xC X), u_4, (xl X), (xa X), (xE X)) ⟨by rw [rep1_D c_4 c_36], by unfold xSetR; rw [rep1_D c_4 c_36, e_4]⟩ rfl (Nat.le_of_ble_eq_true rfl) (Nat.le_of_ble_eq_true rfl) dX3_replay_79
  refine lv_aload_n C.1 C.2.1 dX3_replay_7 rfl (lv_at hl 0 rfl) ?_
  refine q_get (v := .ref (A 0 3)) C hW 0 rfl rfl 2 (by decide) gu_X3 (C.2.2.2.2 _ fl_X3_23) rfl rfl dX3_replay_8 ?_
  refine lv_aload_n C.1 C.2.1 dX3_replay_11 rfl (lv_at hl 1 rfl) ?_
  refine q_getM (v := .int (nI (eCo p.2))) C hW (wX_mem hp) rfl 1 (by decide) gu_X1 (C.2.2.2.2 _ fl_X3_207) rfl rfl dX3_replay_12 ?_
  refine lv_aload_n C.1 C.2.1 dX3_replay_15 rfl (lv_at hl 1 rfl) ?_
  refine q_getM (v := .int (oI (eNa p.2))) C hW (wX_mem hp) rfl 2 (by decide) gu_X1 (C.2.2.2.2 _ fl_X3_195) rfl rfl dX3_replay_16 ?_
  refine lv_aload_n C.1 C.2.1 dX3_replay_19 rfl (lv_at hl 1 rfl) ?_
  refine q_getM (v := .int (oI (eLi p.2))) C hW (wX_mem hp) rfl 3 (by decide) gu_X1 (C.2.2.2.2 _ fl_X3_277) rfl rfl dX3_replay_20 ?_
  obtain ⟨n, k, hna, hli, hn12, hk⟩ := hev.2.2.1 (of_decide_eq_true c_4)
  refine q_to (y := nI k) (by rw [hli]; rfl) ?_
  refine lv_aload_n C.1 C.2.1 dX3_replay_23 rfl (lv_at hl 1 rfl) ?_
  obtain ⟨wr_24, hp_24⟩ := hW.out (wX_mem hp)
  refine q_callVi (rest := [.int (nI k), .int (oI (eNa p.2)), .int (nI (eCo p.2)), .ref (A 0 3)]) C (c_X1_isWrite l D g p.1 p.2 ((hX.eo hp).1) _) (gw_V ml_X3_280 im_X1_isWrite se_X1_X1_isWrite ini_X1 cd_X1_isWrite rfl) rfl rfl rfl hd_X1_isWrite ⟨(Nat.le_of_ble_eq_true rfl), (Nat.le_of_ble_eq_true rfl)⟩ hW hp_24 (fun u => wE1 p.1 u ++ wr_24) (fun _ => List.Perm.refl _) rfl rfl hl.1 rfl (Nat.le_of_ble_eq_true rfl) ⟨(Nat.le_of_ble_eq_true rfl), (Nat.le_of_ble_eq_true rfl)⟩ dX3_replay_24 (fun r_24 u_24 H locs e_5 hW => ?_)
  obtain ⟨rfl, rfl⟩ := e_5
  have hW := hW.perm hp_24
  refine q_callVi (rest := []) C (c_X0_makeAccess l D g (A 0 3) (A 3) (xR X) (eCo p.2) (oI (eNa p.2)) k (isW p.2) hev.2.1 hk _) (gw_V ml_X3_260 im_X0_makeAccess se_X0_X0_makeAccess ini_X0 cd_X0_makeAccess rfl) rfl rfl rfl hd_X0_makeAccess ⟨Nat.le_of_ble_eq_true rfl, Nat.le_of_ble_eq_true rfl⟩ hW pm_3 (fun u_6 => ([((A 0 0), .inr (6, [.ref (A 0 1), .ref (A 0 2), .ref (A 0 3), .ref (A 0 4), .ref (A 0 5)]))] ++ ((wL g (A 0 1) (A 1) (xL X)) ++ ((wC g (A 0 2) (A 2) (xC X)) ++ ((wC g (A 0 3) (A 3) u_6) ++ ((wAL g (A 0 4) (xl X)) ++ ((wAL g (A 0 5) (xa X)) ++ (wP  (xE X))))))))) (fun _ => pm_3) rfl rfl hl.1 rfl (Nat.le_of_ble_eq_true rfl) ⟨Nat.le_of_ble_eq_true rfl, Nat.le_of_ble_eq_true rfl⟩ dX3_replay_27 (fun r_6 u_6 H locs e_6 hW => ?_)
  obtain ⟨rfl, e_6⟩ := e_6
  exact q_iret C hRt hLk hW rfl ((xL X), (xC X), u_6, (xl X), (xa X), (xE X)) ⟨by rw [rep1_A c_4 hli], by unfold xSetR; rw [rep1_A c_4 hli, e_6]⟩ rfl (Nat.le_of_ble_eq_true rfl) (Nat.le_of_ble_eq_true rfl) dX3_replay_30

theorem hd_X3_replayUpTo : yX3_replayUpTo.cls = RX3 ∧ yX3_replayUpTo.cls ≠ "java/lang/invoke/MethodHandle" ∧ yX3_replayUpTo.cls ≠ "java/lang/invoke/VarHandle" ∧ (parseMethodDescriptor yX3_replayUpTo.desc).map (fun d => d.parameters.length) = some 1 := by decide +kernel
set_option maxHeartbeats 4000000 in
set_option maxRecDepth 100000 in
theorem c_X3_replayUpTo (l : Launch) (hst : l.stackTraces = false) (D : va_G) (g : Nat → ClassId) (ev : Nat × Nat × (Nat → Nat)) (A : Nat → Nat → Nat) (X : XS) (hX : XOK ev.1 X) (i9 : Nat) (hi9 : i9 < alC (xa X)) (sz : Nat) : qNi l yX3_replayUpTo (.code yX3_replayUpTo cX3_replayUpTo 7 (some .int) :: GW) ({ frames := 5, cells := 0, slots := 0, locals := 122 } : Room) D g ev [.ref (A 0 0), .int (nI i9)] (wX g A X) sz (fun (r : Int32) (u : XS) => ∃ (rr : Nat) (Rv : CS), xRep (pX X) i9 rr ∧ nI rr = r ∧ xSetR X Rv = u) (fun (u : XS) => wX g A u) 0 0 := by
  refine qe_entry (cc := cX3_replayUpTo) (nL := 7) (ret := (some .int)) rfl (by decide) (Nat.le_of_ble_eq_true rfl) (fun pp ee ss mm bb mt kc ls C hRt hLk hin hsz hW hE hl => ?_)
  have hl : lv_has ls 7 [(0, .ref (A 0 0)), (1, .int (nI i9))] := hl
  have hW : qW D g (va_A (wX g A X) sz) ss.heap ss ([((A 0 0), .inr (6, [.ref (A 0 1), .ref (A 0 2), .ref (A 0 3), .ref (A 0 4), .ref (A 0 5)]))] ++ ((wL g (A 0 1) (A 1) (xL X)) ++ ((wC g (A 0 2) (A 2) (xC X)) ++ ((wC g (A 0 3) (A 3) (xR X)) ++ ((wAL g (A 0 4) (xl X)) ++ ((wAL g (A 0 5) (xa X)) ++ (wP  (xE X)))))))) ss.heap [] := hW
  have hN := hX.1.1
  have hN9 : lNm (sL (pX X)) ≤ 12 := hN
  have hlen := hX.len
  refine lv_aload_n C.1 C.2.1 dX3_replayUpTo_0 rfl (lv_at hl 0 rfl) ?_
  refine q_get (v := .ref (A 0 3)) C hW 0 rfl rfl 2 (by decide) gu_X3 (C.2.2.2.2 _ fl_X3_23) rfl rfl dX3_replayUpTo_1 ?_
  refine q_callVv (rest := []) C (c_X0_clear l D g (A 0 3) (A 3) (xR X) _) (gw_V ml_X3_267 im_X0_clear se_X0_X0_clear ini_X0 cd_X0_clear rfl) rfl rfl rfl hd_X0_clear ⟨Nat.le_of_ble_eq_true rfl, Nat.le_of_ble_eq_true rfl⟩ hW pm_3 (fun u_1 => ([((A 0 0), .inr (6, [.ref (A 0 1), .ref (A 0 2), .ref (A 0 3), .ref (A 0 4), .ref (A 0 5)]))] ++ ((wL g (A 0 1) (A 1) (xL X)) ++ ((wC g (A 0 2) (A 2) (xC X)) ++ ((wC g (A 0 3) (A 3) u_1) ++ ((wAL g (A 0 4) (xl X)) ++ ((wAL g (A 0 5) (xa X)) ++ (wP  (xE X))))))))) (fun _ => pm_3) rfl rfl hl.1 rfl (Nat.le_of_ble_eq_true rfl) ⟨Nat.le_of_ble_eq_true rfl, Nat.le_of_ble_eq_true rfl⟩ dX3_replayUpTo_4 (fun u_1 H locs e_1 hW => ?_)
  skip
  subst e_1
  refine lv_iconst (v := nI 0) C.1 C.2.1 dX3_replayUpTo_7 (by decide) ?_
  refine lv_istore_n (lv' := [(2, .int (nI 0)), (0, .ref (A 0 0)), (1, .int (nI i9))]) C.1 C.2.1 dX3_replayUpTo_8 rfl hl (by decide) rfl (fun ls hl => ?_)
  refine lv_iconst (v := nI 0) C.1 C.2.1 dX3_replayUpTo_9 (by decide) ?_
  refine lv_istore_n (lv' := [(3, .int (nI 0)), (2, .int (nI 0)), (0, .ref (A 0 0)), (1, .int (nI i9))]) C.1 C.2.1 dX3_replayUpTo_10 rfl hl (by decide) rfl (fun ls hl => ?_)
  refine lv_iconst (v := nI 0) C.1 C.2.1 dX3_replayUpTo_11 (by decide) ?_
  refine lv_istore (lv' := [(4, .int (nI 0)), (3, .int (nI 0)), (2, .int (nI 0)), (0, .ref (A 0 0)), (1, .int (nI i9))]) C.1 C.2.1 dX3_replayUpTo_12 hl (by decide) rfl (fun ls hl => ?_)
  have L_14 : ∀ (nf : Nat) (i : Nat) (cs : Nat) (hi : i ≤ alC (xl X)) (hs : cntA (evs X) i ≤ i9 + 1) (hq : cntA (evs X) i = i9 + 1 → xRep (pX X) i9 cs) (x2 : Int32) (e2 : x2 = nI cs) (x3 : Int32) (e3 : x3 = nI (cntA (evs X) i)) (x4 : Int32) (e4 : x4 = nI i) (hmu : alC (xl X) - i < nf) (ls : Array Slot) (H : Heap) (locs : List Loc), lv_has ls 7 [(0, .ref (A 0 0)), (1, .int (nI i9)), (2, .int x2), (3, .int x3), (4, .int x4)] → qW D g (va_A (wX g A X) sz) ss.heap ss ([((A 0 0), .inr (6, [.ref (A 0 1), .ref (A 0 2), .ref (A 0 3), .ref (A 0 4), .ref (A 0 5)]))] ++ ((wL g (A 0 1) (A 1) (xL X)) ++ ((wC g (A 0 2) (A 2) (xC X)) ++ ((wC g (A 0 3) (A 3) (repN (evs X) i)) ++ ((wAL g (A 0 4) (xl X)) ++ ((wAL g (A 0 5) (xa X)) ++ (wP  (xE X)))))))) H locs → W pp l ee ({ frames := 5, cells := 0, slots := 0, locals := 122 } : Room) ss mm [.ref (A 0 0), .int (nI i9)].toArray bb mt kc H locs 0 0 (MQ bb (va_Qi (fun (r : Int32) (u : XS) => ∃ (rr : Nat) (Rv : CS), xRep (pX X) i9 rr ∧ nI rr = r ∧ xSetR X Rv = u) (qB D g (wX g A X) sz (fun (u : XS) => wX g A u)) (va_A (wX g A X) sz)) [.ref (A 0 0), .int (nI i9)].toArray ss 0 0 (va_A (wX g A X) sz)) (F0 mm 14 ls []) := by
    intro nf
    induction nf with
    | zero =>
      intro i cs hi hs hq x2 e2 x3 e3 x4 e4 hmu ls H locs hl hW
      exact absurd hmu (by omega)
    | succ nf ih =>
      intro i cs hi hs hq x2 e2 x3 e3 x4 e4 hmu ls H locs hl hW
      subst e2
      subst e3
      subst e4
      refine lv_iload C.1 C.2.1 dX3_replayUpTo_14 (lv_at hl 4 rfl) ?_
      refine lv_aload_n C.1 C.2.1 dX3_replayUpTo_16 rfl (lv_at hl 0 rfl) ?_
      refine q_get (v := .ref (A 0 4)) C hW 0 rfl rfl 3 (by decide) gu_X3 (C.2.2.2.2 _ fl_X3_29) rfl rfl dX3_replayUpTo_17 ?_
      refine q_callFi (rest := [.int (nI i)]) C hE.2.2.2.2.2.2.2.1.1 (c_AL_size l D g (A 0 4) (xl X) _) (gw_F ml_X3_141 se_Jx4a65c_Jxbd725_size_0699_Jx4a65c_size_8abf5 im_Jx4a65c_size_8abf5 ini_Jx4a65c cd_Jx4a65c_size_8abf5 rfl) rfl rfl rfl hd_xLsize ⟨(Nat.le_of_ble_eq_true rfl), (Nat.le_of_ble_eq_true rfl)⟩ hW pm_4 (fun _ => ([((A 0 0), .inr (6, [.ref (A 0 1), .ref (A 0 2), .ref (A 0 3), .ref (A 0 4), .ref (A 0 5)]))] ++ ((wL g (A 0 1) (A 1) (xL X)) ++ ((wC g (A 0 2) (A 2) (xC X)) ++ ((wC g (A 0 3) (A 3) (repN (evs X) i)) ++ ((wAL g (A 0 4) (xl X)) ++ ((wAL g (A 0 5) (xa X)) ++ (wP  (xE X))))))))) (fun _ => pm_4) rfl rfl hl.1 rfl (Nat.le_of_ble_eq_true rfl) ⟨(Nat.le_of_ble_eq_true rfl), (Nat.le_of_ble_eq_true rfl)⟩ dX3_replayUpTo_20 (fun r_2 _ H locs e_2 hW => ?_)
      subst e_2
      refine q_ge (tgt := 77) C (by omega) (by omega) dX3_replayUpTo_25 (by decide) (fun c_25 => ?_) (fun c_25 => ?_)
      · refine lv_iload_n C.1 C.2.1 dX3_replayUpTo_77 rfl (lv_at hl 2 rfl) ?_
        exact q_iret C hRt hLk hW rfl ((xL X), (xC X), (repN (evs X) i), (xl X), (xa X), (xE X)) ⟨_, _, hq (by have h8 : cntA (sE (pX X)) i = (sA (pX X)).length := cntA_all (by rw [← hX.elen]; omega); have h7 : cntA (evs X) i = cntA (sE (pX X)) i := rfl; have h6 := hX.alen; omega), rfl, rfl⟩ rfl (Nat.le_of_ble_eq_true rfl) (Nat.le_of_ble_eq_true rfl) dX3_replayUpTo_78
      have hc9 := cntA_le (evs X) i
      refine lv_iload_n C.1 C.2.1 dX3_replayUpTo_28 rfl (lv_at hl 3 rfl) ?_
      refine lv_iload_n C.1 C.2.1 dX3_replayUpTo_29 rfl (lv_at hl 1 rfl) ?_
      refine q_gt (tgt := 77) C (by omega) (by omega) dX3_replayUpTo_30 (by decide) (fun c_30 => ?_) (fun c_30 => ?_)
      · refine lv_iload_n C.1 C.2.1 dX3_replayUpTo_77 rfl (lv_at hl 2 rfl) ?_
        exact q_iret C hRt hLk hW rfl ((xL X), (xC X), (repN (evs X) i), (xl X), (xa X), (xE X)) ⟨_, _, hq (by omega), rfl, rfl⟩ rfl (Nat.le_of_ble_eq_true rfl) (Nat.le_of_ble_eq_true rfl) dX3_replayUpTo_78
      refine lv_aload_n C.1 C.2.1 dX3_replayUpTo_33 rfl (lv_at hl 0 rfl) ?_
      refine q_get (v := .ref (A 0 4)) C hW 0 rfl rfl 3 (by decide) gu_X3 (C.2.2.2.2 _ fl_X3_29) rfl rfl dX3_replayUpTo_34 ?_
      refine lv_iload C.1 C.2.1 dX3_replayUpTo_37 (lv_at hl 4 rfl) ?_
      obtain ⟨p_39, p_39_1, p_39_2, p_39_3, p_39_4⟩ := hX.evt (i := i) (by omega)
      refine q_callFq (rest := []) C hE.2.2.2.2.2.2.2.1.2.1 (c_AL_get l D g (A 0 4) (xl X) i (by omega) hX.2.1.2.1 (by have := hX.2.1.2.2.2; omega) _) (gw_F ml_X3_148 se_Jx4a65c_Jxbd725_get_3715_Jx4a65c_get_915e3 im_Jx4a65c_get_915e3 ini_Jx4a65c cd_Jx4a65c_get_915e3 rfl) rfl rfl rfl hd_xLget ⟨(Nat.le_of_ble_eq_true rfl), (Nat.le_of_ble_eq_true rfl)⟩ hW pm_4 (fun _ => ([((A 0 0), .inr (6, [.ref (A 0 1), .ref (A 0 2), .ref (A 0 3), .ref (A 0 4), .ref (A 0 5)]))] ++ ((wL g (A 0 1) (A 1) (xL X)) ++ ((wC g (A 0 2) (A 2) (xC X)) ++ ((wC g (A 0 3) (A 3) (repN (evs X) i)) ++ ((wAL g (A 0 4) (xl X)) ++ ((wAL g (A 0 5) (xa X)) ++ (wP  (xE X))))))))) (fun _ => pm_4) rfl rfl hl.1 rfl (Nat.le_of_ble_eq_true rfl) ⟨(Nat.le_of_ble_eq_true rfl), (Nat.le_of_ble_eq_true rfl)⟩ dX3_replayUpTo_39 (fun r_3 _ H locs e_3 hW => ?_)
      rw [p_39_1] at e_3
      subst e_3
      refine q_castM C hW (C.2.2.2.2 _ cl_X3_113) (z := p_39.2) (wF_mem p_39_3) dX3_replayUpTo_44 ?_
      refine lv_astore (lv' := [(5, .ref p_39.1), (0, .ref (A 0 0)), (1, .int (nI i9)), (2, .int (nI cs)), (3, .int (nI (cntA (evs X) i))), (4, .int (nI i))]) C.1 C.2.1 dX3_replayUpTo_47 hl (by decide) rfl (fun ls hl => ?_)
      refine lv_aload_n C.1 C.2.1 dX3_replayUpTo_49 rfl (lv_at hl 1 rfl) ?_
      refine lv_aload C.1 C.2.1 dX3_replayUpTo_50 (lv_at hl 0 rfl) ?_
      refine qe_callVi (rest := []) C hE (c_X3_replay l hst D g ev A (xSetR X (repN (evs X) i)) (hX.setR (repN (evs X) i)) p_39 p_39_3 _) (gw_V ml_X3_270 im_X3_replay se_X3_X3_replay ini_X3 cd_X3_replay rfl) rfl rfl rfl hd_X3_replay ⟨(Nat.le_of_ble_eq_true rfl), (Nat.le_of_ble_eq_true rfl)⟩ hW pm_all (fun u => wX g A u) (fun _ => pm_all) rfl rfl hl.1 rfl (Nat.le_of_ble_eq_true rfl) ⟨(Nat.le_of_ble_eq_true rfl), (Nat.le_of_ble_eq_true rfl)⟩ dX3_replayUpTo_52 (fun r_4 u_4 H locs e_4 hW => ?_)
      obtain ⟨rfl, rfl⟩ := e_4
      have hR9 : (rep1 (repN (evs X) i) p_39.2).2 = repN (evs X) (i + 1) := (repN_s p_39_2).symm
      have hW : qW D g (va_A (wX g A X) sz) ss.heap ss ([((A 0 0), .inr (6, [.ref (A 0 1), .ref (A 0 2), .ref (A 0 3), .ref (A 0 4), .ref (A 0 5)]))] ++ ((wL g (A 0 1) (A 1) (xL X)) ++ ((wC g (A 0 2) (A 2) (xC X)) ++ ((wC g (A 0 3) (A 3) (repN (evs X) (i + 1))) ++ ((wAL g (A 0 4) (xl X)) ++ ((wAL g (A 0 5) (xa X)) ++ (wP  (xE X)))))))) H locs := by rw [← hR9]; exact hW
      refine lv_istore (lv' := [(6, .int (nI ((rep1 (repN (evs X) i) p_39.2).1))), (5, .ref p_39.1), (0, .ref (A 0 0)), (1, .int (nI i9)), (2, .int (nI cs)), (3, .int (nI (cntA (evs X) i))), (4, .int (nI i))]) C.1 C.2.1 dX3_replayUpTo_55 hl (by decide) rfl (fun ls hl => ?_)
      refine lv_aload C.1 C.2.1 dX3_replayUpTo_57 (lv_at hl 1 rfl) ?_
      obtain ⟨wr_59, hp_59⟩ := hW.out (wF_mem p_39_3)
      refine q_callVi (rest := []) C (c_X1_isAccess l D g p_39.1 p_39.2 ((hX.eo p_39_3).1) _) (gw_V ml_X3_274 im_X1_isAccess se_X1_X1_isAccess ini_X1 cd_X1_isAccess rfl) rfl rfl rfl hd_X1_isAccess ⟨(Nat.le_of_ble_eq_true rfl), (Nat.le_of_ble_eq_true rfl)⟩ hW hp_59 (fun u => wE1 p_39.1 u ++ wr_59) (fun _ => List.Perm.refl _) rfl rfl hl.1 rfl (Nat.le_of_ble_eq_true rfl) ⟨(Nat.le_of_ble_eq_true rfl), (Nat.le_of_ble_eq_true rfl)⟩ dX3_replayUpTo_59 (fun r_59 u_59 H locs e_5 hW => ?_)
      obtain ⟨rfl, rfl⟩ := e_5
      have hW := hW.perm hp_59
      refine q_bt (b := isA p_39.2) (tgt := 71) C dX3_replayUpTo_62 (by decide) (fun c_62 => ?_) (fun c_62 => ?_)
      · refine q_iinc (d := 1) (lv' := [(4, .int (nI (i + 1))), (6, .int (nI ((rep1 (repN (evs X) i) p_39.2).1))), (5, .ref p_39.1), (0, .ref (A 0 0)), (1, .int (nI i9)), (2, .int (nI cs)), (3, .int (nI (cntA (evs X) i)))]) C dX3_replayUpTo_71 (by decide) hl (k := 6) rfl (by decide) rfl (fun ls hl => ?_)
        refine lv_goto (tgt := 14) C.1 C.2.1 dX3_replayUpTo_74 (by decide) ?_
        exact ih (i + 1) cs (by omega) (by rw [cntA_f p_39_2 c_62]; omega) (fun h9 => hq (by rw [cntA_f p_39_2 c_62] at h9; exact h9)) _ rfl _ (by rw [cntA_f p_39_2 c_62]) _ rfl (by omega) ls _ _ (lv_sub hl [3, 4, 5, 6, 0] rfl) hW
      refine lv_iload C.1 C.2.1 dX3_replayUpTo_65 (lv_at hl 0 rfl) ?_
      refine lv_istore_n (lv' := [(2, .int (nI ((rep1 (repN (evs X) i) p_39.2).1))), (6, .int (nI ((rep1 (repN (evs X) i) p_39.2).1))), (5, .ref p_39.1), (0, .ref (A 0 0)), (1, .int (nI i9)), (3, .int (nI (cntA (evs X) i))), (4, .int (nI i))]) C.1 C.2.1 dX3_replayUpTo_67 rfl hl (by decide) rfl (fun ls hl => ?_)
      refine q_iinc (d := 1) (lv' := [(3, .int (nI (cntA (evs X) i + 1))), (2, .int (nI ((rep1 (repN (evs X) i) p_39.2).1))), (6, .int (nI ((rep1 (repN (evs X) i) p_39.2).1))), (5, .ref p_39.1), (0, .ref (A 0 0)), (1, .int (nI i9)), (4, .int (nI i))]) C dX3_replayUpTo_68 (by decide) hl (k := 5) rfl (by decide) rfl (fun ls hl => ?_)
      refine q_iinc (d := 1) (lv' := [(4, .int (nI (i + 1))), (3, .int (nI (cntA (evs X) i + 1))), (2, .int (nI ((rep1 (repN (evs X) i) p_39.2).1))), (6, .int (nI ((rep1 (repN (evs X) i) p_39.2).1))), (5, .ref p_39.1), (0, .ref (A 0 0)), (1, .int (nI i9))]) C dX3_replayUpTo_71 (by decide) hl (k := 6) rfl (by decide) rfl (fun ls hl => ?_)
      refine lv_goto (tgt := 14) C.1 C.2.1 dX3_replayUpTo_74 (by decide) ?_
      exact ih (i + 1) ((rep1 (repN (evs X) i) p_39.2).1) (by omega) (by rw [cntA_t p_39_2 c_62]; omega) (fun h9 => ⟨i, _, p_39_2, c_62, (show cntA (evs X) i = i9 by rw [cntA_t p_39_2 c_62] at h9; omega), rfl⟩) _ rfl _ (by rw [cntA_t p_39_2 c_62]) _ rfl (by omega) ls _ _ (lv_sub hl [5, 6, 2, 1, 0] rfl) hW
  exact L_14 (alC (xl X) - 0 + 1) 0 0 (by omega) (by rw [cntA_0]; omega) (fun h9 => absurd h9 (by rw [cntA_0]; omega)) _ rfl _ (by rw [cntA_0]) _ rfl (by omega) ls _ _ (lv_sub hl [3, 4, 2, 1, 0] rfl) hW

theorem hd_X3_costByReplay : yX3_costByReplay.cls = RX3 ∧ yX3_costByReplay.cls ≠ "java/lang/invoke/MethodHandle" ∧ yX3_costByReplay.cls ≠ "java/lang/invoke/VarHandle" ∧ (parseMethodDescriptor yX3_costByReplay.desc).map (fun d => d.parameters.length) = some 1 := by decide +kernel
set_option maxHeartbeats 4000000 in
set_option maxRecDepth 100000 in
theorem c_X3_costByReplay (l : Launch) (hst : l.stackTraces = false) (D : va_G) (g : Nat → ClassId) (ev : Nat × Nat × (Nat → Nat)) (A : Nat → Nat → Nat) (X : XS) (hX : XOK ev.1 X) (v : Int32) (sz : Nat) : qXi l yX3_costByReplay (.code yX3_costByReplay cX3_costByReplay 2 (some .int) :: GW) ({ frames := 7, cells := 1, slots := 6, locals := 148 } : Room) D g ev [.ref (A 0 0), .int v] (wX g A X) sz (fun (r : Int32) (u : XS) => ∃ (i rr : Nat) (Rv : CS), inR (sA (pX X)).length v = some i ∧ xRep (pX X) i rr ∧ nI rr = r ∧ xSetR X Rv = u) (fun E (u : XS) => E = nsN ∧ inR (sA (pX X)).length v = none ∧ X = u) (fun (u : XS) => wX g A u) 1 6 := by
  refine qx_entry (cc := cX3_costByReplay) (nL := 2) (ret := (some .int)) rfl (by decide) (Nat.le_of_ble_eq_true rfl) (fun pp ee ss mm bb mt kc ls C hRt hLk hin hsz hW hE hnt hl => ?_)
  have hl : lv_has ls 2 [(0, .ref (A 0 0)), (1, .int v)] := hl
  have hW : qW D g (va_A (wX g A X) sz) ss.heap ss ([((A 0 0), .inr (6, [.ref (A 0 1), .ref (A 0 2), .ref (A 0 3), .ref (A 0 4), .ref (A 0 5)]))] ++ ((wL g (A 0 1) (A 1) (xL X)) ++ ((wC g (A 0 2) (A 2) (xC X)) ++ ((wC g (A 0 3) (A 3) (xR X)) ++ ((wAL g (A 0 4) (xl X)) ++ ((wAL g (A 0 5) (xa X)) ++ (wP  (xE X)))))))) ss.heap [] := hW
  have hN := hX.1.1
  have hN9 : lNm (sL (pX X)) ≤ 12 := hN
  have hlen := hX.len
  refine lv_aload_n C.1 C.2.1 dX3_costByReplay_0 rfl (lv_at hl 0 rfl) ?_
  refine lv_iload_n C.1 C.2.1 dX3_costByReplay_1 rfl (lv_at hl 1 rfl) ?_
  refine qx_callVv (rest := []) C hE hLk hnt (c_X3_checkIndex l hst D g ev A X hX v _) (gw_V ml_X3_145 im_X3_checkIndex se_X3_X3_checkIndex ini_X3 cd_X3_checkIndex rfl) rfl rfl rfl hd_X3_checkIndex ⟨(Nat.le_of_ble_eq_true rfl), (Nat.le_of_ble_eq_true rfl)⟩ hW pm_all (fun _ => ([((A 0 0), .inr (6, [.ref (A 0 1), .ref (A 0 2), .ref (A 0 3), .ref (A 0 4), .ref (A 0 5)]))] ++ ((wL g (A 0 1) (A 1) (xL X)) ++ ((wC g (A 0 2) (A 2) (xC X)) ++ ((wC g (A 0 3) (A 3) (xR X)) ++ ((wAL g (A 0 4) (xl X)) ++ ((wAL g (A 0 5) (xa X)) ++ (wP  (xE X))))))))) (fun _ => pm_all) rfl rfl hl.1 rfl (Nat.le_of_ble_eq_true rfl) ⟨(Nat.le_of_ble_eq_true rfl), (Nat.le_of_ble_eq_true rfl)⟩ ⟨(Nat.le_of_ble_eq_true rfl), (Nat.le_of_ble_eq_true rfl)⟩ dX3_costByReplay_2 (fun E _ h => ⟨X, ⟨h.1, by rw [← hX.alen]; exact h.2, rfl⟩, rfl⟩) (fun u_1 H locs e_1 hW => ?_)
  obtain ⟨i, hi, rfl⟩ := e_1
  refine lv_aload_n C.1 C.2.1 dX3_costByReplay_5 rfl (lv_at hl 0 rfl) ?_
  refine lv_iload_n C.1 C.2.1 dX3_costByReplay_6 rfl (lv_at hl 1 rfl) ?_
  refine qe_callVi (rest := []) C hE (c_X3_replayUpTo l hst D g ev A X hX i hi _) (gw_V ml_X3_156 im_X3_replayUpTo se_X3_X3_replayUpTo ini_X3 cd_X3_replayUpTo rfl) rfl rfl rfl hd_X3_replayUpTo ⟨(Nat.le_of_ble_eq_true rfl), (Nat.le_of_ble_eq_true rfl)⟩ hW pm_all (fun u => wX g A u) (fun _ => pm_all) rfl rfl hl.1 rfl (Nat.le_of_ble_eq_true rfl) ⟨(Nat.le_of_ble_eq_true rfl), (Nat.le_of_ble_eq_true rfl)⟩ dX3_costByReplay_7 (fun r_2 u_2 H locs e_2 hW => ?_)
  obtain ⟨rr, Rv, hrr, rfl, rfl⟩ := e_2
  exact vx_ret (q_iret C hRt hLk hW rfl ((xL X), (xC X), Rv, (xl X), (xa X), (xE X)) ⟨i, rr, Rv, by rw [← hX.alen]; exact inR_nI hi (by omega), hrr, rfl, rfl⟩ rfl (Nat.le_of_ble_eq_true rfl) (Nat.le_of_ble_eq_true rfl) dX3_costByReplay_10)
