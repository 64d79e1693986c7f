/-! The class: accesses. -/
theorem hd_X3_access : yX3_access.cls = RX3 ∧ yX3_access.cls ≠ "java/lang/invoke/MethodHandle" ∧ yX3_access.cls ≠ "java/lang/invoke/VarHandle" ∧ (parseMethodDescriptor yX3_access.desc).map (fun d => d.parameters.length) = some 4 := by decide +kernel
set_option maxHeartbeats 4000000 in
set_option maxRecDepth 100000 in
theorem c_X3_access (l : Launch) (hst : l.stackTraces = false) (D : va_G) (g : Nat → ClassId) (ev : Nat × Nat × (Nat → Nat)) (A : Nat → Nat → Nat) (X : XS) (hX : XOK ev.1 X) (kd : Nat) (v1 : Int32) (v2 : Int32) (v3 : Int32) (hkd : kd ≤ 1) (hfull : (xE X).length < 512) (hL3 : LOK3 (xL X)) (sz : Nat) : qXi l yX3_access (.code yX3_access cX3_access 10 (some .int) :: GW) ({ frames := 9, cells := 7, slots := 2078, locals := 231 } : Room) D g ev [.ref (A 0 0), .int (nI kd), .int v1, .int v2, .int v3] (wX g A X) sz (fun (r : Int32) (u : XS) => XOK ev.1 u ∧ ∃ rr : Nat, nI rr = r ∧ xAcc (pX X) (decide (kd = 1)) v1 v2 v3 = (0, rr, pX u)) (fun E (u : XS) => XOK ev.1 u ∧ ∃ k, ([ioN, nsN, isN, iaN] : List String)[k]? = some E ∧ xAcc (pX X) (decide (kd = 1)) v1 v2 v3 = (k + 1, 0, pX u)) (fun (u : XS) => wX g A u) 7 2078 := by
  refine qx_entry (cc := cX3_access) (nL := 10) (ret := (some .int)) rfl (by decide) (Nat.le_of_ble_eq_true rfl) (fun pp ee ss mm bb mt kc ls C hRt hLk hin hsz hW hE hnt hl => ?_)
  have hl : lv_has ls 10 [(0, .ref (A 0 0)), (1, .int (nI kd)), (2, .int v1), (3, .int v2), (4, .int v3)] := hl
  have hW : qW D g (va_A (wX g A X) sz) ss.heap ss ([((A 0 0), .inr (6, [.ref (A 0 1), .ref (A 0 2), .ref (A 0 3), .ref (A 0 4), .ref (A 0 5)]))] ++ ((wL g (A 0 1) (A 1) (xL X)) ++ ((wC g (A 0 2) (A 2) (xC X)) ++ ((wC g (A 0 3) (A 3) (xR X)) ++ ((wAL g (A 0 4) (xl X)) ++ ((wAL g (A 0 5) (xa X)) ++ (wP  (xE X)))))))) ss.heap [] := hW
  have hN := hX.1.1
  have hN9 : lNm (sL (pX X)) ≤ 12 := hN
  refine lv_iload_n C.1 C.2.1 dX3_access_0 rfl (lv_at hl 2 rfl) ?_
  refine qx_callSv (rest := []) C hE hLk hnt (c_X3_checkCore l hst D g ev v1 _) (gw_S ml_X3_119 sm_X3_checkCore ini_X3 cd_X3_checkCore rfl) rfl rfl rfl hd_X3_checkCore ⟨(Nat.le_of_ble_eq_true rfl), (Nat.le_of_ble_eq_true rfl)⟩ hW (wc := []) (List.Perm.refl _) (fun _ => ([((A 0 0), .inr (6, [.ref (A 0 1), .ref (A 0 2), .ref (A 0 3), .ref (A 0 4), .ref (A 0 5)]))] ++ ((wL g (A 0 1) (A 1) (xL X)) ++ ((wC g (A 0 2) (A 2) (xC X)) ++ ((wC g (A 0 3) (A 3) (xR X)) ++ ((wAL g (A 0 4) (xl X)) ++ ((wAL g (A 0 5) (xa X)) ++ (wP  (xE X))))))))) (fun _ => List.Perm.refl _) hl.1 rfl (Nat.le_of_ble_eq_true rfl) ⟨(Nat.le_of_ble_eq_true rfl), (Nat.le_of_ble_eq_true rfl)⟩ ⟨(Nat.le_of_ble_eq_true rfl), (Nat.le_of_ble_eq_true rfl)⟩ dX3_access_1 (fun E _ h => ⟨X, ⟨hX, by obtain ⟨rfl, h0⟩ := h; exact ⟨0, rfl, by unfold xAcc; rw [h0]⟩⟩, rfl⟩) (fun u_1 H locs e_1 hW => ?_)
  obtain ⟨c, hc, rfl⟩ := e_1
  refine lv_aload_n C.1 C.2.1 dX3_access_4 rfl (lv_at hl 0 rfl) ?_
  refine lv_iload_n C.1 C.2.1 dX3_access_5 rfl (lv_at hl 3 rfl) ?_
  refine lv_iload C.1 C.2.1 dX3_access_6 (lv_at hl 4 rfl) ?_
  refine qx_callVv (rest := []) C hE hLk hnt (c_X3_checkWord l hst D g ev A X hX v2 v3 _) (gw_V ml_X3_97 im_X3_checkWord se_X3_X3_checkWord ini_X3 cd_X3_checkWord rfl) rfl rfl rfl hd_X3_checkWord ⟨(Nat.le_of_ble_eq_true rfl), (Nat.le_of_ble_eq_true rfl)⟩ hW pm_all (fun _ => ([((A 0 0), .inr (6, [.ref (A 0 1), .ref (A 0 2), .ref (A 0 3), .ref (A 0 4), .ref (A 0 5)]))] ++ ((wL g (A 0 1) (A 1) (xL X)) ++ ((wC g (A 0 2) (A 2) (xC X)) ++ ((wC g (A 0 3) (A 3) (xR X)) ++ ((wAL g (A 0 4) (xl X)) ++ ((wAL g (A 0 5) (xa X)) ++ (wP  (xE X))))))))) (fun _ => pm_all) rfl rfl hl.1 rfl (Nat.le_of_ble_eq_true rfl) ⟨(Nat.le_of_ble_eq_true rfl), (Nat.le_of_ble_eq_true rfl)⟩ ⟨(Nat.le_of_ble_eq_true rfl), (Nat.le_of_ble_eq_true rfl)⟩ dX3_access_8 (fun E _ h => ⟨X, ⟨hX, by rcases h with ⟨rfl, h0⟩ | ⟨rfl, n9, h0, h1⟩ | ⟨rfl, n9, s9, h0, h1, h2⟩; exact ⟨1, rfl, by unfold xAcc; rw [inR_nI hc (by decide)]; dsimp only; rw [show inR (lNm (sL (pX X))) v2 = none from h0]⟩; exact ⟨2, rfl, by unfold xAcc; rw [inR_nI hc (by decide)]; dsimp only; rw [show inR (lNm (sL (pX X))) v2 = some n9 from h0]; dsimp only; rw [show lSt (sL (pX X)) n9 = none from h1]⟩; exact ⟨3, rfl, by unfold xAcc; rw [inR_nI hc (by decide)]; dsimp only; rw [show inR (lNm (sL (pX X))) v2 = some n9 from h0]; dsimp only; rw [show lSt (sL (pX X)) n9 = some s9 from h1]; dsimp only; rw [show inR (lSz (sL (pX X)) n9) v3 = none from h2]⟩⟩, rfl⟩) (fun u_2 H locs e_2 hW => ?_)
  obtain ⟨n, s0, d, hn, rfl, hs0, hd, rfl⟩ := e_2
  refine lv_aload_n C.1 C.2.1 dX3_access_11 rfl (lv_at hl 0 rfl) ?_
  refine qe_callVi (rest := []) C hE (c_X3_isFull l hst D g ev A X hX  _) (gw_V ml_X3_122 im_X3_isFull se_X3_X3_isFull ini_X3 cd_X3_isFull rfl) rfl rfl rfl hd_X3_isFull ⟨(Nat.le_of_ble_eq_true rfl), (Nat.le_of_ble_eq_true rfl)⟩ hW pm_all (fun _ => ([((A 0 0), .inr (6, [.ref (A 0 1), .ref (A 0 2), .ref (A 0 3), .ref (A 0 4), .ref (A 0 5)]))] ++ ((wL g (A 0 1) (A 1) (xL X)) ++ ((wC g (A 0 2) (A 2) (xC X)) ++ ((wC g (A 0 3) (A 3) (xR X)) ++ ((wAL g (A 0 4) (xl X)) ++ ((wAL g (A 0 5) (xa X)) ++ (wP  (xE X))))))))) (fun _ => pm_all) rfl rfl hl.1 rfl (Nat.le_of_ble_eq_true rfl) ⟨(Nat.le_of_ble_eq_true rfl), (Nat.le_of_ble_eq_true rfl)⟩ dX3_access_12 (fun r_3 u_3 H locs e_3 hW => ?_)
  subst e_3
  refine q_bt (b := decide (512 ≤ alC (xl X))) (tgt := 28) C dX3_access_15 (by decide) (fun c_15 => ?_) (fun c_15 => absurd (of_decide_eq_true c_15) (by have h9 := hX.2.2.2.1.1; omega))
  refine lv_aload_n C.1 C.2.1 dX3_access_28 rfl (lv_at hl 0 rfl) ?_
  refine q_get (v := .ref (A 0 1)) C hW 0 rfl rfl 0 (by decide) gu_X3 (C.2.2.2.2 _ fl_X3_10) rfl rfl dX3_access_29 ?_
  refine lv_iload_n C.1 C.2.1 dX3_access_32 rfl (lv_at hl 3 rfl) ?_
  refine q_callVi (rest := []) C (c_X2_startOf l D g (A 0 1) (A 1) (xL X) n hX.1 (by omega) _) (gw_V ml_X3_94 im_X2_startOf se_X2_X2_startOf ini_X2 cd_X2_startOf rfl) rfl rfl rfl hd_X2_startOf ⟨Nat.le_of_ble_eq_true rfl, Nat.le_of_ble_eq_true rfl⟩ hW pm_1 (fun u_4 => ([((A 0 0), .inr (6, [.ref (A 0 1), .ref (A 0 2), .ref (A 0 3), .ref (A 0 4), .ref (A 0 5)]))] ++ ((wL g (A 0 1) (A 1) u_4) ++ ((wC g (A 0 2) (A 2) (xC X)) ++ ((wC g (A 0 3) (A 3) (xR X)) ++ ((wAL g (A 0 4) (xl X)) ++ ((wAL g (A 0 5) (xa X)) ++ (wP  (xE X))))))))) (fun _ => pm_1) rfl rfl hl.1 rfl (Nat.le_of_ble_eq_true rfl) ⟨Nat.le_of_ble_eq_true rfl, Nat.le_of_ble_eq_true rfl⟩ dX3_access_33 (fun r_4 u_4 H locs e_4 hW => ?_)
  obtain ⟨rfl, rfl⟩ := e_4
  refine q_to (y := nI s0) (by rw [hs0]; rfl) ?_
  refine lv_iload C.1 C.2.1 dX3_access_36 (lv_at hl 4 rfl) ?_
  refine q_iadd C dX3_access_38 ?_
  have hz9 := hX.1.sz (i := n) (by omega)
  have hs9 := hX.1.st (i := n) (by omega) hs0
  refine lv_bipush (v := nI 8) C.1 C.2.1 dX3_access_39 (by decide) ?_
  refine q_idiv C (by omega) (by omega) (by omega) dX3_access_41 ?_
  refine lv_istore (lv' := [(5, .int (nI ((s0 + d) / 8))), (0, .ref (A 0 0)), (1, .int (nI kd)), (2, .int (nI c)), (3, .int (nI n)), (4, .int (nI d))]) C.1 C.2.1 dX3_access_42 hl (by decide) rfl (fun ls hl => ?_)
  obtain ⟨k, hk, hk9⟩ : ∃ k, k < 64 ∧ (s0 + d) / 8 = k := ⟨_, by have := hL3 n s0 hn hs0; omega, rfl⟩
  rw [hk9] at hl
  have hl : lv_has ls 10 [(5, .int (nI k)), (0, .ref (A 0 0)), (1, .int (nI kd)), (2, .int (nI c)), (3, .int (nI n)), (4, .int (nI d))] := hl
  refine lv_iload_n C.1 C.2.1 dX3_access_44 rfl (lv_at hl 2 rfl) ?_
  refine lv_iconst (v := nI 1) C.1 C.2.1 dX3_access_45 (by decide) ?_
  have L_54 : ∀ (y0 : Int32) (f0 : y0 = bI (decide (kd = 1))) (ls : Array Slot) (H : Heap) (locs : List Loc), lv_has ls 10 [(5, .int (nI k)), (0, .ref (A 0 0)), (1, .int (nI kd)), (2, .int (nI c)), (3, .int (nI n)), (4, .int (nI d))] → qW D g (va_A (wX g A X) sz) ss.heap ss ([((A 0 0), .inr (6, [.ref (A 0 1), .ref (A 0 2), .ref (A 0 3), .ref (A 0 4), .ref (A 0 5)]))] ++ ((wL g (A 0 1) (A 1) (xL X)) ++ ((wC g (A 0 2) (A 2) (xC X)) ++ ((wC g (A 0 3) (A 3) (xR X)) ++ ((wAL g (A 0 4) (xl X)) ++ ((wAL g (A 0 5) (xa X)) ++ (wP  (xE X)))))))) H locs → W pp l ee ({ frames := 9, cells := 7, slots := 2078, locals := 231 } : Room) ss mm [.ref (A 0 0), .int (nI kd), .int (nI c), .int (nI n), .int (nI d)].toArray bb mt kc H locs 4 24 (vx_MQ bb (va_Qi (fun (r : Int32) (u : XS) => XOK ev.1 u ∧ ∃ rr : Nat, nI rr = r ∧ xAcc (pX X) (decide (kd = 1)) (nI c) (nI n) (nI d) = (0, rr, pX u)) (qB D g (wX g A X) sz (fun (u : XS) => wX g A u)) (va_A (wX g A X) sz)) (qXX D g (wX g A X) sz (fun E (u : XS) => XOK ev.1 u ∧ ∃ k, ([ioN, nsN, isN, iaN] : List String)[k]? = some E ∧ xAcc (pX X) (decide (kd = 1)) (nI c) (nI n) (nI d) = (k + 1, 0, pX u)) (fun (u : XS) => wX g A u)) [.ref (A 0 0), .int (nI kd), .int (nI c), .int (nI n), .int (nI d)].toArray ss 7 2078 (va_A (wX g A X) sz)) (F0 mm 54 ls [.int y0]) := by
    intro y0 f0 ls H locs hl hW
    subst f0
    refine lv_istore (lv' := [(6, .int (bI (decide (kd = 1)))), (5, .int (nI k)), (0, .ref (A 0 0)), (1, .int (nI kd)), (2, .int (nI c)), (3, .int (nI n)), (4, .int (nI d))]) C.1 C.2.1 dX3_access_54 hl (by decide) rfl (fun ls hl => ?_)
    refine lv_aload_n C.1 C.2.1 dX3_access_56 rfl (lv_at hl 2 rfl) ?_
    refine q_get (v := .ref (A 0 2)) C hW 0 rfl rfl 1 (by decide) gu_X3 (C.2.2.2.2 _ fl_X3_19) rfl rfl dX3_access_57 ?_
    refine lv_iload_n C.1 C.2.1 dX3_access_60 rfl (lv_at hl 4 rfl) ?_
    refine lv_iload_n C.1 C.2.1 dX3_access_61 rfl (lv_at hl 5 rfl) ?_
    refine lv_iload C.1 C.2.1 dX3_access_62 (lv_at hl 1 rfl) ?_
    refine lv_iload C.1 C.2.1 dX3_access_64 (lv_at hl 0 rfl) ?_
    refine q_callVi (rest := []) C (c_X0_causeOfNext l D g (A 0 2) (A 2) (xC X) c (nI n) k (decide (kd = 1)) (by omega) (by omega) _) (gw_V ml_X3_256 im_X0_causeOfNext se_X0_X0_causeOfNext ini_X0 cd_X0_causeOfNext rfl) rfl rfl rfl hd_X0_causeOfNext ⟨Nat.le_of_ble_eq_true rfl, Nat.le_of_ble_eq_true rfl⟩ hW pm_2 (fun u_5 => ([((A 0 0), .inr (6, [.ref (A 0 1), .ref (A 0 2), .ref (A 0 3), .ref (A 0 4), .ref (A 0 5)]))] ++ ((wL g (A 0 1) (A 1) (xL X)) ++ ((wC g (A 0 2) (A 2) u_5) ++ ((wC g (A 0 3) (A 3) (xR X)) ++ ((wAL g (A 0 4) (xl X)) ++ ((wAL g (A 0 5) (xa X)) ++ (wP  (xE X))))))))) (fun _ => pm_2) rfl rfl hl.1 rfl (Nat.le_of_ble_eq_true rfl) ⟨Nat.le_of_ble_eq_true rfl, Nat.le_of_ble_eq_true rfl⟩ dX3_access_66 (fun r_5 u_5 H locs e_5 hW => ?_)
    obtain ⟨rfl, rfl⟩ := e_5
    refine lv_istore (lv' := [(7, .int (cI (pCause (xC X) c (nI n) k (decide (kd = 1))))), (6, .int (bI (decide (kd = 1)))), (5, .int (nI k)), (0, .ref (A 0 0)), (1, .int (nI kd)), (2, .int (nI c)), (3, .int (nI n)), (4, .int (nI d))]) C.1 C.2.1 dX3_access_69 hl (by decide) rfl (fun ls hl => ?_)
    refine lv_aload_n C.1 C.2.1 dX3_access_71 rfl (lv_at hl 3 rfl) ?_
    refine q_get (v := .ref (A 0 2)) C hW 0 rfl rfl 1 (by decide) gu_X3 (C.2.2.2.2 _ fl_X3_19) rfl rfl dX3_access_72 ?_
    refine lv_iload_n C.1 C.2.1 dX3_access_75 rfl (lv_at hl 5 rfl) ?_
    refine lv_iload_n C.1 C.2.1 dX3_access_76 rfl (lv_at hl 6 rfl) ?_
    refine lv_iload C.1 C.2.1 dX3_access_77 (lv_at hl 2 rfl) ?_
    refine lv_iload C.1 C.2.1 dX3_access_79 (lv_at hl 1 rfl) ?_
    refine q_callVi (rest := []) C (c_X0_makeAccess l D g (A 0 2) (A 2) (xC X) c (nI n) k (decide (kd = 1)) (by omega) (by omega) _) (gw_V ml_X3_260 im_X0_makeAccess se_X0_X0_makeAccess ini_X0 cd_X0_makeAccess rfl) rfl rfl rfl hd_X0_makeAccess ⟨Nat.le_of_ble_eq_true rfl, Nat.le_of_ble_eq_true rfl⟩ hW pm_2 (fun u_6 => ([((A 0 0), .inr (6, [.ref (A 0 1), .ref (A 0 2), .ref (A 0 3), .ref (A 0 4), .ref (A 0 5)]))] ++ ((wL g (A 0 1) (A 1) (xL X)) ++ ((wC g (A 0 2) (A 2) u_6) ++ ((wC g (A 0 3) (A 3) (xR X)) ++ ((wAL g (A 0 4) (xl X)) ++ ((wAL g (A 0 5) (xa X)) ++ (wP  (xE X))))))))) (fun _ => pm_2) rfl rfl hl.1 rfl (Nat.le_of_ble_eq_true rfl) ⟨Nat.le_of_ble_eq_true rfl, Nat.le_of_ble_eq_true rfl⟩ dX3_access_81 (fun r_6 u_6 H locs e_6 hW => ?_)
    obtain ⟨rfl, e_6⟩ := e_6
    refine lv_istore (lv' := [(8, .int (nI ((pMA (xC X) c (nI n) k (decide (kd = 1))).1))), (7, .int (cI (pCause (xC X) c (nI n) k (decide (kd = 1))))), (6, .int (bI (decide (kd = 1)))), (5, .int (nI k)), (0, .ref (A 0 0)), (1, .int (nI kd)), (2, .int (nI c)), (3, .int (nI n)), (4, .int (nI d))]) C.1 C.2.1 dX3_access_84 hl (by decide) rfl (fun ls hl => ?_)
    refine q_new C hW (ci := 4) rfl gu_X1 tyX1_ok (C.2.2.2.2 _ cl_X3_113) (C.2.2.2.2 _ inst_X1) (C.2.2.2.2 _ ini_X1) [.int (nI 0), .int (nI 0), .int (nI 0), .int (nI 0), .int (nI 0), .int (nI 0)] ev_def (Nat.le_of_ble_eq_true rfl) (Nat.le_of_ble_eq_true rfl) dX3_access_86 (fun q_86 H hW => ?_)
    have hW : qW D g (va_A (wX g A X) sz) ss.heap ss ((wE1 q_86 (0, 0, some 0, some 0, 0, 0)) ++ ([((A 0 0), .inr (6, [.ref (A 0 1), .ref (A 0 2), .ref (A 0 3), .ref (A 0 4), .ref (A 0 5)]))] ++ ((wL g (A 0 1) (A 1) (xL X)) ++ ((wC g (A 0 2) (A 2) u_6) ++ ((wC g (A 0 3) (A 3) (xR X)) ++ ((wAL g (A 0 4) (xl X)) ++ ((wAL g (A 0 5) (xa X)) ++ (wP  (xE X))))))))) H _ := hW.perm List.perm_append_comm
    refine lv_dup C.1 C.2.1 dX3_access_89 rfl ?_
    refine lv_iload_n C.1 C.2.1 dX3_access_90 rfl (lv_at hl 5 rfl) ?_
    refine lv_iload_n C.1 C.2.1 dX3_access_91 rfl (lv_at hl 6 rfl) ?_
    refine lv_iload_n C.1 C.2.1 dX3_access_92 rfl (lv_at hl 7 rfl) ?_
    refine lv_iload C.1 C.2.1 dX3_access_93 (lv_at hl 3 rfl) ?_
    refine lv_iload C.1 C.2.1 dX3_access_95 (lv_at hl 0 rfl) ?_
    refine lv_iload C.1 C.2.1 dX3_access_97 (lv_at hl 1 rfl) ?_
    refine q_callIv (rest := [.ref q_86]) C (c_X1_init_ l D g q_86 (0, 0, some 0, some 0, 0, 0) kd c (some n) (some k) ((pMA (xC X) c (nI n) k (decide (kd = 1))).1) (pCause (xC X) c (nI n) k (decide (kd = 1))) _) (gw_self cd_X1_init_ rfl) (C.2.2.2.2 _ ini_X1) (C.2.2.2.2 _ ml_X3_264) (C.2.2.2.2 _ im_X1_init_) rfl rfl rfl rfl hd_X1_init_ ⟨Nat.le_of_ble_eq_true rfl, Nat.le_of_ble_eq_true rfl⟩ hW pm_0 (fun u_7 => ((wE1 q_86 u_7) ++ ([((A 0 0), .inr (6, [.ref (A 0 1), .ref (A 0 2), .ref (A 0 3), .ref (A 0 4), .ref (A 0 5)]))] ++ ((wL g (A 0 1) (A 1) (xL X)) ++ ((wC g (A 0 2) (A 2) u_6) ++ ((wC g (A 0 3) (A 3) (xR X)) ++ ((wAL g (A 0 4) (xl X)) ++ ((wAL g (A 0 5) (xa X)) ++ (wP  (xE X)))))))))) (fun _ => pm_0) hl.1 rfl (Nat.le_of_ble_eq_true rfl) ⟨Nat.le_of_ble_eq_true rfl, Nat.le_of_ble_eq_true rfl⟩ dX3_access_99 (fun u_7 H locs e_7 hW => ?_)
    skip
    subst e_7
    refine lv_astore (lv' := [(9, .ref q_86), (8, .int (nI ((pMA (xC X) c (nI n) k (decide (kd = 1))).1))), (7, .int (cI (pCause (xC X) c (nI n) k (decide (kd = 1))))), (6, .int (bI (decide (kd = 1)))), (5, .int (nI k)), (0, .ref (A 0 0)), (1, .int (nI kd)), (2, .int (nI c)), (3, .int (nI n)), (4, .int (nI d))]) C.1 C.2.1 dX3_access_102 hl (by decide) rfl (fun ls hl => ?_)
    refine lv_aload_n C.1 C.2.1 dX3_access_104 rfl (lv_at hl 5 rfl) ?_
    refine q_get (v := .ref (A 0 4)) C hW 1 rfl rfl 3 (by decide) gu_X3 (C.2.2.2.2 _ fl_X3_29) rfl rfl dX3_access_105 ?_
    refine lv_aload C.1 C.2.1 dX3_access_108 (lv_at hl 0 rfl) ?_
    obtain ⟨hin1, hin2, kq, fq, hq⟩ := lst_in hX q_86 (kd, c, some n, some k, (pMA (xC X) c (nI n) k (decide (kd = 1))).1, pCause (xC X) c (nI n) k (decide (kd = 1)))
    have hl9 : alC (xl X) < 512 := by rw [hX.2.2.2.1.1]; exact hfull
    refine qe_callFi (rest := []) C hE hE.2.2.2.2.2.2.2.1.2.2.1 (c_AL_add l D g ev (A 0 4) (xl X) (wP (xE X ++ [(q_86, (kd, c, some n, some k, (pMA (xC X) c (nI n) k (decide (kd = 1))).1, pCause (xC X) c (nI n) k (decide (kd = 1))))])) q_86 kq fq hq hX.2.1 hl9 hin1 _) (gw_F ml_X3_125 se_Jx4a65c_Jxbd725_add_2845_Jx4a65c_add_9ea2d im_Jx4a65c_add_9ea2d ini_Jx4a65c cd_Jx4a65c_add_9ea2d rfl) rfl rfl rfl hd_xLadd ⟨(Nat.le_of_ble_eq_true rfl), (Nat.le_of_ble_eq_true rfl)⟩ hW (wr := ([((A 0 0), .inr (6, [.ref (A 0 1), .ref (A 0 2), .ref (A 0 3), .ref (A 0 4), .ref (A 0 5)]))] ++ ((wL g (A 0 1) (A 1) (xL X)) ++ ((wC g (A 0 2) (A 2) u_6) ++ ((wC g (A 0 3) (A 3) (xR X)) ++ (wAL g (A 0 5) (xa X))))))) (by rw [wP_push]; exact pm_new) (fun le => ([((A 0 0), .inr (6, [.ref (A 0 1), .ref (A 0 2), .ref (A 0 3), .ref (A 0 4), .ref (A 0 5)]))] ++ ((wL g (A 0 1) (A 1) (xL X)) ++ ((wC g (A 0 2) (A 2) u_6) ++ ((wC g (A 0 3) (A 3) (xR X)) ++ ((wAL g (A 0 4) le) ++ ((wAL g (A 0 5) (xa X)) ++ (wP  (xE X ++ [(q_86, (kd, c, some n, some k, (pMA (xC X) c (nI n) k (decide (kd = 1))).1, pCause (xC X) c (nI n) k (decide (kd = 1))))]))))))))) (fun _ => pm_EP) rfl rfl hl.1 rfl (Nat.le_of_ble_eq_true rfl) ⟨(Nat.le_of_ble_eq_true rfl), (Nat.le_of_ble_eq_true rfl)⟩ dX3_access_110 (fun r_110 le H locs e_8 hW => ?_)
    obtain ⟨rfl, hle⟩ := e_8
    refine lv_pop C.1 C.2.1 dX3_access_115 rfl ?_
    refine lv_aload_n C.1 C.2.1 dX3_access_116 rfl (lv_at hl 5 rfl) ?_
    refine q_get (v := .ref (A 0 5)) C hW 0 rfl rfl 4 (by decide) gu_X3 (C.2.2.2.2 _ fl_X3_33) rfl rfl dX3_access_117 ?_
    refine lv_aload C.1 C.2.1 dX3_access_120 (lv_at hl 0 rfl) ?_
    have hl9a : alC (xa X) < 512 := by rw [hX.2.2.2.2.1.1]; exact Nat.lt_of_le_of_lt (acs_le _) hfull
    refine qe_callFi (rest := []) C hE hE.2.2.2.2.2.2.2.1.2.2.1 (c_AL_add l D g ev (A 0 5) (xa X) (wP (xE X ++ [(q_86, (kd, c, some n, some k, (pMA (xC X) c (nI n) k (decide (kd = 1))).1, pCause (xC X) c (nI n) k (decide (kd = 1))))])) q_86 kq fq hq hX.2.2.1 hl9a hin2 _) (gw_F ml_X3_125 se_Jx4a65c_Jxbd725_add_2845_Jx4a65c_add_9ea2d im_Jx4a65c_add_9ea2d ini_Jx4a65c cd_Jx4a65c_add_9ea2d rfl) rfl rfl rfl hd_xLadd ⟨(Nat.le_of_ble_eq_true rfl), (Nat.le_of_ble_eq_true rfl)⟩ hW (wr := ([((A 0 0), .inr (6, [.ref (A 0 1), .ref (A 0 2), .ref (A 0 3), .ref (A 0 4), .ref (A 0 5)]))] ++ ((wL g (A 0 1) (A 1) (xL X)) ++ ((wC g (A 0 2) (A 2) u_6) ++ ((wC g (A 0 3) (A 3) (xR X)) ++ (wAL g (A 0 4) le)))))) pm_AP (fun la => ([((A 0 0), .inr (6, [.ref (A 0 1), .ref (A 0 2), .ref (A 0 3), .ref (A 0 4), .ref (A 0 5)]))] ++ ((wL g (A 0 1) (A 1) (xL X)) ++ ((wC g (A 0 2) (A 2) u_6) ++ ((wC g (A 0 3) (A 3) (xR X)) ++ ((wAL g (A 0 4) le) ++ ((wAL g (A 0 5) la) ++ (wP  (xE X ++ [(q_86, (kd, c, some n, some k, (pMA (xC X) c (nI n) k (decide (kd = 1))).1, pCause (xC X) c (nI n) k (decide (kd = 1))))]))))))))) (fun _ => pm_AP) rfl rfl hl.1 rfl (Nat.le_of_ble_eq_true rfl) ⟨(Nat.le_of_ble_eq_true rfl), (Nat.le_of_ble_eq_true rfl)⟩ dX3_access_122 (fun r_122 la H locs e_9 hW => ?_)
    obtain ⟨rfl, hla⟩ := e_9
    refine lv_pop C.1 C.2.1 dX3_access_127 rfl ?_
    refine lv_iload C.1 C.2.1 dX3_access_128 (lv_at hl 1 rfl) ?_
    have hOK := hX.push hfull (z := (kd, c, some n, some k, (pMA (xC X) c (nI n) k (decide (kd = 1))).1, pCause (xC X) c (nI n) k (decide (kd = 1)))) ⟨show kd < 5 by omega, hc, fun _ => ⟨n, k, rfl, rfl, by omega, hk⟩, pMA_le (xC X) c (nI n) k (decide (kd = 1))⟩ hle (by rw [if_pos (show isA (kd, c, some n, some k, (pMA (xC X) c (nI n) k (decide (kd = 1))).1, pCause (xC X) c (nI n) k (decide (kd = 1))) = true from decide_eq_true (show kd ≤ 1 from hkd))]; exact hla) hX.1 u_6 (xR X)
    exact vx_ret (q_iret C hRt hLk hW rfl ((xL X), u_6, (xR X), le, la, (xE X ++ [(q_86, (kd, c, some n, some k, (pMA (xC X) c (nI n) k (decide (kd = 1))).1, pCause (xC X) c (nI n) k (decide (kd = 1))))])) ⟨hOK, _, rfl, by unfold xAcc; rw [inR_nI hc (by decide)]; dsimp only; rw [show inR (lNm (sL (pX X))) (nI n) = some n from inR_nI hn (by omega)]; dsimp only; rw [show lSt (sL (pX X)) n = some s0 from hs0]; dsimp only; rw [show inR (lSz (sL (pX X)) n) (nI d) = some d from inR_nI hd (by have h9 : lSz (sL (pX X)) n ≤ 32 := hX.1.sz (i := n) (by omega); omega)]; dsimp only; unfold xAccAt; rw [hk9, kd_if hkd, pX_push, show (pMA (sC (pX X)) c (nI n) k (decide (kd = 1))).2 = _ from e_6]; rfl⟩ rfl (Nat.le_of_ble_eq_true rfl) (Nat.le_of_ble_eq_true rfl) dX3_access_130)
  refine q_ne (tgt := 53) C (by omega) (by omega) dX3_access_46 (by decide) (fun c_46 => ?_) (fun c_46 => ?_)
  · refine lv_iconst (v := nI 0) C.1 C.2.1 dX3_access_53 (by decide) ?_
    exact L_54  _ (by rw [decide_eq_false c_46]; rfl) ls _ _ (lv_sub hl [0, 1, 2, 3, 4, 5] rfl) hW
  refine lv_iconst (v := nI 1) C.1 C.2.1 dX3_access_49 (by decide) ?_
  refine lv_goto (tgt := 54) C.1 C.2.1 dX3_access_50 (by decide) ?_
  exact L_54  _ (by rw [decide_eq_true c_46]; rfl) ls _ _ (lv_sub hl [0, 1, 2, 3, 4, 5] rfl) hW

theorem hd_X3_read : yX3_read.cls = RX3 ∧ yX3_read.cls ≠ "java/lang/invoke/MethodHandle" ∧ yX3_read.cls ≠ "java/lang/invoke/VarHandle" ∧ (parseMethodDescriptor yX3_read.desc).map (fun d => d.parameters.length) = some 3 := by decide +kernel
set_option maxHeartbeats 4000000 in
set_option maxRecDepth 100000 in
theorem c_X3_read (l : Launch) (hst : l.stackTraces = false) (D : va_G) (g : Nat → ClassId) (ev : Nat × Nat × (Nat → Nat)) (A : Nat → Nat → Nat) (X : XS) (hX : XOK ev.1 X) (v1 : Int32) (v2 : Int32) (v3 : Int32) (hfull : (xE X).length < 512) (hL3 : LOK3 (xL X)) (sz : Nat) : qXi l yX3_read (.code yX3_read cX3_read 4 (some .int) :: GW) ({ frames := 10, cells := 7, slots := 2078, locals := 260 } : Room) D g ev [.ref (A 0 0), .int v1, .int v2, .int v3] (wX g A X) sz (fun (r : Int32) (u : XS) => XOK ev.1 u ∧ ∃ rr : Nat, nI rr = r ∧ xAcc (pX X) false v1 v2 v3 = (0, rr, pX u)) (fun E (u : XS) => XOK ev.1 u ∧ ∃ k, ([ioN, nsN, isN, iaN] : List String)[k]? = some E ∧ xAcc (pX X) false v1 v2 v3 = (k + 1, 0, pX u)) (fun (u : XS) => wX g A u) 7 2078 := by
  refine qx_entry (cc := cX3_read) (nL := 4) (ret := (some .int)) rfl (by decide) (Nat.le_of_ble_eq_true rfl) (fun pp ee ss mm bb mt kc ls C hRt hLk hin hsz hW hE hnt hl => ?_)
  have hl : lv_has ls 4 [(0, .ref (A 0 0)), (1, .int v1), (2, .int v2), (3, .int v3)] := hl
  have hW : qW D g (va_A (wX g A X) sz) ss.heap ss ([((A 0 0), .inr (6, [.ref (A 0 1), .ref (A 0 2), .ref (A 0 3), .ref (A 0 4), .ref (A 0 5)]))] ++ ((wL g (A 0 1) (A 1) (xL X)) ++ ((wC g (A 0 2) (A 2) (xC X)) ++ ((wC g (A 0 3) (A 3) (xR X)) ++ ((wAL g (A 0 4) (xl X)) ++ ((wAL g (A 0 5) (xa X)) ++ (wP  (xE X)))))))) ss.heap [] := hW
  have hN := hX.1.1
  have hN9 : lNm (sL (pX X)) ≤ 12 := hN
  refine lv_aload_n C.1 C.2.1 dX3_read_0 rfl (lv_at hl 0 rfl) ?_
  refine lv_iconst (v := nI 0) C.1 C.2.1 dX3_read_1 (by decide) ?_
  refine lv_iload_n C.1 C.2.1 dX3_read_2 rfl (lv_at hl 1 rfl) ?_
  refine lv_iload_n C.1 C.2.1 dX3_read_3 rfl (lv_at hl 2 rfl) ?_
  refine lv_iload_n C.1 C.2.1 dX3_read_4 rfl (lv_at hl 3 rfl) ?_
  refine qx_callVi (rest := []) C hE hLk hnt (c_X3_access l hst D g ev A X hX 0 v1 v2 v3 (by decide) hfull hL3 _) (gw_V ml_X3_115 im_X3_access se_X3_X3_access ini_X3 cd_X3_access rfl) rfl rfl rfl hd_X3_access ⟨(Nat.le_of_ble_eq_true rfl), (Nat.le_of_ble_eq_true rfl)⟩ hW pm_all (fun u => wX g A u) (fun _ => pm_all) rfl rfl hl.1 rfl (Nat.le_of_ble_eq_true rfl) ⟨(Nat.le_of_ble_eq_true rfl), (Nat.le_of_ble_eq_true rfl)⟩ ⟨(Nat.le_of_ble_eq_true rfl), (Nat.le_of_ble_eq_true rfl)⟩ dX3_read_5 (fun E u h => ⟨u, h, rfl⟩) (fun r_1 u_1 H locs e_1 hW => ?_)
  have hW : qW D g (va_A (wX g A X) sz) ss.heap ss (wX g A u_1) H locs := hW
  exact vx_ret (q_iret C hRt hLk hW rfl u_1 e_1 rfl (Nat.le_of_ble_eq_true rfl) (Nat.le_of_ble_eq_true rfl) dX3_read_8)

theorem hd_X3_write : yX3_write.cls = RX3 ∧ yX3_write.cls ≠ "java/lang/invoke/MethodHandle" ∧ yX3_write.cls ≠ "java/lang/invoke/VarHandle" ∧ (parseMethodDescriptor yX3_write.desc).map (fun d => d.parameters.length) = some 3 := by decide +kernel
set_option maxHeartbeats 4000000 in
set_option maxRecDepth 100000 in
theorem c_X3_write (l : Launch) (hst : l.stackTraces = false) (D : va_G) (g : Nat → ClassId) (ev : Nat × Nat × (Nat → Nat)) (A : Nat → Nat → Nat) (X : XS) (hX : XOK ev.1 X) (v1 : Int32) (v2 : Int32) (v3 : Int32) (hfull : (xE X).length < 512) (hL3 : LOK3 (xL X)) (sz : Nat) : qXi l yX3_write (.code yX3_write cX3_write 4 (some .int) :: GW) ({ frames := 10, cells := 7, slots := 2078, locals := 260 } : Room) D g ev [.ref (A 0 0), .int v1, .int v2, .int v3] (wX g A X) sz (fun (r : Int32) (u : XS) => XOK ev.1 u ∧ ∃ rr : Nat, nI rr = r ∧ xAcc (pX X) true v1 v2 v3 = (0, rr, pX u)) (fun E (u : XS) => XOK ev.1 u ∧ ∃ k, ([ioN, nsN, isN, iaN] : List String)[k]? = some E ∧ xAcc (pX X) true v1 v2 v3 = (k + 1, 0, pX u)) (fun (u : XS) => wX g A u) 7 2078 := by
  refine qx_entry (cc := cX3_write) (nL := 4) (ret := (some .int)) rfl (by decide) (Nat.le_of_ble_eq_true rfl) (fun pp ee ss mm bb mt kc ls C hRt hLk hin hsz hW hE hnt hl => ?_)
  have hl : lv_has ls 4 [(0, .ref (A 0 0)), (1, .int v1), (2, .int v2), (3, .int v3)] := hl
  have hW : qW D g (va_A (wX g A X) sz) ss.heap ss ([((A 0 0), .inr (6, [.ref (A 0 1), .ref (A 0 2), .ref (A 0 3), .ref (A 0 4), .ref (A 0 5)]))] ++ ((wL g (A 0 1) (A 1) (xL X)) ++ ((wC g (A 0 2) (A 2) (xC X)) ++ ((wC g (A 0 3) (A 3) (xR X)) ++ ((wAL g (A 0 4) (xl X)) ++ ((wAL g (A 0 5) (xa X)) ++ (wP  (xE X)))))))) ss.heap [] := hW
  have hN := hX.1.1
  have hN9 : lNm (sL (pX X)) ≤ 12 := hN
  refine lv_aload_n C.1 C.2.1 dX3_write_0 rfl (lv_at hl 0 rfl) ?_
  refine lv_iconst (v := nI 1) C.1 C.2.1 dX3_write_1 (by decide) ?_
  refine lv_iload_n C.1 C.2.1 dX3_write_2 rfl (lv_at hl 1 rfl) ?_
  refine lv_iload_n C.1 C.2.1 dX3_write_3 rfl (lv_at hl 2 rfl) ?_
  refine lv_iload_n C.1 C.2.1 dX3_write_4 rfl (lv_at hl 3 rfl) ?_
  refine qx_callVi (rest := []) C hE hLk hnt (c_X3_access l hst D g ev A X hX 1 v1 v2 v3 (by decide) hfull hL3 _) (gw_V ml_X3_115 im_X3_access se_X3_X3_access ini_X3 cd_X3_access rfl) rfl rfl rfl hd_X3_access ⟨(Nat.le_of_ble_eq_true rfl), (Nat.le_of_ble_eq_true rfl)⟩ hW pm_all (fun u => wX g A u) (fun _ => pm_all) rfl rfl hl.1 rfl (Nat.le_of_ble_eq_true rfl) ⟨(Nat.le_of_ble_eq_true rfl), (Nat.le_of_ble_eq_true rfl)⟩ ⟨(Nat.le_of_ble_eq_true rfl), (Nat.le_of_ble_eq_true rfl)⟩ dX3_write_5 (fun E u h => ⟨u, h, rfl⟩) (fun r_1 u_1 H locs e_1 hW => ?_)
  have hW : qW D g (va_A (wX g A X) sz) ss.heap ss (wX g A u_1) H locs := hW
  exact vx_ret (q_iret C hRt hLk hW rfl u_1 e_1 rfl (Nat.le_of_ble_eq_true rfl) (Nat.le_of_ble_eq_true rfl) dX3_write_8)
