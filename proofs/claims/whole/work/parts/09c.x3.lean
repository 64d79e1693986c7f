/-! The class: its methods. -/
theorem ev_def : ∀ j, j < 6 → defaultValue (tyX1 j) = vp_V [.int (nI 0), .int (nI 0), .int (nI 0), .int (nI 0), .int (nI 0), .int (nI 0)] j := by
  intro j hj
  match j with
  | 0 => rfl
  | 1 => rfl
  | 2 => rfl
  | 3 => rfl
  | 4 => rfl
  | 5 => rfl
  | n + 6 => omega
theorem inP_ok {n : Nat} {v : Int32} (hn : n < 2 ^ 30) (h1 : ¬ v < nI 1) (h2 : v ≤ nI n) : ∃ k, 1 ≤ k ∧ k ≤ n ∧ v = nI k ∧ inP n v = some k := by
  refine inP_of hn ?_
  unfold inP
  rw [if_neg h1, if_neg (Int32.not_lt.mpr h2)]
  rfl
theorem inP_lo {n : Nat} {v : Int32} (h : v < nI 1) : inP n v = none := by unfold inP; rw [if_pos h]
theorem inP_hi {n : Nat} {v : Int32} (h1 : ¬ v < nI 1) (h : ¬ v ≤ nI n) : inP n v = none := by unfold inP; rw [if_neg h1, if_pos (Int32.not_le.mp h)]
theorem inR_lo {n : Nat} {v : Int32} (h : v < 0) : inR n v = none := by unfold inR; rw [if_pos h]
theorem inR_hi {n : Nat} {v : Int32} (h1 : ¬ v < 0) (h : ¬ v < nI n) : inR n v = none := by unfold inR; rw [if_neg h1, if_pos (Int32.not_lt.mp h)]
theorem inR_ok {n : Nat} {v : Int32} (hn : n < 2 ^ 31) (h1 : ¬ v < 0) (h : v < nI n) : ∃ k, k < n ∧ v = nI k := i_in hn h1 (Int32.not_le.mpr h)
theorem inR_N {n : Nat} {v : Int32} (h : (inR n v).isSome = false) : inR n v = none := by
  cases e : inR n v with
  | none => rfl
  | some k => rw [e] at h; cases h
theorem inR_S {n : Nat} {v : Int32} (hn : n < 2 ^ 31) (h : (inR n v).isSome = true) : ∃ k, k < n ∧ v = nI k ∧ inR n v = some k := by
  obtain ⟨k, hk⟩ := Option.isSome_iff_exists.mp h
  exact ⟨k, (inR_some hn hk).1, (inR_some hn hk).2, hk⟩
theorem opt_N {α : Type} {o : Option α} (h : o.isSome = false) : o = none := by
  cases o with
  | none => rfl
  | some k => cases h
theorem opt_S {α : Type} {o : Option α} (h : o.isSome = true) : ∃ k, o = some k := Option.isSome_iff_exists.mp h
theorem hd_X3_checkCore : yX3_checkCore.cls ≠ "java/lang/invoke/MethodHandle" ∧ yX3_checkCore.cls ≠ "java/lang/invoke/VarHandle" ∧ (parseMethodDescriptor yX3_checkCore.desc).map (fun d => d.parameters.length) = some 1 := by decide +kernel
set_option maxHeartbeats 4000000 in
set_option maxRecDepth 100000 in
theorem c_X3_checkCore (l : Launch) (hst : l.stackTraces = false) (D : va_G) (g : Nat → ClassId) (ev : Nat × Nat × (Nat → Nat)) (v : Int32) (sz : Nat) : qXv l yX3_checkCore (.code yX3_checkCore cX3_checkCore 1 none :: GW) ({ frames := 6, cells := 1, slots := 6, locals := 90 } : Room) D g ev [.int v] [] sz (fun (_ : Unit) => ∃ c, c < 4 ∧ v = nI c) (fun E (_ : Unit) => E = ioN ∧ inR 4 v = none) (fun (_ : Unit) => []) 1 6 := by
  refine qx_entry (cc := cX3_checkCore) (nL := 1) (ret := none) rfl (by decide) (Nat.le_of_ble_eq_true rfl) (fun pp ee ss mm bb mt kc ls C hRt hLk hin hsz hW hE hnt hl => ?_)
  have hl : lv_has ls 1 [(0, .int v)] := hl
  refine lv_iload_n C.1 C.2.1 dX3_checkCore_0 rfl (lv_at hl 0 rfl) ?_
  refine lv_if_lt (tgt := 9) C.1 C.2.1 dX3_checkCore_1 (by decide) (fun c_1 => ?_) (fun c_1 => ?_)
  · exact q_thrIOE C hst hE hW hLk hnt hl.1 (text := "the cores are 0 to 3") (List.mem_of_getElem? (i := 12) rfl) dX3_checkCore_9 dX3_checkCore_12 dX3_checkCore_13 dX3_checkCore_15 dX3_checkCore_18 ⟨(Nat.le_of_ble_eq_true rfl), (Nat.le_of_ble_eq_true rfl), (Nat.le_of_ble_eq_true rfl), (Nat.le_of_ble_eq_true rfl)⟩ (Nat.le_of_ble_eq_true rfl) (Nat.le_of_ble_eq_true rfl) () ⟨rfl, inR_lo c_1⟩ rfl
  refine lv_iload_n C.1 C.2.1 dX3_checkCore_4 rfl (lv_at hl 0 rfl) ?_
  refine lv_iconst (v := nI 4) C.1 C.2.1 dX3_checkCore_5 (by decide) ?_
  refine lv_icmp_lt (tgt := 19) C.1 C.2.1 dX3_checkCore_6 (by decide) (fun c_6 => ?_) (fun c_6 => ?_)
  · exact vx_ret (q_vret C hRt hLk hW () (inR_ok (by decide) c_1 c_6) rfl (Nat.le_of_ble_eq_true rfl) (Nat.le_of_ble_eq_true rfl) dX3_checkCore_19)
  exact q_thrIOE C hst hE hW hLk hnt hl.1 (text := "the cores are 0 to 3") (List.mem_of_getElem? (i := 12) rfl) dX3_checkCore_9 dX3_checkCore_12 dX3_checkCore_13 dX3_checkCore_15 dX3_checkCore_18 ⟨(Nat.le_of_ble_eq_true rfl), (Nat.le_of_ble_eq_true rfl), (Nat.le_of_ble_eq_true rfl), (Nat.le_of_ble_eq_true rfl)⟩ (Nat.le_of_ble_eq_true rfl) (Nat.le_of_ble_eq_true rfl) () ⟨rfl, inR_hi c_1 c_6⟩ rfl

theorem hd_X3_checkLine : yX3_checkLine.cls ≠ "java/lang/invoke/MethodHandle" ∧ yX3_checkLine.cls ≠ "java/lang/invoke/VarHandle" ∧ (parseMethodDescriptor yX3_checkLine.desc).map (fun d => d.parameters.length) = some 1 := by decide +kernel
set_option maxHeartbeats 4000000 in
set_option maxRecDepth 100000 in
theorem c_X3_checkLine (l : Launch) (hst : l.stackTraces = false) (D : va_G) (g : Nat → ClassId) (ev : Nat × Nat × (Nat → Nat)) (v : Int32) (sz : Nat) : qXv l yX3_checkLine (.code yX3_checkLine cX3_checkLine 1 none :: GW) ({ frames := 6, cells := 1, slots := 6, locals := 90 } : Room) D g ev [.int v] [] sz (fun (_ : Unit) => ∃ c, c < 64 ∧ v = nI c) (fun E (_ : Unit) => E = iaN ∧ inR 64 v = none) (fun (_ : Unit) => []) 1 6 := by
  refine qx_entry (cc := cX3_checkLine) (nL := 1) (ret := none) rfl (by decide) (Nat.le_of_ble_eq_true rfl) (fun pp ee ss mm bb mt kc ls C hRt hLk hin hsz hW hE hnt hl => ?_)
  have hl : lv_has ls 1 [(0, .int v)] := hl
  refine lv_iload_n C.1 C.2.1 dX3_checkLine_0 rfl (lv_at hl 0 rfl) ?_
  refine lv_if_lt (tgt := 10) C.1 C.2.1 dX3_checkLine_1 (by decide) (fun c_1 => ?_) (fun c_1 => ?_)
  · exact q_thrIAE C hst hE hW hLk hnt hl.1 (text := "the lines are 0 to 63") (List.mem_of_getElem? (i := 15) rfl) dX3_checkLine_10 dX3_checkLine_13 dX3_checkLine_14 dX3_checkLine_16 dX3_checkLine_19 ⟨(Nat.le_of_ble_eq_true rfl), (Nat.le_of_ble_eq_true rfl), (Nat.le_of_ble_eq_true rfl), (Nat.le_of_ble_eq_true rfl)⟩ (Nat.le_of_ble_eq_true rfl) (Nat.le_of_ble_eq_true rfl) () ⟨rfl, inR_lo c_1⟩ rfl
  refine lv_iload_n C.1 C.2.1 dX3_checkLine_4 rfl (lv_at hl 0 rfl) ?_
  refine lv_bipush (v := nI 64) C.1 C.2.1 dX3_checkLine_5 (by decide) ?_
  refine lv_icmp_lt (tgt := 20) C.1 C.2.1 dX3_checkLine_7 (by decide) (fun c_7 => ?_) (fun c_7 => ?_)
  · exact vx_ret (q_vret C hRt hLk hW () (inR_ok (by decide) c_1 c_7) rfl (Nat.le_of_ble_eq_true rfl) (Nat.le_of_ble_eq_true rfl) dX3_checkLine_20)
  exact q_thrIAE C hst hE hW hLk hnt hl.1 (text := "the lines are 0 to 63") (List.mem_of_getElem? (i := 15) rfl) dX3_checkLine_10 dX3_checkLine_13 dX3_checkLine_14 dX3_checkLine_16 dX3_checkLine_19 ⟨(Nat.le_of_ble_eq_true rfl), (Nat.le_of_ble_eq_true rfl), (Nat.le_of_ble_eq_true rfl), (Nat.le_of_ble_eq_true rfl)⟩ (Nat.le_of_ble_eq_true rfl) (Nat.le_of_ble_eq_true rfl) () ⟨rfl, inR_hi c_1 c_7⟩ rfl

theorem hd_X3_checkName : yX3_checkName.cls = RX3 ∧ yX3_checkName.cls ≠ "java/lang/invoke/MethodHandle" ∧ yX3_checkName.cls ≠ "java/lang/invoke/VarHandle" ∧ (parseMethodDescriptor yX3_checkName.desc).map (fun d => d.parameters.length) = some 1 := by decide +kernel
set_option maxHeartbeats 4000000 in
set_option maxRecDepth 100000 in
theorem c_X3_checkName (l : Launch) (hst : l.stackTraces = false) (D : va_G) (g : Nat → ClassId) (ev : Nat × Nat × (Nat → Nat)) (A : Nat → Nat → Nat) (X : XS) (hX : XOK ev.1 X) (v : Int32) (sz : Nat) : qXv l yX3_checkName (.code yX3_checkName cX3_checkName 2 none :: GW) ({ frames := 6, cells := 1, slots := 6, locals := 90 } : Room) D g ev [.ref (A 0 0), .int v] (wX g A X) sz (fun (_ : Unit) => ∃ n, n < lNm (xL X) ∧ v = nI n) (fun E (_ : Unit) => E = nsN ∧ inR (lNm (xL X)) v = none) (fun (_ : Unit) => (wX g A X)) 1 6 := by
  refine qx_entry (cc := cX3_checkName) (nL := 2) (ret := none) rfl (by decide) (Nat.le_of_ble_eq_true rfl) (fun pp ee ss mm bb mt kc ls C hRt hLk hin hsz hW hE hnt hl => ?_)
  have hl : lv_has ls 2 [(0, .ref (A 0 0)), (1, .int v)] := hl
  have hW : qW D g (va_A (wX g A X) sz) ss.heap ss ([((A 0 0), .inr (6, [.ref (A 0 1), .ref (A 0 2), .ref (A 0 3), .ref (A 0 4), .ref (A 0 5)]))] ++ ((wL g (A 0 1) (A 1) (xL X)) ++ ((wC g (A 0 2) (A 2) (xC X)) ++ ((wC g (A 0 3) (A 3) (xR X)) ++ ((wAL g (A 0 4) (xl X)) ++ ((wAL g (A 0 5) (xa X)) ++ (wP  (xE X)))))))) ss.heap [] := hW
  have hN := hX.1.1
  refine lv_aload_n C.1 C.2.1 dX3_checkName_0 rfl (lv_at hl 0 rfl) ?_
  refine q_get (v := .ref (A 0 1)) C hW 0 rfl rfl 0 (by decide) gu_X3 (C.2.2.2.2 _ fl_X3_10) rfl rfl dX3_checkName_1 ?_
  refine lv_iload_n C.1 C.2.1 dX3_checkName_4 rfl (lv_at hl 1 rfl) ?_
  refine q_callVi (rest := []) C (c_X2_hasName l D g (A 0 1) (A 1) (xL X) v hX.1 _) (gw_V ml_X3_240 im_X2_hasName se_X2_X2_hasName ini_X2 cd_X2_hasName rfl) rfl rfl rfl hd_X2_hasName ⟨Nat.le_of_ble_eq_true rfl, Nat.le_of_ble_eq_true rfl⟩ hW pm_1 (fun u_1 => ([((A 0 0), .inr (6, [.ref (A 0 1), .ref (A 0 2), .ref (A 0 3), .ref (A 0 4), .ref (A 0 5)]))] ++ ((wL g (A 0 1) (A 1) u_1) ++ ((wC g (A 0 2) (A 2) (xC X)) ++ ((wC g (A 0 3) (A 3) (xR X)) ++ ((wAL g (A 0 4) (xl X)) ++ ((wAL g (A 0 5) (xa X)) ++ (wP  (xE X))))))))) (fun _ => pm_1) rfl rfl hl.1 rfl (Nat.le_of_ble_eq_true rfl) ⟨Nat.le_of_ble_eq_true rfl, Nat.le_of_ble_eq_true rfl⟩ dX3_checkName_5 (fun r_1 u_1 H locs e_1 hW => ?_)
  obtain ⟨rfl, rfl⟩ := e_1
  refine q_bf (b := (inR (lNm (xL X)) v).isSome) (tgt := 21) C dX3_checkName_8 (by decide) (fun c_8 => ?_) (fun c_8 => ?_)
  · exact vx_ret (q_vret C hRt hLk hW () (by obtain ⟨k, h1, h2, -⟩ := inR_S (by omega) c_8; exact ⟨k, h1, h2⟩) rfl (Nat.le_of_ble_eq_true rfl) (Nat.le_of_ble_eq_true rfl) dX3_checkName_21)
  exact q_thrNSE C hst hE hW hLk hnt hl.1 (text := "there is no such name") (List.mem_of_getElem? (i := 2) rfl) dX3_checkName_11 dX3_checkName_14 dX3_checkName_15 dX3_checkName_17 dX3_checkName_20 ⟨(Nat.le_of_ble_eq_true rfl), (Nat.le_of_ble_eq_true rfl), (Nat.le_of_ble_eq_true rfl), (Nat.le_of_ble_eq_true rfl)⟩ (Nat.le_of_ble_eq_true rfl) (Nat.le_of_ble_eq_true rfl) () ⟨rfl, inR_N c_8⟩ rfl

theorem hd_X3_checkPlacedName : yX3_checkPlacedName.cls = RX3 ∧ yX3_checkPlacedName.cls ≠ "java/lang/invoke/MethodHandle" ∧ yX3_checkPlacedName.cls ≠ "java/lang/invoke/VarHandle" ∧ (parseMethodDescriptor yX3_checkPlacedName.desc).map (fun d => d.parameters.length) = some 1 := by decide +kernel
set_option maxHeartbeats 4000000 in
set_option maxRecDepth 100000 in
theorem c_X3_checkPlacedName (l : Launch) (hst : l.stackTraces = false) (D : va_G) (g : Nat → ClassId) (ev : Nat × Nat × (Nat → Nat)) (A : Nat → Nat → Nat) (X : XS) (hX : XOK ev.1 X) (v : Int32) (sz : Nat) : qXv l yX3_checkPlacedName (.code yX3_checkPlacedName cX3_checkPlacedName 2 none :: GW) ({ frames := 7, cells := 2, slots := 12, locals := 111 } : Room) D g ev [.ref (A 0 0), .int v] (wX g A X) sz (fun (_ : Unit) => ∃ n, n < lNm (xL X) ∧ v = nI n ∧ ∃ s0, lSt (xL X) n = some s0) (fun E (_ : Unit) => (E = nsN ∧ inR (lNm (xL X)) v = none) ∨ (E = isN ∧ ∃ n, inR (lNm (xL X)) v = some n ∧ lSt (xL X) n = none)) (fun (_ : Unit) => (wX g A X)) 2 12 := by
  refine qx_entry (cc := cX3_checkPlacedName) (nL := 2) (ret := none) rfl (by decide) (Nat.le_of_ble_eq_true rfl) (fun pp ee ss mm bb mt kc ls C hRt hLk hin hsz hW hE hnt hl => ?_)
  have hl : lv_has ls 2 [(0, .ref (A 0 0)), (1, .int v)] := hl
  have hW : qW D g (va_A (wX g A X) sz) ss.heap ss ([((A 0 0), .inr (6, [.ref (A 0 1), .ref (A 0 2), .ref (A 0 3), .ref (A 0 4), .ref (A 0 5)]))] ++ ((wL g (A 0 1) (A 1) (xL X)) ++ ((wC g (A 0 2) (A 2) (xC X)) ++ ((wC g (A 0 3) (A 3) (xR X)) ++ ((wAL g (A 0 4) (xl X)) ++ ((wAL g (A 0 5) (xa X)) ++ (wP  (xE X)))))))) ss.heap [] := hW
  have hN := hX.1.1
  refine lv_aload_n C.1 C.2.1 dX3_checkPlacedName_0 rfl (lv_at hl 0 rfl) ?_
  refine lv_iload_n C.1 C.2.1 dX3_checkPlacedName_1 rfl (lv_at hl 1 rfl) ?_
  refine qx_callVv (rest := []) C hE hLk hnt (c_X3_checkName l hst D g ev A X hX v _) (gw_V ml_X3_56 im_X3_checkName se_X3_X3_checkName ini_X3 cd_X3_checkName rfl) rfl rfl rfl hd_X3_checkName ⟨(Nat.le_of_ble_eq_true rfl), (Nat.le_of_ble_eq_true rfl)⟩ hW pm_all (fun _ => ([((A 0 0), .inr (6, [.ref (A 0 1), .ref (A 0 2), .ref (A 0 3), .ref (A 0 4), .ref (A 0 5)]))] ++ ((wL g (A 0 1) (A 1) (xL X)) ++ ((wC g (A 0 2) (A 2) (xC X)) ++ ((wC g (A 0 3) (A 3) (xR X)) ++ ((wAL g (A 0 4) (xl X)) ++ ((wAL g (A 0 5) (xa X)) ++ (wP  (xE X))))))))) (fun _ => pm_all) rfl rfl hl.1 rfl (Nat.le_of_ble_eq_true rfl) ⟨(Nat.le_of_ble_eq_true rfl), (Nat.le_of_ble_eq_true rfl)⟩ ⟨(Nat.le_of_ble_eq_true rfl), (Nat.le_of_ble_eq_true rfl)⟩ dX3_checkPlacedName_2 (fun E _ h => ⟨(), Or.inl h, rfl⟩) (fun u_1 H locs e_1 hW => ?_)
  obtain ⟨n, hn, rfl⟩ := e_1
  refine lv_aload_n C.1 C.2.1 dX3_checkPlacedName_5 rfl (lv_at hl 0 rfl) ?_
  refine q_get (v := .ref (A 0 1)) C hW 0 rfl rfl 0 (by decide) gu_X3 (C.2.2.2.2 _ fl_X3_10) rfl rfl dX3_checkPlacedName_6 ?_
  refine lv_iload_n C.1 C.2.1 dX3_checkPlacedName_9 rfl (lv_at hl 1 rfl) ?_
  refine q_callVi (rest := []) C (c_X2_isPlaced l D g (A 0 1) (A 1) (xL X) n hX.1 (by omega) _) (gw_V ml_X3_66 im_X2_isPlaced se_X2_X2_isPlaced ini_X2 cd_X2_isPlaced rfl) rfl rfl rfl hd_X2_isPlaced ⟨Nat.le_of_ble_eq_true rfl, Nat.le_of_ble_eq_true rfl⟩ hW pm_1 (fun u_2 => ([((A 0 0), .inr (6, [.ref (A 0 1), .ref (A 0 2), .ref (A 0 3), .ref (A 0 4), .ref (A 0 5)]))] ++ ((wL g (A 0 1) (A 1) u_2) ++ ((wC g (A 0 2) (A 2) (xC X)) ++ ((wC g (A 0 3) (A 3) (xR X)) ++ ((wAL g (A 0 4) (xl X)) ++ ((wAL g (A 0 5) (xa X)) ++ (wP  (xE X))))))))) (fun _ => pm_1) rfl rfl hl.1 rfl (Nat.le_of_ble_eq_true rfl) ⟨Nat.le_of_ble_eq_true rfl, Nat.le_of_ble_eq_true rfl⟩ dX3_checkPlacedName_10 (fun r_2 u_2 H locs e_2 hW => ?_)
  obtain ⟨rfl, rfl⟩ := e_2
  refine q_bf (b := (lSt (xL X) n).isSome) (tgt := 26) C dX3_checkPlacedName_13 (by decide) (fun c_13 => ?_) (fun c_13 => ?_)
  · exact vx_ret (q_vret C hRt hLk hW () ⟨n, hn, rfl, opt_S c_13⟩ rfl (Nat.le_of_ble_eq_true rfl) (Nat.le_of_ble_eq_true rfl) dX3_checkPlacedName_26)
  exact q_thrISE C hst hE hW hLk hnt hl.1 (text := "the name is not placed") (List.mem_of_getElem? (i := 8) rfl) dX3_checkPlacedName_16 dX3_checkPlacedName_19 dX3_checkPlacedName_20 dX3_checkPlacedName_22 dX3_checkPlacedName_25 ⟨(Nat.le_of_ble_eq_true rfl), (Nat.le_of_ble_eq_true rfl), (Nat.le_of_ble_eq_true rfl), (Nat.le_of_ble_eq_true rfl)⟩ (Nat.le_of_ble_eq_true rfl) (Nat.le_of_ble_eq_true rfl) () (Or.inr ⟨rfl, n, inR_nI hn (by omega), opt_N c_13⟩) rfl

theorem hd_X3_checkWord : yX3_checkWord.cls = RX3 ∧ yX3_checkWord.cls ≠ "java/lang/invoke/MethodHandle" ∧ yX3_checkWord.cls ≠ "java/lang/invoke/VarHandle" ∧ (parseMethodDescriptor yX3_checkWord.desc).map (fun d => d.parameters.length) = some 2 := by decide +kernel
set_option maxHeartbeats 4000000 in
set_option maxRecDepth 100000 in
theorem c_X3_checkWord (l : Launch) (hst : l.stackTraces = false) (D : va_G) (g : Nat → ClassId) (ev : Nat × Nat × (Nat → Nat)) (A : Nat → Nat → Nat) (X : XS) (hX : XOK ev.1 X) (v1 : Int32) (v2 : Int32) (sz : Nat) : qXv l yX3_checkWord (.code yX3_checkWord cX3_checkWord 3 none :: GW) ({ frames := 8, cells := 3, slots := 18, locals := 132 } : Room) D g ev [.ref (A 0 0), .int v1, .int v2] (wX g A X) sz (fun (_ : Unit) => ∃ n s0 d, n < lNm (xL X) ∧ v1 = nI n ∧ lSt (xL X) n = some s0 ∧ d < lSz (xL X) n ∧ v2 = nI d) (fun E (_ : Unit) => (E = nsN ∧ inR (lNm (xL X)) v1 = none) ∨ (E = isN ∧ ∃ n, inR (lNm (xL X)) v1 = some n ∧ lSt (xL X) n = none) ∨ (E = iaN ∧ ∃ n s0, inR (lNm (xL X)) v1 = some n ∧ lSt (xL X) n = some s0 ∧ inR (lSz (xL X) n) v2 = none)) (fun (_ : Unit) => (wX g A X)) 3 18 := by
  refine qx_entry (cc := cX3_checkWord) (nL := 3) (ret := none) rfl (by decide) (Nat.le_of_ble_eq_true rfl) (fun pp ee ss mm bb mt kc ls C hRt hLk hin hsz hW hE hnt hl => ?_)
  have hl : lv_has ls 3 [(0, .ref (A 0 0)), (1, .int v1), (2, .int v2)] := hl
  have hW : qW D g (va_A (wX g A X) sz) ss.heap ss ([((A 0 0), .inr (6, [.ref (A 0 1), .ref (A 0 2), .ref (A 0 3), .ref (A 0 4), .ref (A 0 5)]))] ++ ((wL g (A 0 1) (A 1) (xL X)) ++ ((wC g (A 0 2) (A 2) (xC X)) ++ ((wC g (A 0 3) (A 3) (xR X)) ++ ((wAL g (A 0 4) (xl X)) ++ ((wAL g (A 0 5) (xa X)) ++ (wP  (xE X)))))))) ss.heap [] := hW
  have hN := hX.1.1
  refine lv_aload_n C.1 C.2.1 dX3_checkWord_0 rfl (lv_at hl 0 rfl) ?_
  refine lv_iload_n C.1 C.2.1 dX3_checkWord_1 rfl (lv_at hl 1 rfl) ?_
  refine qx_callVv (rest := []) C hE hLk hnt (c_X3_checkPlacedName l hst D g ev A X hX v1 _) (gw_V ml_X3_91 im_X3_checkPlacedName se_X3_X3_checkPlacedName ini_X3 cd_X3_checkPlacedName rfl) rfl rfl rfl hd_X3_checkPlacedName ⟨(Nat.le_of_ble_eq_true rfl), (Nat.le_of_ble_eq_true rfl)⟩ hW pm_all (fun _ => ([((A 0 0), .inr (6, [.ref (A 0 1), .ref (A 0 2), .ref (A 0 3), .ref (A 0 4), .ref (A 0 5)]))] ++ ((wL g (A 0 1) (A 1) (xL X)) ++ ((wC g (A 0 2) (A 2) (xC X)) ++ ((wC g (A 0 3) (A 3) (xR X)) ++ ((wAL g (A 0 4) (xl X)) ++ ((wAL g (A 0 5) (xa X)) ++ (wP  (xE X))))))))) (fun _ => pm_all) rfl rfl hl.1 rfl (Nat.le_of_ble_eq_true rfl) ⟨(Nat.le_of_ble_eq_true rfl), (Nat.le_of_ble_eq_true rfl)⟩ ⟨(Nat.le_of_ble_eq_true rfl), (Nat.le_of_ble_eq_true rfl)⟩ dX3_checkWord_2 (fun E _ h => ⟨(), h.elim Or.inl (fun h => Or.inr (Or.inl h)), rfl⟩) (fun u_1 H locs e_1 hW => ?_)
  obtain ⟨n, hn, rfl, s0, hs0⟩ := e_1
  refine lv_aload_n C.1 C.2.1 dX3_checkWord_5 rfl (lv_at hl 0 rfl) ?_
  refine q_get (v := .ref (A 0 1)) C hW 0 rfl rfl 0 (by decide) gu_X3 (C.2.2.2.2 _ fl_X3_10) rfl rfl dX3_checkWord_6 ?_
  refine lv_iload_n C.1 C.2.1 dX3_checkWord_9 rfl (lv_at hl 1 rfl) ?_
  refine lv_iload_n C.1 C.2.1 dX3_checkWord_10 rfl (lv_at hl 2 rfl) ?_
  refine q_callVi (rest := []) C (c_X2_hasWord l D g (A 0 1) (A 1) (xL X) n v2 hX.1 (by omega) _) (gw_V ml_X3_247 im_X2_hasWord se_X2_X2_hasWord ini_X2 cd_X2_hasWord rfl) rfl rfl rfl hd_X2_hasWord ⟨Nat.le_of_ble_eq_true rfl, Nat.le_of_ble_eq_true rfl⟩ hW pm_1 (fun u_2 => ([((A 0 0), .inr (6, [.ref (A 0 1), .ref (A 0 2), .ref (A 0 3), .ref (A 0 4), .ref (A 0 5)]))] ++ ((wL g (A 0 1) (A 1) u_2) ++ ((wC g (A 0 2) (A 2) (xC X)) ++ ((wC g (A 0 3) (A 3) (xR X)) ++ ((wAL g (A 0 4) (xl X)) ++ ((wAL g (A 0 5) (xa X)) ++ (wP  (xE X))))))))) (fun _ => pm_1) rfl rfl hl.1 rfl (Nat.le_of_ble_eq_true rfl) ⟨Nat.le_of_ble_eq_true rfl, Nat.le_of_ble_eq_true rfl⟩ dX3_checkWord_11 (fun r_2 u_2 H locs e_2 hW => ?_)
  obtain ⟨rfl, rfl⟩ := e_2
  refine q_bf (b := (inR (lSz (xL X) n) v2).isSome) (tgt := 27) C dX3_checkWord_14 (by decide) (fun c_14 => ?_) (fun c_14 => ?_)
  · exact vx_ret (q_vret C hRt hLk hW () (by obtain ⟨d, h1, h2, -⟩ := inR_S (by have := hX.1.sz (i := n) (by omega); omega) c_14; exact ⟨n, s0, d, hn, rfl, hs0, h1, h2⟩) rfl (Nat.le_of_ble_eq_true rfl) (Nat.le_of_ble_eq_true rfl) dX3_checkWord_27)
  exact q_thrIAE C hst hE hW hLk hnt hl.1 (text := "the name has no such word") (List.mem_of_getElem? (i := 9) rfl) dX3_checkWord_17 dX3_checkWord_20 dX3_checkWord_21 dX3_checkWord_23 dX3_checkWord_26 ⟨(Nat.le_of_ble_eq_true rfl), (Nat.le_of_ble_eq_true rfl), (Nat.le_of_ble_eq_true rfl), (Nat.le_of_ble_eq_true rfl)⟩ (Nat.le_of_ble_eq_true rfl) (Nat.le_of_ble_eq_true rfl) () (Or.inr (Or.inr ⟨rfl, n, s0, inR_nI hn (by omega), hs0, inR_N c_14⟩)) rfl

theorem hd_X3_checkIndex : yX3_checkIndex.cls = RX3 ∧ yX3_checkIndex.cls ≠ "java/lang/invoke/MethodHandle" ∧ yX3_checkIndex.cls ≠ "java/lang/invoke/VarHandle" ∧ (parseMethodDescriptor yX3_checkIndex.desc).map (fun d => d.parameters.length) = some 1 := by decide +kernel
set_option maxHeartbeats 4000000 in
set_option maxRecDepth 100000 in
theorem c_X3_checkIndex (l : Launch) (hst : l.stackTraces = false) (D : va_G) (g : Nat → ClassId) (ev : Nat × Nat × (Nat → Nat)) (A : Nat → Nat → Nat) (X : XS) (hX : XOK ev.1 X) (v : Int32) (sz : Nat) : qXv l yX3_checkIndex (.code yX3_checkIndex cX3_checkIndex 2 none :: GW) ({ frames := 6, cells := 1, slots := 6, locals := 90 } : Room) D g ev [.ref (A 0 0), .int v] (wX g A X) sz (fun (_ : Unit) => ∃ i, i < alC (xa X) ∧ v = nI i) (fun E (_ : Unit) => E = nsN ∧ inR (alC (xa X)) v = none) (fun (_ : Unit) => (wX g A X)) 1 6 := by
  refine qx_entry (cc := cX3_checkIndex) (nL := 2) (ret := none) rfl (by decide) (Nat.le_of_ble_eq_true rfl) (fun pp ee ss mm bb mt kc ls C hRt hLk hin hsz hW hE hnt hl => ?_)
  have hl : lv_has ls 2 [(0, .ref (A 0 0)), (1, .int v)] := hl
  have hW : qW D g (va_A (wX g A X) sz) ss.heap ss ([((A 0 0), .inr (6, [.ref (A 0 1), .ref (A 0 2), .ref (A 0 3), .ref (A 0 4), .ref (A 0 5)]))] ++ ((wL g (A 0 1) (A 1) (xL X)) ++ ((wC g (A 0 2) (A 2) (xC X)) ++ ((wC g (A 0 3) (A 3) (xR X)) ++ ((wAL g (A 0 4) (xl X)) ++ ((wAL g (A 0 5) (xa X)) ++ (wP  (xE X)))))))) ss.heap [] := hW
  refine lv_iload_n C.1 C.2.1 dX3_checkIndex_0 rfl (lv_at hl 1 rfl) ?_
  refine lv_if_lt (tgt := 17) C.1 C.2.1 dX3_checkIndex_1 (by decide) (fun c_1 => ?_) (fun c_1 => ?_)
  · exact q_thrNSE C hst hE hW hLk hnt hl.1 (text := "there is no such access") (List.mem_of_getElem? (i := 14) rfl) dX3_checkIndex_17 dX3_checkIndex_20 dX3_checkIndex_21 dX3_checkIndex_23 dX3_checkIndex_26 ⟨(Nat.le_of_ble_eq_true rfl), (Nat.le_of_ble_eq_true rfl), (Nat.le_of_ble_eq_true rfl), (Nat.le_of_ble_eq_true rfl)⟩ (Nat.le_of_ble_eq_true rfl) (Nat.le_of_ble_eq_true rfl) () ⟨rfl, inR_lo c_1⟩ rfl
  refine lv_iload_n C.1 C.2.1 dX3_checkIndex_4 rfl (lv_at hl 1 rfl) ?_
  refine lv_aload_n C.1 C.2.1 dX3_checkIndex_5 rfl (lv_at hl 0 rfl) ?_
  refine q_get (v := .ref (A 0 5)) C hW 0 rfl rfl 4 (by decide) gu_X3 (C.2.2.2.2 _ fl_X3_33) rfl rfl dX3_checkIndex_6 ?_
  refine q_callFi (rest := [.int v]) C hE.2.2.2.2.2.2.2.1.1 (c_AL_size l D g (A 0 5) (xa X) _) (gw_F ml_X3_141 se_Jx4a65c_Jxbd725_size_0699_Jx4a65c_size_8abf5 im_Jx4a65c_size_8abf5 ini_Jx4a65c cd_Jx4a65c_size_8abf5 rfl) rfl rfl rfl hd_xLsize ⟨(Nat.le_of_ble_eq_true rfl), (Nat.le_of_ble_eq_true rfl)⟩ hW pm_5 (fun _ => ([((A 0 0), .inr (6, [.ref (A 0 1), .ref (A 0 2), .ref (A 0 3), .ref (A 0 4), .ref (A 0 5)]))] ++ ((wL g (A 0 1) (A 1) (xL X)) ++ ((wC g (A 0 2) (A 2) (xC X)) ++ ((wC g (A 0 3) (A 3) (xR X)) ++ ((wAL g (A 0 4) (xl X)) ++ ((wAL g (A 0 5) (xa X)) ++ (wP  (xE X))))))))) (fun _ => pm_5) rfl rfl hl.1 rfl (Nat.le_of_ble_eq_true rfl) ⟨(Nat.le_of_ble_eq_true rfl), (Nat.le_of_ble_eq_true rfl)⟩ dX3_checkIndex_9 (fun r_1 _ H locs e_1 hW => ?_)
  subst e_1
  refine lv_icmp_lt (tgt := 27) C.1 C.2.1 dX3_checkIndex_14 (by decide) (fun c_14 => ?_) (fun c_14 => ?_)
  · exact vx_ret (q_vret C hRt hLk hW () (inR_ok (by have := hX.len; omega) c_1 c_14) rfl (Nat.le_of_ble_eq_true rfl) (Nat.le_of_ble_eq_true rfl) dX3_checkIndex_27)
  exact q_thrNSE C hst hE hW hLk hnt hl.1 (text := "there is no such access") (List.mem_of_getElem? (i := 14) rfl) dX3_checkIndex_17 dX3_checkIndex_20 dX3_checkIndex_21 dX3_checkIndex_23 dX3_checkIndex_26 ⟨(Nat.le_of_ble_eq_true rfl), (Nat.le_of_ble_eq_true rfl), (Nat.le_of_ble_eq_true rfl), (Nat.le_of_ble_eq_true rfl)⟩ (Nat.le_of_ble_eq_true rfl) (Nat.le_of_ble_eq_true rfl) () ⟨rfl, inR_hi c_1 c_14⟩ rfl

theorem hd_X3_isFull : yX3_isFull.cls = RX3 ∧ yX3_isFull.cls ≠ "java/lang/invoke/MethodHandle" ∧ yX3_isFull.cls ≠ "java/lang/invoke/VarHandle" ∧ (parseMethodDescriptor yX3_isFull.desc).map (fun d => d.parameters.length) = some 0 := by decide +kernel
set_option maxHeartbeats 4000000 in
set_option maxRecDepth 100000 in
theorem c_X3_isFull (l : Launch) (hst : l.stackTraces = false) (D : va_G) (g : Nat → ClassId) (ev : Nat × Nat × (Nat → Nat)) (A : Nat → Nat → Nat) (X : XS) (hX : XOK ev.1 X)  (sz : Nat) : qNi l yX3_isFull (.code yX3_isFull cX3_isFull 1 (some .boolean) :: GW) ({ frames := 1, cells := 0, slots := 0, locals := 20 } : Room) D g ev [.ref (A 0 0)] (wX g A X) sz (fun (r : Int32) (_ : Unit) => bI (decide (512 ≤ alC (xl X))) = r) (fun (_ : Unit) => (wX g A X)) 0 0 := by
  refine qe_entry (cc := cX3_isFull) (nL := 1) (ret := (some .boolean)) rfl (by decide) (Nat.le_of_ble_eq_true rfl) (fun pp ee ss mm bb mt kc ls C hRt hLk hin hsz hW hE hl => ?_)
  have hl : lv_has ls 1 [(0, .ref (A 0 0))] := hl
  have hW : qW D g (va_A (wX g A X) sz) ss.heap ss ([((A 0 0), .inr (6, [.ref (A 0 1), .ref (A 0 2), .ref (A 0 3), .ref (A 0 4), .ref (A 0 5)]))] ++ ((wL g (A 0 1) (A 1) (xL X)) ++ ((wC g (A 0 2) (A 2) (xC X)) ++ ((wC g (A 0 3) (A 3) (xR X)) ++ ((wAL g (A 0 4) (xl X)) ++ ((wAL g (A 0 5) (xa X)) ++ (wP  (xE X)))))))) ss.heap [] := hW
  have hlen := hX.len
  refine lv_aload_n C.1 C.2.1 dX3_isFull_0 rfl (lv_at hl 0 rfl) ?_
  refine q_get (v := .ref (A 0 4)) C hW 0 rfl rfl 3 (by decide) gu_X3 (C.2.2.2.2 _ fl_X3_29) rfl rfl dX3_isFull_1 ?_
  refine q_callFi (rest := []) C hE.2.2.2.2.2.2.2.1.1 (c_AL_size l D g (A 0 4) (xl X) _) (gw_F ml_X3_141 se_Jx4a65c_Jxbd725_size_0699_Jx4a65c_size_8abf5 im_Jx4a65c_size_8abf5 ini_Jx4a65c cd_Jx4a65c_size_8abf5 rfl) rfl rfl rfl hd_xLsize ⟨(Nat.le_of_ble_eq_true rfl), (Nat.le_of_ble_eq_true rfl)⟩ hW pm_4 (fun _ => ([((A 0 0), .inr (6, [.ref (A 0 1), .ref (A 0 2), .ref (A 0 3), .ref (A 0 4), .ref (A 0 5)]))] ++ ((wL g (A 0 1) (A 1) (xL X)) ++ ((wC g (A 0 2) (A 2) (xC X)) ++ ((wC g (A 0 3) (A 3) (xR X)) ++ ((wAL g (A 0 4) (xl X)) ++ ((wAL g (A 0 5) (xa X)) ++ (wP  (xE X))))))))) (fun _ => pm_4) rfl rfl hl.1 rfl (Nat.le_of_ble_eq_true rfl) ⟨(Nat.le_of_ble_eq_true rfl), (Nat.le_of_ble_eq_true rfl)⟩ dX3_isFull_4 (fun r_1 _ H locs e_1 hW => ?_)
  subst e_1
  refine lv_sipush (v := nI 512) C.1 C.2.1 dX3_isFull_9 (by decide) ?_
  refine q_lt (tgt := 19) C (by omega) (by omega) dX3_isFull_12 (by decide) (fun c_12 => ?_) (fun c_12 => ?_)
  · refine lv_iconst (v := nI 0) C.1 C.2.1 dX3_isFull_19 (by decide) ?_
    exact q_iret C hRt hLk hW (by decide) () (by rw [decide_eq_false (by omega)]; rfl) rfl (Nat.le_of_ble_eq_true rfl) (Nat.le_of_ble_eq_true rfl) dX3_isFull_20
  refine lv_iconst (v := nI 1) C.1 C.2.1 dX3_isFull_15 (by decide) ?_
  refine lv_goto (tgt := 20) C.1 C.2.1 dX3_isFull_16 (by decide) ?_
  exact q_iret C hRt hLk hW (by decide) () (by rw [decide_eq_true (by omega)]; rfl) rfl (Nat.le_of_ble_eq_true rfl) (Nat.le_of_ble_eq_true rfl) dX3_isFull_20

theorem hd_X3_isCause : yX3_isCause.cls ≠ "java/lang/invoke/MethodHandle" ∧ yX3_isCause.cls ≠ "java/lang/invoke/VarHandle" ∧ (parseMethodDescriptor yX3_isCause.desc).map (fun d => d.parameters.length) = some 1 := by decide +kernel
set_option maxHeartbeats 4000000 in
set_option maxRecDepth 100000 in
theorem c_X3_isCause (l : Launch) (hst : l.stackTraces = false) (D : va_G) (g : Nat → ClassId) (ev : Nat × Nat × (Nat → Nat)) (z : UInt16) (sz : Nat) : qNi l yX3_isCause (.code yX3_isCause cX3_isCause 1 (some .boolean) :: GW) ({ frames := 0, cells := 0, slots := 0, locals := 0 } : Room) D g ev [.int (cI z)] [] sz (fun (r : Int32) (_ : Unit) => bI (isCz z) = r) (fun (_ : Unit) => []) 0 0 := by
  refine qe_entry (cc := cX3_isCause) (nL := 1) (ret := (some .boolean)) rfl (by decide) (Nat.le_of_ble_eq_true rfl) (fun pp ee ss mm bb mt kc ls C hRt hLk hin hsz hW hE hl => ?_)
  have hl : lv_has ls 1 [(0, .int (cI z))] := hl
  refine lv_iload_n C.1 C.2.1 dX3_isCause_0 rfl (lv_at hl 0 rfl) ?_
  refine lv_bipush (v := nI 104) C.1 C.2.1 dX3_isCause_1 (by decide) ?_
  refine q_ceq (tgt := 36) (y := 104) C (by decide) dX3_isCause_3 (by decide) (fun c_3 => ?_) (fun c_3 => ?_)
  · refine lv_iconst (v := nI 1) C.1 C.2.1 dX3_isCause_36 (by decide) ?_
    refine lv_goto (tgt := 41) C.1 C.2.1 dX3_isCause_37 (by decide) ?_
    exact q_iret C hRt hLk hW (by decide) () (by unfold isCz; rw [decide_eq_true (Or.inl c_3)]; rfl) rfl (Nat.le_of_ble_eq_true rfl) (Nat.le_of_ble_eq_true rfl) dX3_isCause_41
  refine lv_iload_n C.1 C.2.1 dX3_isCause_6 rfl (lv_at hl 0 rfl) ?_
  refine lv_bipush (v := nI 117) C.1 C.2.1 dX3_isCause_7 (by decide) ?_
  refine q_ceq (tgt := 36) (y := 117) C (by decide) dX3_isCause_9 (by decide) (fun c_9 => ?_) (fun c_9 => ?_)
  · refine lv_iconst (v := nI 1) C.1 C.2.1 dX3_isCause_36 (by decide) ?_
    refine lv_goto (tgt := 41) C.1 C.2.1 dX3_isCause_37 (by decide) ?_
    exact q_iret C hRt hLk hW (by decide) () (by unfold isCz; rw [decide_eq_true (Or.inr (Or.inl c_9))]; rfl) rfl (Nat.le_of_ble_eq_true rfl) (Nat.le_of_ble_eq_true rfl) dX3_isCause_41
  refine lv_iload_n C.1 C.2.1 dX3_isCause_12 rfl (lv_at hl 0 rfl) ?_
  refine lv_bipush (v := nI 99) C.1 C.2.1 dX3_isCause_13 (by decide) ?_
  refine q_ceq (tgt := 36) (y := 99) C (by decide) dX3_isCause_15 (by decide) (fun c_15 => ?_) (fun c_15 => ?_)
  · refine lv_iconst (v := nI 1) C.1 C.2.1 dX3_isCause_36 (by decide) ?_
    refine lv_goto (tgt := 41) C.1 C.2.1 dX3_isCause_37 (by decide) ?_
    exact q_iret C hRt hLk hW (by decide) () (by unfold isCz; rw [decide_eq_true (Or.inr (Or.inr (Or.inl c_15)))]; rfl) rfl (Nat.le_of_ble_eq_true rfl) (Nat.le_of_ble_eq_true rfl) dX3_isCause_41
  refine lv_iload_n C.1 C.2.1 dX3_isCause_18 rfl (lv_at hl 0 rfl) ?_
  refine lv_bipush (v := nI 101) C.1 C.2.1 dX3_isCause_19 (by decide) ?_
  refine q_ceq (tgt := 36) (y := 101) C (by decide) dX3_isCause_21 (by decide) (fun c_21 => ?_) (fun c_21 => ?_)
  · refine lv_iconst (v := nI 1) C.1 C.2.1 dX3_isCause_36 (by decide) ?_
    refine lv_goto (tgt := 41) C.1 C.2.1 dX3_isCause_37 (by decide) ?_
    exact q_iret C hRt hLk hW (by decide) () (by unfold isCz; rw [decide_eq_true (Or.inr (Or.inr (Or.inr (Or.inl c_21))))]; rfl) rfl (Nat.le_of_ble_eq_true rfl) (Nat.le_of_ble_eq_true rfl) dX3_isCause_41
  refine lv_iload_n C.1 C.2.1 dX3_isCause_24 rfl (lv_at hl 0 rfl) ?_
  refine lv_bipush (v := nI 116) C.1 C.2.1 dX3_isCause_25 (by decide) ?_
  refine q_ceq (tgt := 36) (y := 116) C (by decide) dX3_isCause_27 (by decide) (fun c_27 => ?_) (fun c_27 => ?_)
  · refine lv_iconst (v := nI 1) C.1 C.2.1 dX3_isCause_36 (by decide) ?_
    refine lv_goto (tgt := 41) C.1 C.2.1 dX3_isCause_37 (by decide) ?_
    exact q_iret C hRt hLk hW (by decide) () (by unfold isCz; rw [decide_eq_true (Or.inr (Or.inr (Or.inr (Or.inr (Or.inl c_27)))))]; rfl) rfl (Nat.le_of_ble_eq_true rfl) (Nat.le_of_ble_eq_true rfl) dX3_isCause_41
  refine lv_iload_n C.1 C.2.1 dX3_isCause_30 rfl (lv_at hl 0 rfl) ?_
  refine lv_bipush (v := nI 102) C.1 C.2.1 dX3_isCause_31 (by decide) ?_
  refine q_cne (tgt := 40) (y := 102) C (by decide) dX3_isCause_33 (by decide) (fun c_33 => ?_) (fun c_33 => ?_)
  · refine lv_iconst (v := nI 0) C.1 C.2.1 dX3_isCause_40 (by decide) ?_
    exact q_iret C hRt hLk hW (by decide) () (by unfold isCz; rw [decide_eq_false (fun h9 => h9.elim c_3 (fun h9 => h9.elim c_9 (fun h9 => h9.elim c_15 (fun h9 => h9.elim c_21 (fun h9 => h9.elim c_27 c_33)))))]; rfl) rfl (Nat.le_of_ble_eq_true rfl) (Nat.le_of_ble_eq_true rfl) dX3_isCause_41
  refine lv_iconst (v := nI 1) C.1 C.2.1 dX3_isCause_36 (by decide) ?_
  refine lv_goto (tgt := 41) C.1 C.2.1 dX3_isCause_37 (by decide) ?_
  exact q_iret C hRt hLk hW (by decide) () (by unfold isCz; rw [decide_eq_true (Or.inr (Or.inr (Or.inr (Or.inr (Or.inr c_33)))))]; rfl) rfl (Nat.le_of_ble_eq_true rfl) (Nat.le_of_ble_eq_true rfl) dX3_isCause_41
