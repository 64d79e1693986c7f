theorem hd_X4_in : yX4_in.cls ≠ "java/lang/invoke/MethodHandle" ∧ yX4_in.cls ≠ "java/lang/invoke/VarHandle" ∧ (parseMethodDescriptor yX4_in.desc).map (fun d => d.parameters.length) = some 3 := by decide +kernel
set_option maxHeartbeats 4000000 in
set_option maxRecDepth 100000 in
theorem c_X4_in (l : Launch) (D : va_G) (g : Nat → ClassId) (v : Int32) (lo : Int32) (hi : Int32) (sz : Nat) : qMi l yX4_in (.code yX4_in cX4_in 3 (some .boolean) :: GW) ({ frames := 0, cells := 0, slots := 0, locals := 0 } : Room) D g [.int v, .int lo, .int hi] [] sz (fun (r : Int32) (_ : Unit) => bI (inB v lo hi) = r) (fun (_ : Unit) => []) 0 0 := by
  refine q_entry (cc := cX4_in) (nL := 3) (ret := (some .boolean)) rfl (by decide) (Nat.le_of_ble_eq_true rfl) (fun pp ee ss mm bb mt kc ls C hRt hLk hin hsz hW hl => ?_)
  have hl : lv_has ls 3 [(0, .int v), (1, .int lo), (2, .int hi)] := hl
  refine lv_iload_n C.1 C.2.1 dX4_in_0 rfl (lv_at hl 0 rfl) ?_
  refine lv_iload_n C.1 C.2.1 dX4_in_1 rfl (lv_at hl 1 rfl) ?_
  refine lv_icmp_lt (tgt := 14) C.1 C.2.1 dX4_in_2 (by decide) (fun c_2 => ?_) (fun c_2 => ?_)
  · refine lv_iconst (v := nI 0) C.1 C.2.1 dX4_in_14 (by decide) ?_
    exact q_iret C hRt hLk hW (by decide) () (Eq.symm (by unfold inB; rw [if_pos c_2]; rfl)) rfl (Nat.le_of_ble_eq_true rfl) (Nat.le_of_ble_eq_true rfl) dX4_in_15
  refine lv_iload_n C.1 C.2.1 dX4_in_5 rfl (lv_at hl 0 rfl) ?_
  refine lv_iload_n C.1 C.2.1 dX4_in_6 rfl (lv_at hl 2 rfl) ?_
  refine lv_icmp_gt (tgt := 14) C.1 C.2.1 dX4_in_7 (by decide) (fun c_7 => ?_) (fun c_7 => ?_)
  · refine lv_iconst (v := nI 0) C.1 C.2.1 dX4_in_14 (by decide) ?_
    exact q_iret C hRt hLk hW (by decide) () (Eq.symm (by unfold inB; rw [if_neg c_2, if_pos c_7]; rfl)) rfl (Nat.le_of_ble_eq_true rfl) (Nat.le_of_ble_eq_true rfl) dX4_in_15
  refine lv_iconst (v := nI 1) C.1 C.2.1 dX4_in_10 (by decide) ?_
  refine lv_goto (tgt := 15) C.1 C.2.1 dX4_in_11 (by decide) ?_
  exact q_iret C hRt hLk hW (by decide) () (Eq.symm (by unfold inB; rw [if_neg c_2, if_neg c_7]; rfl)) rfl (Nat.le_of_ble_eq_true rfl) (Nat.le_of_ble_eq_true rfl) dX4_in_15

set_option maxHeartbeats 4000000 in
set_option maxRecDepth 100000 in
theorem c_X4_in_N (l : Launch) (D : va_G) (g : Nat → ClassId) (x : Nat) (lo : Nat) (hi : Nat) (hx : x < 2 ^ 31) (hlo : lo < 2 ^ 31) (hhi : hi < 2 ^ 31) (sz : Nat) : qMi l yX4_in (.code yX4_in cX4_in 3 (some .boolean) :: GW) ({ frames := 0, cells := 0, slots := 0, locals := 0 } : Room) D g [.int (nI x), .int (nI lo), .int (nI hi)] [] sz (fun (r : Int32) (_ : Unit) => bI (decide (lo ≤ x ∧ x ≤ hi)) = r) (fun (_ : Unit) => []) 0 0 := by
  refine q_entry (cc := cX4_in) (nL := 3) (ret := (some .boolean)) rfl (by decide) (Nat.le_of_ble_eq_true rfl) (fun pp ee ss mm bb mt kc ls C hRt hLk hin hsz hW hl => ?_)
  have hl : lv_has ls 3 [(0, .int (nI x)), (1, .int (nI lo)), (2, .int (nI hi))] := hl
  refine lv_iload_n C.1 C.2.1 dX4_in_0 rfl (lv_at hl 0 rfl) ?_
  refine lv_iload_n C.1 C.2.1 dX4_in_1 rfl (lv_at hl 1 rfl) ?_
  refine q_lt (tgt := 14) C (by omega) (by omega) dX4_in_2 (by decide) (fun c_2 => ?_) (fun c_2 => ?_)
  · refine lv_iconst (v := nI 0) C.1 C.2.1 dX4_in_14 (by decide) ?_
    exact q_iret C hRt hLk hW (by decide) () (Eq.symm (by rw [decide_eq_false (by omega)]; rfl)) rfl (Nat.le_of_ble_eq_true rfl) (Nat.le_of_ble_eq_true rfl) dX4_in_15
  refine lv_iload_n C.1 C.2.1 dX4_in_5 rfl (lv_at hl 0 rfl) ?_
  refine lv_iload_n C.1 C.2.1 dX4_in_6 rfl (lv_at hl 2 rfl) ?_
  refine q_gt (tgt := 14) C (by omega) (by omega) dX4_in_7 (by decide) (fun c_7 => ?_) (fun c_7 => ?_)
  · refine lv_iconst (v := nI 0) C.1 C.2.1 dX4_in_14 (by decide) ?_
    exact q_iret C hRt hLk hW (by decide) () (Eq.symm (by rw [decide_eq_false (by omega)]; rfl)) rfl (Nat.le_of_ble_eq_true rfl) (Nat.le_of_ble_eq_true rfl) dX4_in_15
  refine lv_iconst (v := nI 1) C.1 C.2.1 dX4_in_10 (by decide) ?_
  refine lv_goto (tgt := 15) C.1 C.2.1 dX4_in_11 (by decide) ?_
  exact q_iret C hRt hLk hW (by decide) () (Eq.symm (by rw [decide_eq_true (by omega)]; rfl)) rfl (Nat.le_of_ble_eq_true rfl) (Nat.le_of_ble_eq_true rfl) dX4_in_15

theorem hd_X4_isCore : yX4_isCore.cls ≠ "java/lang/invoke/MethodHandle" ∧ yX4_isCore.cls ≠ "java/lang/invoke/VarHandle" ∧ (parseMethodDescriptor yX4_isCore.desc).map (fun d => d.parameters.length) = some 1 := by decide +kernel
set_option maxHeartbeats 4000000 in
set_option maxRecDepth 100000 in
theorem c_X4_isCore (l : Launch) (D : va_G) (g : Nat → ClassId) (v : Int32) (sz : Nat) : qMi l yX4_isCore (.code yX4_isCore cX4_isCore 1 (some .boolean) :: GW) ({ frames := 1, cells := 0, slots := 0, locals := 22 } : Room) D g [.int v] [] sz (fun (r : Int32) (_ : Unit) => bI ((inR 4 v).isSome) = r) (fun (_ : Unit) => []) 0 0 := by
  refine q_entry (cc := cX4_isCore) (nL := 1) (ret := (some .boolean)) rfl (by decide) (Nat.le_of_ble_eq_true rfl) (fun pp ee ss mm bb mt kc ls C hRt hLk hin hsz hW hl => ?_)
  have hl : lv_has ls 1 [(0, .int v)] := hl
  refine lv_iload_n C.1 C.2.1 dX4_isCore_0 rfl (lv_at hl 0 rfl) ?_
  refine lv_iconst (v := nI 0) C.1 C.2.1 dX4_isCore_1 (by decide) ?_
  refine lv_iconst (v := nI 3) C.1 C.2.1 dX4_isCore_2 (by decide) ?_
  refine q_callSi (rest := []) C (c_X4_in l D g v (nI 0) (nI 3) _) (gw_S ml_X4_76 sm_X4_in ini_X4 cd_X4_in rfl) rfl rfl rfl hd_X4_in ⟨Nat.le_of_ble_eq_true rfl, Nat.le_of_ble_eq_true rfl⟩ hW (List.Perm.refl _) (fun (u_1 : Unit) => []) (fun _ => List.Perm.refl _) hl.1 rfl (Nat.le_of_ble_eq_true rfl) ⟨Nat.le_of_ble_eq_true rfl, Nat.le_of_ble_eq_true rfl⟩ dX4_isCore_3 (fun r_1 u_1 H locs e_1 hW => ?_)
  subst e_1
  refine q_to (y := bI ((inR 4 v).isSome)) (by rw [inB_lit (by omega)]) ?_
  exact q_iret C hRt hLk hW (narB _) () rfl rfl (Nat.le_of_ble_eq_true rfl) (Nat.le_of_ble_eq_true rfl) dX4_isCore_6

theorem hd_X4_isLine : yX4_isLine.cls ≠ "java/lang/invoke/MethodHandle" ∧ yX4_isLine.cls ≠ "java/lang/invoke/VarHandle" ∧ (parseMethodDescriptor yX4_isLine.desc).map (fun d => d.parameters.length) = some 1 := by decide +kernel
set_option maxHeartbeats 4000000 in
set_option maxRecDepth 100000 in
theorem c_X4_isLine (l : Launch) (D : va_G) (g : Nat → ClassId) (v : Int32) (sz : Nat) : qMi l yX4_isLine (.code yX4_isLine cX4_isLine 1 (some .boolean) :: GW) ({ frames := 1, cells := 0, slots := 0, locals := 22 } : Room) D g [.int v] [] sz (fun (r : Int32) (_ : Unit) => bI ((inR 64 v).isSome) = r) (fun (_ : Unit) => []) 0 0 := by
  refine q_entry (cc := cX4_isLine) (nL := 1) (ret := (some .boolean)) rfl (by decide) (Nat.le_of_ble_eq_true rfl) (fun pp ee ss mm bb mt kc ls C hRt hLk hin hsz hW hl => ?_)
  have hl : lv_has ls 1 [(0, .int v)] := hl
  refine lv_iload_n C.1 C.2.1 dX4_isLine_0 rfl (lv_at hl 0 rfl) ?_
  refine lv_iconst (v := nI 0) C.1 C.2.1 dX4_isLine_1 (by decide) ?_
  refine lv_bipush (v := nI 63) C.1 C.2.1 dX4_isLine_2 (by decide) ?_
  refine q_callSi (rest := []) C (c_X4_in l D g v (nI 0) (nI 63) _) (gw_S ml_X4_76 sm_X4_in ini_X4 cd_X4_in rfl) rfl rfl rfl hd_X4_in ⟨Nat.le_of_ble_eq_true rfl, Nat.le_of_ble_eq_true rfl⟩ hW (List.Perm.refl _) (fun (u_1 : Unit) => []) (fun _ => List.Perm.refl _) hl.1 rfl (Nat.le_of_ble_eq_true rfl) ⟨Nat.le_of_ble_eq_true rfl, Nat.le_of_ble_eq_true rfl⟩ dX4_isLine_4 (fun r_1 u_1 H locs e_1 hW => ?_)
  subst e_1
  refine q_to (y := bI ((inR 64 v).isSome)) (by rw [inB_lit (by omega)]) ?_
  exact q_iret C hRt hLk hW (narB _) () rfl rfl (Nat.le_of_ble_eq_true rfl) (Nat.le_of_ble_eq_true rfl) dX4_isLine_7

theorem hd_X4_at : yX4_at.cls ≠ "java/lang/invoke/MethodHandle" ∧ yX4_at.cls ≠ "java/lang/invoke/VarHandle" ∧ (parseMethodDescriptor yX4_at.desc).map (fun d => d.parameters.length) = some 2 := by decide +kernel
set_option maxHeartbeats 4000000 in
set_option maxRecDepth 100000 in
theorem c_X4_at (l : Launch) (D : va_G) (g : Nat → ClassId) (c : Nat) (k : Nat) (sz : Nat) : qMi l yX4_at (.code yX4_at cX4_at 2 (some .int) :: GW) ({ frames := 0, cells := 0, slots := 0, locals := 0 } : Room) D g [.int (nI c), .int (nI k)] [] sz (fun (r : Int32) (_ : Unit) => nI (64 * c + k) = r) (fun (_ : Unit) => []) 0 0 := by
  refine q_entry (cc := cX4_at) (nL := 2) (ret := (some .int)) rfl (by decide) (Nat.le_of_ble_eq_true rfl) (fun pp ee ss mm bb mt kc ls C hRt hLk hin hsz hW hl => ?_)
  have hl : lv_has ls 2 [(0, .int (nI c)), (1, .int (nI k))] := hl
  refine lv_bipush (v := nI 64) C.1 C.2.1 dX4_at_0 (by decide) ?_
  refine lv_iload_n C.1 C.2.1 dX4_at_2 rfl (lv_at hl 0 rfl) ?_
  refine q_imul C dX4_at_3 ?_
  refine lv_iload_n C.1 C.2.1 dX4_at_4 rfl (lv_at hl 1 rfl) ?_
  refine q_iadd C dX4_at_5 ?_
  exact q_iret C hRt hLk hW rfl () rfl rfl (Nat.le_of_ble_eq_true rfl) (Nat.le_of_ble_eq_true rfl) dX4_at_6

theorem hd_X4_isCause : yX4_isCause.cls ≠ "java/lang/invoke/MethodHandle" ∧ yX4_isCause.cls ≠ "java/lang/invoke/VarHandle" ∧ (parseMethodDescriptor yX4_isCause.desc).map (fun d => d.parameters.length) = some 1 := by decide +kernel
set_option maxHeartbeats 4000000 in
set_option maxRecDepth 100000 in
theorem c_X4_isCause (l : Launch) (D : va_G) (g : Nat → ClassId) (z : UInt16) (sz : Nat) : qMi l yX4_isCause (.code yX4_isCause cX4_isCause 1 (some .boolean) :: GW) ({ frames := 0, cells := 0, slots := 0, locals := 0 } : Room) D g [.int (cI z)] [] sz (fun (r : Int32) (_ : Unit) => bI (isCz z) = r) (fun (_ : Unit) => []) 0 0 := by
  refine q_entry (cc := cX4_isCause) (nL := 1) (ret := (some .boolean)) rfl (by decide) (Nat.le_of_ble_eq_true rfl) (fun pp ee ss mm bb mt kc ls C hRt hLk hin hsz hW hl => ?_)
  have hl : lv_has ls 1 [(0, .int (cI z))] := hl
  refine lv_iload_n C.1 C.2.1 dX4_isCause_0 rfl (lv_at hl 0 rfl) ?_
  refine lv_bipush (v := nI 104) C.1 C.2.1 dX4_isCause_1 (by decide) ?_
  refine q_ceq (tgt := 36) (y := 104) C (by decide) dX4_isCause_3 (by decide) (fun c_3 => ?_) (fun c_3 => ?_)
  · refine lv_iconst (v := nI 1) C.1 C.2.1 dX4_isCause_36 (by decide) ?_
    refine lv_goto (tgt := 41) C.1 C.2.1 dX4_isCause_37 (by decide) ?_
    exact q_iret C hRt hLk hW (by decide) () (Eq.symm (by unfold isCz; rw [decide_eq_true (Or.inl c_3)]; rfl)) rfl (Nat.le_of_ble_eq_true rfl) (Nat.le_of_ble_eq_true rfl) dX4_isCause_41
  refine lv_iload_n C.1 C.2.1 dX4_isCause_6 rfl (lv_at hl 0 rfl) ?_
  refine lv_bipush (v := nI 117) C.1 C.2.1 dX4_isCause_7 (by decide) ?_
  refine q_ceq (tgt := 36) (y := 117) C (by decide) dX4_isCause_9 (by decide) (fun c_9 => ?_) (fun c_9 => ?_)
  · refine lv_iconst (v := nI 1) C.1 C.2.1 dX4_isCause_36 (by decide) ?_
    refine lv_goto (tgt := 41) C.1 C.2.1 dX4_isCause_37 (by decide) ?_
    exact q_iret C hRt hLk hW (by decide) () (Eq.symm (by unfold isCz; rw [decide_eq_true (Or.inr (Or.inl c_9))]; rfl)) rfl (Nat.le_of_ble_eq_true rfl) (Nat.le_of_ble_eq_true rfl) dX4_isCause_41
  refine lv_iload_n C.1 C.2.1 dX4_isCause_12 rfl (lv_at hl 0 rfl) ?_
  refine lv_bipush (v := nI 99) C.1 C.2.1 dX4_isCause_13 (by decide) ?_
  refine q_ceq (tgt := 36) (y := 99) C (by decide) dX4_isCause_15 (by decide) (fun c_15 => ?_) (fun c_15 => ?_)
  · refine lv_iconst (v := nI 1) C.1 C.2.1 dX4_isCause_36 (by decide) ?_
    refine lv_goto (tgt := 41) C.1 C.2.1 dX4_isCause_37 (by decide) ?_
    exact q_iret C hRt hLk hW (by decide) () (Eq.symm (by unfold isCz; rw [decide_eq_true (Or.inr (Or.inr (Or.inl c_15)))]; rfl)) rfl (Nat.le_of_ble_eq_true rfl) (Nat.le_of_ble_eq_true rfl) dX4_isCause_41
  refine lv_iload_n C.1 C.2.1 dX4_isCause_18 rfl (lv_at hl 0 rfl) ?_
  refine lv_bipush (v := nI 101) C.1 C.2.1 dX4_isCause_19 (by decide) ?_
  refine q_ceq (tgt := 36) (y := 101) C (by decide) dX4_isCause_21 (by decide) (fun c_21 => ?_) (fun c_21 => ?_)
  · refine lv_iconst (v := nI 1) C.1 C.2.1 dX4_isCause_36 (by decide) ?_
    refine lv_goto (tgt := 41) C.1 C.2.1 dX4_isCause_37 (by decide) ?_
    exact q_iret C hRt hLk hW (by decide) () (Eq.symm (by unfold isCz; rw [decide_eq_true (Or.inr (Or.inr (Or.inr (Or.inl c_21))))]; rfl)) rfl (Nat.le_of_ble_eq_true rfl) (Nat.le_of_ble_eq_true rfl) dX4_isCause_41
  refine lv_iload_n C.1 C.2.1 dX4_isCause_24 rfl (lv_at hl 0 rfl) ?_
  refine lv_bipush (v := nI 116) C.1 C.2.1 dX4_isCause_25 (by decide) ?_
  refine q_ceq (tgt := 36) (y := 116) C (by decide) dX4_isCause_27 (by decide) (fun c_27 => ?_) (fun c_27 => ?_)
  · refine lv_iconst (v := nI 1) C.1 C.2.1 dX4_isCause_36 (by decide) ?_
    refine lv_goto (tgt := 41) C.1 C.2.1 dX4_isCause_37 (by decide) ?_
    exact q_iret C hRt hLk hW (by decide) () (Eq.symm (by unfold isCz; rw [decide_eq_true (Or.inr (Or.inr (Or.inr (Or.inr (Or.inl c_27)))))]; rfl)) rfl (Nat.le_of_ble_eq_true rfl) (Nat.le_of_ble_eq_true rfl) dX4_isCause_41
  refine lv_iload_n C.1 C.2.1 dX4_isCause_30 rfl (lv_at hl 0 rfl) ?_
  refine lv_bipush (v := nI 102) C.1 C.2.1 dX4_isCause_31 (by decide) ?_
  refine q_cne (tgt := 40) (y := 102) C (by decide) dX4_isCause_33 (by decide) (fun c_33 => ?_) (fun c_33 => ?_)
  · refine lv_iconst (v := nI 0) C.1 C.2.1 dX4_isCause_40 (by decide) ?_
    exact q_iret C hRt hLk hW (by decide) () (Eq.symm (by unfold isCz; rw [decide_eq_false (fun h9 => h9.elim c_3 (fun h9 => h9.elim c_9 (fun h9 => h9.elim c_15 (fun h9 => h9.elim c_21 (fun h9 => h9.elim c_27 c_33)))))]; rfl)) rfl (Nat.le_of_ble_eq_true rfl) (Nat.le_of_ble_eq_true rfl) dX4_isCause_41
  refine lv_iconst (v := nI 1) C.1 C.2.1 dX4_isCause_36 (by decide) ?_
  refine lv_goto (tgt := 41) C.1 C.2.1 dX4_isCause_37 (by decide) ?_
  exact q_iret C hRt hLk hW (by decide) () (Eq.symm (by unfold isCz; rw [decide_eq_true (Or.inr (Or.inr (Or.inr (Or.inr (Or.inr c_33)))))]; rfl)) rfl (Nat.le_of_ble_eq_true rfl) (Nat.le_of_ble_eq_true rfl) dX4_isCause_41

theorem hd_X4_thrown : yX4_thrown.cls = RX4 ∧ yX4_thrown.cls ≠ "java/lang/invoke/MethodHandle" ∧ yX4_thrown.cls ≠ "java/lang/invoke/VarHandle" ∧ (parseMethodDescriptor yX4_thrown.desc).map (fun d => d.parameters.length) = some 0 := by decide +kernel
set_option maxHeartbeats 4000000 in
set_option maxRecDepth 100000 in
theorem c_X4_thrown (l : Launch) (D : va_G) (g : Nat → ClassId) (h : Nat) (a : Nat → Nat) (M : MdS) (hM : MOK M) (sz : Nat) : qMi l yX4_thrown (.code yX4_thrown cX4_thrown 1 (some .int) :: GW) ({ frames := 0, cells := 0, slots := 0, locals := 0 } : Room) D g [.ref h] (wM g h a M) sz (fun (r : Int32) (u : MdS) => nI (mTh M) = r ∧ M = u) (fun (u : MdS) => (wM g h a u)) 0 0 := by
  refine q_entry (cc := cX4_thrown) (nL := 1) (ret := (some .int)) rfl (by decide) (Nat.le_of_ble_eq_true rfl) (fun pp ee ss mm bb mt kc ls C hRt hLk hin hsz hW hl => ?_)
  have hl : lv_has ls 1 [(0, .ref h)] := hl
  have h12 := hM.1
  have hcp1 := hM.2.2.2.2.1
  have hcp2 := hM.2.2.2.2.2.2
  refine lv_aload_n C.1 C.2.1 dX4_thrown_0 rfl (lv_at hl 0 rfl) ?_
  refine q_get (v := .int (nI (mTh M))) C hW 0 rfl rfl 17 (by decide) gu_X4 (C.2.2.2.2 _ fl_X4_63) rfl rfl dX4_thrown_1 ?_
  exact q_iret C hRt hLk hW rfl M ⟨rfl, rfl⟩  rfl (Nat.le_of_ble_eq_true rfl) (Nat.le_of_ble_eq_true rfl) dX4_thrown_4

theorem hd_X4_checked : yX4_checked.cls = RX4 ∧ yX4_checked.cls ≠ "java/lang/invoke/MethodHandle" ∧ yX4_checked.cls ≠ "java/lang/invoke/VarHandle" ∧ (parseMethodDescriptor yX4_checked.desc).map (fun d => d.parameters.length) = some 1 := by decide +kernel
set_option maxHeartbeats 4000000 in
set_option maxRecDepth 100000 in
theorem c_X4_checked_T (l : Launch) (D : va_G) (g : Nat → ClassId) (h : Nat) (a : Nat → Nat) (M : MdS) (hM : MOK M) (sz : Nat) : qMi l yX4_checked (.code yX4_checked cX4_checked 2 (some .int) :: GW) ({ frames := 0, cells := 0, slots := 0, locals := 0 } : Room) D g [.ref h, .int (bI true)] (wM g h a M) sz (fun (r : Int32) (u : MdS) => nI 0 = r ∧ (sTh M 0) = u) (fun (u : MdS) => (wM g h a u)) 0 0 := by
  refine q_entry (cc := cX4_checked) (nL := 2) (ret := (some .int)) rfl (by decide) (Nat.le_of_ble_eq_true rfl) (fun pp ee ss mm bb mt kc ls C hRt hLk hin hsz hW hl => ?_)
  have hl : lv_has ls 2 [(0, .ref h), (1, .int (bI true))] := hl
  have h12 := hM.1
  have hcp1 := hM.2.2.2.2.1
  have hcp2 := hM.2.2.2.2.2.2
  refine lv_aload_n C.1 C.2.1 dX4_checked_0 rfl (lv_at hl 0 rfl) ?_
  refine lv_iload_n C.1 C.2.1 dX4_checked_1 rfl (lv_at hl 1 rfl) ?_
  refine q_bt (b := true) (tgt := 9) C dX4_checked_2 (by decide) (fun c_2 => absurd c_2 (by decide)) (fun c_2 => ?_)
  refine lv_iconst (v := nI 0) C.1 C.2.1 dX4_checked_5 (by decide) ?_
  refine lv_goto (tgt := 10) C.1 C.2.1 dX4_checked_6 (by decide) ?_
  refine q_put C hW 0 rfl rfl 17 (by decide) gu_X4 tyX4_ok nmX4 (C.2.2.2.2 _ fl_X4_63) rfl rfl rfl rfl (Nat.le_of_ble_eq_true rfl) (wMc g h a (mWd M) (mPl M) (mSt M) (mUs M) (mLb M) (mNw M) (mAh M) (mMs M) (mLm M) (mLs M) (mFe M) (mUf M) (mWr M) (mCo M) (mNa M) (mCr M) (mCa M) 0 (mNm M) (mAc M) (mCk M) (mCp M)) rfl dX4_checked_10 (fun H locs hW => ?_)
  refine lv_aload_n C.1 C.2.1 dX4_checked_13 rfl (lv_at hl 0 rfl) ?_
  refine q_get (v := .int (nI 0)) C hW 0 rfl rfl 17 (by decide) gu_X4 (C.2.2.2.2 _ fl_X4_63) rfl rfl dX4_checked_14 ?_
  exact q_iret C hRt hLk hW rfl (mWd M, mPl M, mSt M, mUs M, mLb M, mNw M, mAh M, mMs M, mLm M, mLs M, mFe M, mUf M, mWr M, mCo M, mNa M, mCr M, mCa M, 0, mNm M, mAc M, mCk M, mCp M) ⟨rfl, rfl⟩  rfl (Nat.le_of_ble_eq_true rfl) (Nat.le_of_ble_eq_true rfl) dX4_checked_17

set_option maxHeartbeats 4000000 in
set_option maxRecDepth 100000 in
theorem c_X4_checked_F (l : Launch) (D : va_G) (g : Nat → ClassId) (h : Nat) (a : Nat → Nat) (M : MdS) (hM : MOK M) (sz : Nat) : qMi l yX4_checked (.code yX4_checked cX4_checked 2 (some .int) :: GW) ({ frames := 0, cells := 0, slots := 0, locals := 0 } : Room) D g [.ref h, .int (bI false)] (wM g h a M) sz (fun (r : Int32) (u : MdS) => nI 1 = r ∧ (sTh M 1) = u) (fun (u : MdS) => (wM g h a u)) 0 0 := by
  refine q_entry (cc := cX4_checked) (nL := 2) (ret := (some .int)) rfl (by decide) (Nat.le_of_ble_eq_true rfl) (fun pp ee ss mm bb mt kc ls C hRt hLk hin hsz hW hl => ?_)
  have hl : lv_has ls 2 [(0, .ref h), (1, .int (bI false))] := hl
  have h12 := hM.1
  have hcp1 := hM.2.2.2.2.1
  have hcp2 := hM.2.2.2.2.2.2
  refine lv_aload_n C.1 C.2.1 dX4_checked_0 rfl (lv_at hl 0 rfl) ?_
  refine lv_iload_n C.1 C.2.1 dX4_checked_1 rfl (lv_at hl 1 rfl) ?_
  refine q_bt (b := false) (tgt := 9) C dX4_checked_2 (by decide) (fun c_2 => ?_) (fun c_2 => absurd c_2 (by decide))
  refine lv_iconst (v := nI 1) C.1 C.2.1 dX4_checked_9 (by decide) ?_
  refine q_put C hW 0 rfl rfl 17 (by decide) gu_X4 tyX4_ok nmX4 (C.2.2.2.2 _ fl_X4_63) rfl rfl rfl rfl (Nat.le_of_ble_eq_true rfl) (wMc g h a (mWd M) (mPl M) (mSt M) (mUs M) (mLb M) (mNw M) (mAh M) (mMs M) (mLm M) (mLs M) (mFe M) (mUf M) (mWr M) (mCo M) (mNa M) (mCr M) (mCa M) 1 (mNm M) (mAc M) (mCk M) (mCp M)) rfl dX4_checked_10 (fun H locs hW => ?_)
  refine lv_aload_n C.1 C.2.1 dX4_checked_13 rfl (lv_at hl 0 rfl) ?_
  refine q_get (v := .int (nI 1)) C hW 0 rfl rfl 17 (by decide) gu_X4 (C.2.2.2.2 _ fl_X4_63) rfl rfl dX4_checked_14 ?_
  exact q_iret C hRt hLk hW rfl (mWd M, mPl M, mSt M, mUs M, mLb M, mNw M, mAh M, mMs M, mLm M, mLs M, mFe M, mUf M, mWr M, mCo M, mNa M, mCr M, mCa M, 1, mNm M, mAc M, mCk M, mCp M) ⟨rfl, rfl⟩  rfl (Nat.le_of_ble_eq_true rfl) (Nat.le_of_ble_eq_true rfl) dX4_checked_17

theorem hd_X4_isName : yX4_isName.cls = RX4 ∧ yX4_isName.cls ≠ "java/lang/invoke/MethodHandle" ∧ yX4_isName.cls ≠ "java/lang/invoke/VarHandle" ∧ (parseMethodDescriptor yX4_isName.desc).map (fun d => d.parameters.length) = some 1 := by decide +kernel
set_option maxHeartbeats 4000000 in
set_option maxRecDepth 100000 in
theorem c_X4_isName (l : Launch) (D : va_G) (g : Nat → ClassId) (h : Nat) (a : Nat → Nat) (M : MdS) (v : Int32) (hM : MOK M) (sz : Nat) : qMi l yX4_isName (.code yX4_isName cX4_isName 2 (some .boolean) :: GW) ({ frames := 1, cells := 0, slots := 0, locals := 22 } : Room) D g [.ref h, .int v] (wM g h a M) sz (fun (r : Int32) (u : MdS) => bI ((inR (mNm M) v).isSome) = r ∧ M = u) (fun (u : MdS) => (wM g h a u)) 0 0 := by
  refine q_entry (cc := cX4_isName) (nL := 2) (ret := (some .boolean)) rfl (by decide) (Nat.le_of_ble_eq_true rfl) (fun pp ee ss mm bb mt kc ls C hRt hLk hin hsz hW hl => ?_)
  have hl : lv_has ls 2 [(0, .ref h), (1, .int v)] := hl
  have h12 := hM.1
  have hcp1 := hM.2.2.2.2.1
  have hcp2 := hM.2.2.2.2.2.2
  refine lv_iload_n C.1 C.2.1 dX4_isName_0 rfl (lv_at hl 1 rfl) ?_
  refine lv_iconst (v := nI 0) C.1 C.2.1 dX4_isName_1 (by decide) ?_
  refine lv_aload_n C.1 C.2.1 dX4_isName_2 rfl (lv_at hl 0 rfl) ?_
  refine q_get (v := .int (nI (mNm M))) C hW 0 rfl rfl 18 (by decide) gu_X4 (C.2.2.2.2 _ fl_X4_67) rfl rfl dX4_isName_3 ?_
  refine lv_iconst (v := nI 1) C.1 C.2.1 dX4_isName_6 (by decide) ?_
  refine lv_isub C.1 C.2.1 dX4_isName_7 ?_
  refine q_callSi (rest := []) C (c_X4_in l D g v (nI 0) ((nI (mNm M)) - (nI 1)) _) (gw_S ml_X4_76 sm_X4_in ini_X4 cd_X4_in rfl) rfl rfl rfl hd_X4_in ⟨Nat.le_of_ble_eq_true rfl, Nat.le_of_ble_eq_true rfl⟩ hW (List.Perm.refl _) (fun (u_1 : Unit) => (wM g h a M)) (fun _ => List.Perm.refl _) hl.1 rfl (Nat.le_of_ble_eq_true rfl) ⟨Nat.le_of_ble_eq_true rfl, Nat.le_of_ble_eq_true rfl⟩ dX4_isName_8 (fun r_1 u_1 H locs e_1 hW => ?_)
  subst e_1
  refine q_to (y := bI ((inR (mNm M) v).isSome)) (by rw [inB_inR (by omega)]) ?_
  exact q_iret C hRt hLk hW (narB _) M ⟨rfl, rfl⟩  rfl (Nat.le_of_ble_eq_true rfl) (Nat.le_of_ble_eq_true rfl) dX4_isName_11

set_option maxHeartbeats 4000000 in
set_option maxRecDepth 100000 in
theorem c_X4_isName_V (l : Launch) (D : va_G) (g : Nat → ClassId) (h : Nat) (a : Nat → Nat) (M : MdS) (n : Nat) (hM : MOK M) (hn : n < mNm M) (sz : Nat) : qMi l yX4_isName (.code yX4_isName cX4_isName 2 (some .boolean) :: GW) ({ frames := 1, cells := 0, slots := 0, locals := 22 } : Room) D g [.ref h, .int (nI n)] (wM g h a M) sz (fun (r : Int32) (u : MdS) => bI true = r ∧ M = u) (fun (u : MdS) => (wM g h a u)) 0 0 := by
  refine q_entry (cc := cX4_isName) (nL := 2) (ret := (some .boolean)) rfl (by decide) (Nat.le_of_ble_eq_true rfl) (fun pp ee ss mm bb mt kc ls C hRt hLk hin hsz hW hl => ?_)
  have hl : lv_has ls 2 [(0, .ref h), (1, .int (nI n))] := hl
  have h12 := hM.1
  have hcp1 := hM.2.2.2.2.1
  have hcp2 := hM.2.2.2.2.2.2
  refine lv_iload_n C.1 C.2.1 dX4_isName_0 rfl (lv_at hl 1 rfl) ?_
  refine lv_iconst (v := nI 0) C.1 C.2.1 dX4_isName_1 (by decide) ?_
  refine lv_aload_n C.1 C.2.1 dX4_isName_2 rfl (lv_at hl 0 rfl) ?_
  refine q_get (v := .int (nI (mNm M))) C hW 0 rfl rfl 18 (by decide) gu_X4 (C.2.2.2.2 _ fl_X4_67) rfl rfl dX4_isName_3 ?_
  refine lv_iconst (v := nI 1) C.1 C.2.1 dX4_isName_6 (by decide) ?_
  refine lv_isub C.1 C.2.1 dX4_isName_7 ?_
  refine q_callSi (rest := []) C (c_X4_in l D g (nI n) (nI 0) ((nI (mNm M)) - (nI 1)) _) (gw_S ml_X4_76 sm_X4_in ini_X4 cd_X4_in rfl) rfl rfl rfl hd_X4_in ⟨Nat.le_of_ble_eq_true rfl, Nat.le_of_ble_eq_true rfl⟩ hW (List.Perm.refl _) (fun (u_1 : Unit) => (wM g h a M)) (fun _ => List.Perm.refl _) hl.1 rfl (Nat.le_of_ble_eq_true rfl) ⟨Nat.le_of_ble_eq_true rfl, Nat.le_of_ble_eq_true rfl⟩ dX4_isName_8 (fun r_1 u_1 H locs e_1 hW => ?_)
  subst e_1
  refine q_to (y := bI ((inR (mNm M) (nI n)).isSome)) (by rw [inB_inR (by omega)]) ?_
  exact q_iret C hRt hLk hW (narB _) M ⟨(Eq.symm (by rw [inR_nI hn (by omega)]; rfl)), rfl⟩  rfl (Nat.le_of_ble_eq_true rfl) (Nat.le_of_ble_eq_true rfl) dX4_isName_11

theorem hd_X4_isAccess : yX4_isAccess.cls = RX4 ∧ yX4_isAccess.cls ≠ "java/lang/invoke/MethodHandle" ∧ yX4_isAccess.cls ≠ "java/lang/invoke/VarHandle" ∧ (parseMethodDescriptor yX4_isAccess.desc).map (fun d => d.parameters.length) = some 1 := by decide +kernel
set_option maxHeartbeats 4000000 in
set_option maxRecDepth 100000 in
theorem c_X4_isAccess (l : Launch) (D : va_G) (g : Nat → ClassId) (h : Nat) (a : Nat → Nat) (M : MdS) (v : Int32) (hM : MOK M) (sz : Nat) : qMi l yX4_isAccess (.code yX4_isAccess cX4_isAccess 2 (some .boolean) :: GW) ({ frames := 1, cells := 0, slots := 0, locals := 22 } : Room) D g [.ref h, .int v] (wM g h a M) sz (fun (r : Int32) (u : MdS) => bI ((inR (mAc M) v).isSome) = r ∧ M = u) (fun (u : MdS) => (wM g h a u)) 0 0 := by
  refine q_entry (cc := cX4_isAccess) (nL := 2) (ret := (some .boolean)) rfl (by decide) (Nat.le_of_ble_eq_true rfl) (fun pp ee ss mm bb mt kc ls C hRt hLk hin hsz hW hl => ?_)
  have hl : lv_has ls 2 [(0, .ref h), (1, .int v)] := hl
  have h12 := hM.1
  have hcp1 := hM.2.2.2.2.1
  have hcp2 := hM.2.2.2.2.2.2
  refine lv_iload_n C.1 C.2.1 dX4_isAccess_0 rfl (lv_at hl 1 rfl) ?_
  refine lv_iconst (v := nI 0) C.1 C.2.1 dX4_isAccess_1 (by decide) ?_
  refine lv_aload_n C.1 C.2.1 dX4_isAccess_2 rfl (lv_at hl 0 rfl) ?_
  refine q_get (v := .int (nI (mAc M))) C hW 0 rfl rfl 19 (by decide) gu_X4 (C.2.2.2.2 _ fl_X4_70) rfl rfl dX4_isAccess_3 ?_
  refine lv_iconst (v := nI 1) C.1 C.2.1 dX4_isAccess_6 (by decide) ?_
  refine lv_isub C.1 C.2.1 dX4_isAccess_7 ?_
  refine q_callSi (rest := []) C (c_X4_in l D g v (nI 0) ((nI (mAc M)) - (nI 1)) _) (gw_S ml_X4_76 sm_X4_in ini_X4 cd_X4_in rfl) rfl rfl rfl hd_X4_in ⟨Nat.le_of_ble_eq_true rfl, Nat.le_of_ble_eq_true rfl⟩ hW (List.Perm.refl _) (fun (u_1 : Unit) => (wM g h a M)) (fun _ => List.Perm.refl _) hl.1 rfl (Nat.le_of_ble_eq_true rfl) ⟨Nat.le_of_ble_eq_true rfl, Nat.le_of_ble_eq_true rfl⟩ dX4_isAccess_8 (fun r_1 u_1 H locs e_1 hW => ?_)
  subst e_1
  refine q_to (y := bI ((inR (mAc M) v).isSome)) (by rw [inB_inR (by omega)]) ?_
  exact q_iret C hRt hLk hW (narB _) M ⟨rfl, rfl⟩  rfl (Nat.le_of_ble_eq_true rfl) (Nat.le_of_ble_eq_true rfl) dX4_isAccess_11

theorem hd_X4_has : yX4_has.cls = RX4 ∧ yX4_has.cls ≠ "java/lang/invoke/MethodHandle" ∧ yX4_has.cls ≠ "java/lang/invoke/VarHandle" ∧ (parseMethodDescriptor yX4_has.desc).map (fun d => d.parameters.length) = some 2 := by decide +kernel
set_option maxHeartbeats 4000000 in
set_option maxRecDepth 100000 in
theorem c_X4_has (l : Launch) (D : va_G) (g : Nat → ClassId) (h : Nat) (a : Nat → Nat) (M : MdS) (c : Nat) (k : Nat) (hM : MOK M) (hc : c < 4) (hk : k < 64) (sz : Nat) : qMi l yX4_has (.code yX4_has cX4_has 3 (some .boolean) :: GW) ({ frames := 1, cells := 0, slots := 0, locals := 21 } : Room) D g [.ref h, .int (nI c), .int (nI k)] (wM g h a M) sz (fun (r : Int32) (u : MdS) => bI (hasM M (64 * c + k)) = r ∧ M = u) (fun (u : MdS) => (wM g h a u)) 0 0 := by
  refine q_entry (cc := cX4_has) (nL := 3) (ret := (some .boolean)) rfl (by decide) (Nat.le_of_ble_eq_true rfl) (fun pp ee ss mm bb mt kc ls C hRt hLk hin hsz hW hl => ?_)
  have hl : lv_has ls 3 [(0, .ref h), (1, .int (nI c)), (2, .int (nI k))] := hl
  have h12 := hM.1
  have hcp1 := hM.2.2.2.2.1
  have hcp2 := hM.2.2.2.2.2.2
  refine lv_aload_n C.1 C.2.1 dX4_has_0 rfl (lv_at hl 0 rfl) ?_
  refine q_get (v := .ref (a 2)) C hW 0 rfl rfl 2 (by decide) gu_X4 (C.2.2.2.2 _ fl_X4_16) rfl rfl dX4_has_1 ?_
  refine lv_iload_n C.1 C.2.1 dX4_has_4 rfl (lv_at hl 1 rfl) ?_
  refine lv_iload_n C.1 C.2.1 dX4_has_5 rfl (lv_at hl 2 rfl) ?_
  refine q_callSi (rest := [.ref (a 2)]) C (c_X4_at l D g c k _) (gw_S ml_X4_100 sm_X4_at ini_X4 cd_X4_at rfl) rfl rfl rfl hd_X4_at ⟨Nat.le_of_ble_eq_true rfl, Nat.le_of_ble_eq_true rfl⟩ hW (List.Perm.refl _) (fun (u_1 : Unit) => (wM g h a M)) (fun _ => List.Perm.refl _) hl.1 rfl (Nat.le_of_ble_eq_true rfl) ⟨Nat.le_of_ble_eq_true rfl, Nat.le_of_ble_eq_true rfl⟩ dX4_has_6 (fun r_1 u_1 H locs e_1 hW => ?_)
  subst e_1
  refine q_caldC (f := mSt M) C hW 3 rfl (k := 64 * c + k) (by omega) (by decide) dX4_has_9 ?_
  refine lv_bipush (v := nI 45) C.1 C.2.1 dX4_has_10 (by decide) ?_
  refine q_ceq (tgt := 19) (y := 45) C (by decide) dX4_has_12 (by decide) (fun c_12 => ?_) (fun c_12 => ?_)
  · refine lv_iconst (v := nI 0) C.1 C.2.1 dX4_has_19 (by decide) ?_
    exact q_iret C hRt hLk hW (by decide) M ⟨(Eq.symm (by rw [hasM_f c_12]; rfl)), rfl⟩  rfl (Nat.le_of_ble_eq_true rfl) (Nat.le_of_ble_eq_true rfl) dX4_has_20
  refine lv_iconst (v := nI 1) C.1 C.2.1 dX4_has_15 (by decide) ?_
  refine lv_goto (tgt := 20) C.1 C.2.1 dX4_has_16 (by decide) ?_
  exact q_iret C hRt hLk hW (by decide) M ⟨(Eq.symm (by rw [hasM_t c_12]; rfl)), rfl⟩  rfl (Nat.le_of_ble_eq_true rfl) (Nat.le_of_ble_eq_true rfl) dX4_has_20

theorem hd_X4_ownerOf : yX4_ownerOf.cls = RX4 ∧ yX4_ownerOf.cls ≠ "java/lang/invoke/MethodHandle" ∧ yX4_ownerOf.cls ≠ "java/lang/invoke/VarHandle" ∧ (parseMethodDescriptor yX4_ownerOf.desc).map (fun d => d.parameters.length) = some 1 := by decide +kernel
set_option maxHeartbeats 4000000 in
set_option maxRecDepth 100000 in
theorem c_X4_ownerOf (l : Launch) (D : va_G) (g : Nat → ClassId) (h : Nat) (a : Nat → Nat) (M : MdS) (k : Nat) (hM : MOK M) (hk : k < 64) (sz : Nat) : qMi l yX4_ownerOf (.code yX4_ownerOf cX4_ownerOf 3 (some .int) :: GW) ({ frames := 1, cells := 0, slots := 0, locals := 21 } : Room) D g [.ref h, .int (nI k)] (wM g h a M) sz (fun (r : Int32) (u : MdS) => oI (mOwner M k) = r ∧ M = u) (fun (u : MdS) => (wM g h a u)) 0 0 := by
  refine q_entry (cc := cX4_ownerOf) (nL := 3) (ret := (some .int)) rfl (by decide) (Nat.le_of_ble_eq_true rfl) (fun pp ee ss mm bb mt kc ls C hRt hLk hin hsz hW hl => ?_)
  have hl : lv_has ls 3 [(0, .ref h), (1, .int (nI k))] := hl
  have h12 := hM.1
  have hcp1 := hM.2.2.2.2.1
  have hcp2 := hM.2.2.2.2.2.2
  refine lv_iconst (v := nI 0) C.1 C.2.1 dX4_ownerOf_0 (by decide) ?_
  refine lv_istore_n (lv' := [(2, .int (nI 0)), (0, .ref h), (1, .int (nI k))]) C.1 C.2.1 dX4_ownerOf_1 rfl hl (by decide) rfl (fun ls hl => ?_)
  have L_2 : ∀ (nf : Nat) (i : Nat) (hi : i ≤ 4) (hj : ∀ j, j < i → ownM M (64 * j + k) = false) (x2 : Int32) (e2 : x2 = nI i) (hmu : 4 - i < nf) (ls : Array Slot) (H : Heap) (locs : List Loc), lv_has ls 3 [(0, .ref h), (1, .int (nI k)), (2, .int x2)] → qW D g (va_A (wM g h a M) sz) ss.heap ss (wM g h a M) H locs → W pp l ee ({ frames := 1, cells := 0, slots := 0, locals := 21 } : Room) ss mm [.ref h, .int (nI k)].toArray bb mt kc H locs 0 0 (MQ bb (va_Qi (fun (r : Int32) (u : MdS) => oI (mOwner M k) = r ∧ M = u) (qB D g (wM g h a M) sz (fun (u : MdS) => (wM g h a u))) (va_A (wM g h a M) sz)) [.ref h, .int (nI k)].toArray ss 0 0 (va_A (wM g h a M) sz)) (F0 mm 2 ls []) := by
    intro nf
    induction nf with
    | zero =>
      intro i hi hj x2 e2 hmu ls H locs hl hW
      exact absurd hmu (by omega)
    | succ nf ih =>
      intro i hi hj x2 e2 hmu ls H locs hl hW
      subst e2
      refine lv_iload_n C.1 C.2.1 dX4_ownerOf_2 rfl (lv_at hl 2 rfl) ?_
      refine lv_iconst (v := nI 4) C.1 C.2.1 dX4_ownerOf_3 (by decide) ?_
      refine q_ge (tgt := 45) C (by omega) (by omega) dX4_ownerOf_4 (by decide) (fun c_4 => ?_) (fun c_4 => ?_)
      · refine lv_iconst (v := (-1)) C.1 C.2.1 dX4_ownerOf_45 (by decide) ?_
        exact q_iret C hRt hLk hW rfl M ⟨(Eq.symm (by unfold mOwner; rw [srch_none (fun j hj9 => hj j (by omega))]; rfl)), rfl⟩  rfl (Nat.le_of_ble_eq_true rfl) (Nat.le_of_ble_eq_true rfl) dX4_ownerOf_46
      refine lv_aload_n C.1 C.2.1 dX4_ownerOf_7 rfl (lv_at hl 0 rfl) ?_
      refine q_get (v := .ref (a 2)) C hW 0 rfl rfl 2 (by decide) gu_X4 (C.2.2.2.2 _ fl_X4_16) rfl rfl dX4_ownerOf_8 ?_
      refine lv_iload_n C.1 C.2.1 dX4_ownerOf_11 rfl (lv_at hl 2 rfl) ?_
      refine lv_iload_n C.1 C.2.1 dX4_ownerOf_12 rfl (lv_at hl 1 rfl) ?_
      refine q_callSi (rest := [.ref (a 2)]) C (c_X4_at l D g i k _) (gw_S ml_X4_100 sm_X4_at ini_X4 cd_X4_at rfl) rfl rfl rfl hd_X4_at ⟨Nat.le_of_ble_eq_true rfl, Nat.le_of_ble_eq_true rfl⟩ hW (List.Perm.refl _) (fun (u_1 : Unit) => (wM g h a M)) (fun _ => List.Perm.refl _) hl.1 rfl (Nat.le_of_ble_eq_true rfl) ⟨Nat.le_of_ble_eq_true rfl, Nat.le_of_ble_eq_true rfl⟩ dX4_ownerOf_13 (fun r_1 u_1 H locs e_1 hW => ?_)
      subst e_1
      refine q_caldC (f := mSt M) C hW 3 rfl (k := 64 * i + k) (by omega) (by decide) dX4_ownerOf_16 ?_
      refine lv_bipush (v := nI 109) C.1 C.2.1 dX4_ownerOf_17 (by decide) ?_
      refine q_ceq (tgt := 37) (y := 109) C (by decide) dX4_ownerOf_19 (by decide) (fun c_19 => ?_) (fun c_19 => ?_)
      · refine lv_iload_n C.1 C.2.1 dX4_ownerOf_37 rfl (lv_at hl 2 rfl) ?_
        exact q_iret C hRt hLk hW rfl M ⟨(Eq.symm (by unfold mOwner; rw [srch_some (i := i) hj (by omega) (ownM_1 c_19)]; rfl)), rfl⟩  rfl (Nat.le_of_ble_eq_true rfl) (Nat.le_of_ble_eq_true rfl) dX4_ownerOf_38
      refine lv_aload_n C.1 C.2.1 dX4_ownerOf_22 rfl (lv_at hl 0 rfl) ?_
      refine q_get (v := .ref (a 2)) C hW 0 rfl rfl 2 (by decide) gu_X4 (C.2.2.2.2 _ fl_X4_16) rfl rfl dX4_ownerOf_23 ?_
      refine lv_iload_n C.1 C.2.1 dX4_ownerOf_26 rfl (lv_at hl 2 rfl) ?_
      refine lv_iload_n C.1 C.2.1 dX4_ownerOf_27 rfl (lv_at hl 1 rfl) ?_
      refine q_callSi (rest := [.ref (a 2)]) C (c_X4_at l D g i k _) (gw_S ml_X4_100 sm_X4_at ini_X4 cd_X4_at rfl) rfl rfl rfl hd_X4_at ⟨Nat.le_of_ble_eq_true rfl, Nat.le_of_ble_eq_true rfl⟩ hW (List.Perm.refl _) (fun (u_2 : Unit) => (wM g h a M)) (fun _ => List.Perm.refl _) hl.1 rfl (Nat.le_of_ble_eq_true rfl) ⟨Nat.le_of_ble_eq_true rfl, Nat.le_of_ble_eq_true rfl⟩ dX4_ownerOf_28 (fun r_2 u_2 H locs e_2 hW => ?_)
      subst e_2
      refine q_caldC (f := mSt M) C hW 3 rfl (k := 64 * i + k) (by omega) (by decide) dX4_ownerOf_31 ?_
      refine lv_bipush (v := nI 101) C.1 C.2.1 dX4_ownerOf_32 (by decide) ?_
      refine q_cne (tgt := 39) (y := 101) C (by decide) dX4_ownerOf_34 (by decide) (fun c_34 => ?_) (fun c_34 => ?_)
      · refine q_iinc (d := 1) (lv' := [(2, .int (nI (i + 1))), (0, .ref h), (1, .int (nI k))]) C dX4_ownerOf_39 (by decide) hl (k := 2) rfl (by decide) rfl (fun ls hl => ?_)
        refine lv_goto (tgt := 2) C.1 C.2.1 dX4_ownerOf_42 (by decide) ?_
        exact ih (i + 1) (by omega) (fun j hj9 => (Nat.lt_succ_iff_lt_or_eq.mp hj9).elim (hj j) (fun e9 => by rw [e9]; exact ownM_f c_19 c_34)) _ rfl (by omega) ls _ _ (lv_sub hl [1, 2, 0] rfl) hW
      refine lv_iload_n C.1 C.2.1 dX4_ownerOf_37 rfl (lv_at hl 2 rfl) ?_
      exact q_iret C hRt hLk hW rfl M ⟨(Eq.symm (by unfold mOwner; rw [srch_some (i := i) hj (by omega) (ownM_2 c_34)]; rfl)), rfl⟩  rfl (Nat.le_of_ble_eq_true rfl) (Nat.le_of_ble_eq_true rfl) dX4_ownerOf_38
  exact L_2 (4 - 0 + 1) 0 (by omega) (fun j hj9 => absurd hj9 (by omega)) _ rfl (by omega) ls _ _ (lv_sub hl [1, 2, 0] rfl) hW

theorem hd_X4_manyIn : yX4_manyIn.cls = RX4 ∧ yX4_manyIn.cls ≠ "java/lang/invoke/MethodHandle" ∧ yX4_manyIn.cls ≠ "java/lang/invoke/VarHandle" ∧ (parseMethodDescriptor yX4_manyIn.desc).map (fun d => d.parameters.length) = some 2 := by decide +kernel
set_option maxHeartbeats 4000000 in
set_option maxRecDepth 100000 in
theorem c_X4_manyIn (l : Launch) (D : va_G) (g : Nat → ClassId) (h : Nat) (a : Nat → Nat) (M : MdS) (c : Nat) (sn : Nat) (hM : MOK M) (hc : c < 4) (hs : sn < 4) (sz : Nat) : qMi l yX4_manyIn (.code yX4_manyIn cX4_manyIn 5 (some .int) :: GW) ({ frames := 2, cells := 0, slots := 0, locals := 43 } : Room) D g [.ref h, .int (nI c), .int (nI sn)] (wM g h a M) sz (fun (r : Int32) (u : MdS) => nI (mMany M c sn) = r ∧ M = u) (fun (u : MdS) => (wM g h a u)) 0 0 := by
  refine q_entry (cc := cX4_manyIn) (nL := 5) (ret := (some .int)) rfl (by decide) (Nat.le_of_ble_eq_true rfl) (fun pp ee ss mm bb mt kc ls C hRt hLk hin hsz hW hl => ?_)
  have hl : lv_has ls 5 [(0, .ref h), (1, .int (nI c)), (2, .int (nI sn))] := hl
  have h12 := hM.1
  have hcp1 := hM.2.2.2.2.1
  have hcp2 := hM.2.2.2.2.2.2
  refine lv_iconst (v := nI 0) C.1 C.2.1 dX4_manyIn_0 (by decide) ?_
  refine lv_istore_n (lv' := [(3, .int (nI 0)), (0, .ref h), (1, .int (nI c)), (2, .int (nI sn))]) C.1 C.2.1 dX4_manyIn_1 rfl hl (by decide) rfl (fun ls hl => ?_)
  refine lv_iload_n C.1 C.2.1 dX4_manyIn_2 rfl (lv_at hl 3 rfl) ?_
  refine lv_istore (lv' := [(4, .int (nI sn)), (3, .int (nI 0)), (0, .ref h), (1, .int (nI c)), (2, .int (nI sn))]) C.1 C.2.1 dX4_manyIn_3 hl (by decide) rfl (fun ls hl => ?_)
  have L_5 : ∀ (nf : Nat) (i : Nat) (hi : i ≤ 16) (x3 : Int32) (e3 : x3 = nI (cnt (fun i => hasM M (64 * c + (sn + i * 4))) i)) (x4 : Int32) (e4 : x4 = nI (sn + i * 4)) (hmu : 16 - i < nf) (ls : Array Slot) (H : Heap) (locs : List Loc), lv_has ls 5 [(0, .ref h), (1, .int (nI c)), (2, .int (nI sn)), (3, .int x3), (4, .int x4)] → qW D g (va_A (wM g h a M) sz) ss.heap ss (wM g h a M) H locs → W pp l ee ({ frames := 2, cells := 0, slots := 0, locals := 43 } : Room) ss mm [.ref h, .int (nI c), .int (nI sn)].toArray bb mt kc H locs 0 0 (MQ bb (va_Qi (fun (r : Int32) (u : MdS) => nI (mMany M c sn) = r ∧ M = u) (qB D g (wM g h a M) sz (fun (u : MdS) => (wM g h a u))) (va_A (wM g h a M) sz)) [.ref h, .int (nI c), .int (nI sn)].toArray ss 0 0 (va_A (wM g h a M) sz)) (F0 mm 5 ls []) := by
    intro nf
    induction nf with
    | zero =>
      intro i hi x3 e3 x4 e4 hmu ls H locs hl hW
      exact absurd hmu (by omega)
    | succ nf ih =>
      intro i hi x3 e3 x4 e4 hmu ls H locs hl hW
      subst e3
      subst e4
      refine lv_iload C.1 C.2.1 dX4_manyIn_5 (lv_at hl 4 rfl) ?_
      refine lv_bipush (v := nI 64) C.1 C.2.1 dX4_manyIn_7 (by decide) ?_
      refine q_ge (tgt := 36) C (by omega) (by omega) dX4_manyIn_9 (by decide) (fun c_9 => ?_) (fun c_9 => ?_)
      · refine lv_iload_n C.1 C.2.1 dX4_manyIn_36 rfl (lv_at hl 3 rfl) ?_
        exact q_iret C hRt hLk hW rfl M ⟨(Eq.symm (by obtain rfl : i = 16 := (by omega); rfl)), rfl⟩  rfl (Nat.le_of_ble_eq_true rfl) (Nat.le_of_ble_eq_true rfl) dX4_manyIn_37
      refine lv_iload_n C.1 C.2.1 dX4_manyIn_12 rfl (lv_at hl 3 rfl) ?_
      refine lv_aload_n C.1 C.2.1 dX4_manyIn_13 rfl (lv_at hl 0 rfl) ?_
      refine lv_iload_n C.1 C.2.1 dX4_manyIn_14 rfl (lv_at hl 1 rfl) ?_
      refine lv_iload C.1 C.2.1 dX4_manyIn_15 (lv_at hl 4 rfl) ?_
      refine q_callVi (rest := [.int (nI (cnt (fun i => hasM M (64 * c + (sn + i * 4))) i))]) C (c_X4_has l D g h a M c (sn + i * 4) hM (by omega) (by omega) _) (gw_V ml_X4_103 im_X4_has se_X4_X4_has ini_X4 cd_X4_has rfl) rfl rfl rfl hd_X4_has ⟨Nat.le_of_ble_eq_true rfl, Nat.le_of_ble_eq_true rfl⟩ hW pm_all (fun u_1 => (wM g h a u_1)) (fun _ => pm_all) rfl rfl hl.1 rfl (Nat.le_of_ble_eq_true rfl) ⟨Nat.le_of_ble_eq_true rfl, Nat.le_of_ble_eq_true rfl⟩ dX4_manyIn_17 (fun r_1 u_1 H locs e_1 hW => ?_)
      obtain ⟨rfl, rfl⟩ := e_1
      refine q_bt (b := hasM M (64 * c + (sn + i * 4))) (tgt := 27) C dX4_manyIn_20 (by decide) (fun c_20 => ?_) (fun c_20 => ?_)
      · refine lv_iconst (v := nI 0) C.1 C.2.1 dX4_manyIn_27 (by decide) ?_
        refine q_iadd C dX4_manyIn_28 ?_
        refine lv_istore_n (lv' := [(3, .int (nI (cnt (fun i => hasM M (64 * c + (sn + i * 4))) i + 0))), (0, .ref h), (1, .int (nI c)), (2, .int (nI sn)), (4, .int (nI (sn + i * 4)))]) C.1 C.2.1 dX4_manyIn_29 rfl hl (by decide) rfl (fun ls hl => ?_)
        refine q_iinc (d := 4) (lv' := [(4, .int (nI (sn + i * 4 + 4))), (3, .int (nI (cnt (fun i => hasM M (64 * c + (sn + i * 4))) i + 0))), (0, .ref h), (1, .int (nI c)), (2, .int (nI sn))]) C dX4_manyIn_30 (by decide) hl (k := 4) rfl (by decide) rfl (fun ls hl => ?_)
        refine lv_goto (tgt := 5) C.1 C.2.1 dX4_manyIn_33 (by decide) ?_
        exact ih (i + 1) (by omega) _ (by rw [cnt, if_neg (by rw [c_20]; decide)]) _ (by rw [show sn + (i + 1) * 4 = sn + i * 4 + 4 by omega]) (by omega) ls _ _ (lv_sub hl [2, 3, 4, 1, 0] rfl) hW
      refine lv_iconst (v := nI 1) C.1 C.2.1 dX4_manyIn_23 (by decide) ?_
      refine lv_goto (tgt := 28) C.1 C.2.1 dX4_manyIn_24 (by decide) ?_
      refine q_iadd C dX4_manyIn_28 ?_
      refine lv_istore_n (lv' := [(3, .int (nI (cnt (fun i => hasM M (64 * c + (sn + i * 4))) i + 1))), (0, .ref h), (1, .int (nI c)), (2, .int (nI sn)), (4, .int (nI (sn + i * 4)))]) C.1 C.2.1 dX4_manyIn_29 rfl hl (by decide) rfl (fun ls hl => ?_)
      refine q_iinc (d := 4) (lv' := [(4, .int (nI (sn + i * 4 + 4))), (3, .int (nI (cnt (fun i => hasM M (64 * c + (sn + i * 4))) i + 1))), (0, .ref h), (1, .int (nI c)), (2, .int (nI sn))]) C dX4_manyIn_30 (by decide) hl (k := 4) rfl (by decide) rfl (fun ls hl => ?_)
      refine lv_goto (tgt := 5) C.1 C.2.1 dX4_manyIn_33 (by decide) ?_
      exact ih (i + 1) (by omega) _ (by rw [cnt, if_pos c_20]) _ (by rw [show sn + (i + 1) * 4 = sn + i * 4 + 4 by omega]) (by omega) ls _ _ (lv_sub hl [2, 3, 4, 1, 0] rfl) hW
  exact L_5 (16 - 0 + 1) 0 (by omega) _ rfl _ (by rw [show sn + 0 * 4 = sn by omega]) (by omega) ls _ _ (lv_sub hl [2, 3, 4, 1, 0] rfl) hW

theorem hd_X4_oldestIn : yX4_oldestIn.cls = RX4 ∧ yX4_oldestIn.cls ≠ "java/lang/invoke/MethodHandle" ∧ yX4_oldestIn.cls ≠ "java/lang/invoke/VarHandle" ∧ (parseMethodDescriptor yX4_oldestIn.desc).map (fun d => d.parameters.length) = some 2 := by decide +kernel
set_option maxHeartbeats 4000000 in
set_option maxRecDepth 100000 in
theorem c_X4_oldestIn (l : Launch) (D : va_G) (g : Nat → ClassId) (h : Nat) (a : Nat → Nat) (M : MdS) (c : Nat) (sn : Nat) (hM : MOK M) (hc : c < 4) (hs : sn < 4) (sz : Nat) : qMi l yX4_oldestIn (.code yX4_oldestIn cX4_oldestIn 5 (some .int) :: GW) ({ frames := 2, cells := 0, slots := 0, locals := 43 } : Room) D g [.ref h, .int (nI c), .int (nI sn)] (wM g h a M) sz (fun (r : Int32) (u : MdS) => oI (mOldest M c sn) = r ∧ M = u) (fun (u : MdS) => (wM g h a u)) 0 0 := by
  refine q_entry (cc := cX4_oldestIn) (nL := 5) (ret := (some .int)) rfl (by decide) (Nat.le_of_ble_eq_true rfl) (fun pp ee ss mm bb mt kc ls C hRt hLk hin hsz hW hl => ?_)
  have hl : lv_has ls 5 [(0, .ref h), (1, .int (nI c)), (2, .int (nI sn))] := hl
  have h12 := hM.1
  have hcp1 := hM.2.2.2.2.1
  have hcp2 := hM.2.2.2.2.2.2
  refine lv_iconst (v := (-1)) C.1 C.2.1 dX4_oldestIn_0 (by decide) ?_
  refine lv_istore_n (lv' := [(3, .int (-1)), (0, .ref h), (1, .int (nI c)), (2, .int (nI sn))]) C.1 C.2.1 dX4_oldestIn_1 rfl hl (by decide) rfl (fun ls hl => ?_)
  refine lv_iload_n C.1 C.2.1 dX4_oldestIn_2 rfl (lv_at hl 3 rfl) ?_
  refine lv_istore (lv' := [(4, .int (nI sn)), (3, .int (-1)), (0, .ref h), (1, .int (nI c)), (2, .int (nI sn))]) C.1 C.2.1 dX4_oldestIn_3 hl (by decide) rfl (fun ls hl => ?_)
  have L_5 : ∀ (nf : Nat) (i : Nat) (hi : i ≤ 16) (x3 : Int32) (e3 : x3 = oI ((mOldI M c sn i).map (fun i => sn + i * 4))) (x4 : Int32) (e4 : x4 = nI (sn + i * 4)) (hmu : 16 - i < nf) (ls : Array Slot) (H : Heap) (locs : List Loc), lv_has ls 5 [(0, .ref h), (1, .int (nI c)), (2, .int (nI sn)), (3, .int x3), (4, .int x4)] → qW D g (va_A (wM g h a M) sz) ss.heap ss (wM g h a M) H locs → W pp l ee ({ frames := 2, cells := 0, slots := 0, locals := 43 } : Room) ss mm [.ref h, .int (nI c), .int (nI sn)].toArray bb mt kc H locs 0 0 (MQ bb (va_Qi (fun (r : Int32) (u : MdS) => oI (mOldest M c sn) = r ∧ M = u) (qB D g (wM g h a M) sz (fun (u : MdS) => (wM g h a u))) (va_A (wM g h a M) sz)) [.ref h, .int (nI c), .int (nI sn)].toArray ss 0 0 (va_A (wM g h a M) sz)) (F0 mm 5 ls []) := by
    intro nf
    induction nf with
    | zero =>
      intro i hi x3 e3 x4 e4 hmu ls H locs hl hW
      exact absurd hmu (by omega)
    | succ nf ih =>
      intro i hi x3 e3 x4 e4 hmu ls H locs hl hW
      subst e3
      subst e4
      refine lv_iload C.1 C.2.1 dX4_oldestIn_5 (lv_at hl 4 rfl) ?_
      refine lv_bipush (v := nI 64) C.1 C.2.1 dX4_oldestIn_7 (by decide) ?_
      refine q_ge (tgt := 59) C (by omega) (by omega) dX4_oldestIn_9 (by decide) (fun c_9 => ?_) (fun c_9 => ?_)
      · refine lv_iload_n C.1 C.2.1 dX4_oldestIn_59 rfl (lv_at hl 3 rfl) ?_
        exact q_iret C hRt hLk hW rfl M ⟨(Eq.symm (by obtain rfl : i = 16 := (by omega); rfl)), rfl⟩  rfl (Nat.le_of_ble_eq_true rfl) (Nat.le_of_ble_eq_true rfl) dX4_oldestIn_60
      refine lv_aload_n C.1 C.2.1 dX4_oldestIn_12 rfl (lv_at hl 0 rfl) ?_
      refine lv_iload_n C.1 C.2.1 dX4_oldestIn_13 rfl (lv_at hl 1 rfl) ?_
      refine lv_iload C.1 C.2.1 dX4_oldestIn_14 (lv_at hl 4 rfl) ?_
      refine q_callVi (rest := []) C (c_X4_has l D g h a M c (sn + i * 4) hM (by omega) (by omega) _) (gw_V ml_X4_103 im_X4_has se_X4_X4_has ini_X4 cd_X4_has rfl) rfl rfl rfl hd_X4_has ⟨Nat.le_of_ble_eq_true rfl, Nat.le_of_ble_eq_true rfl⟩ hW pm_all (fun u_1 => (wM g h a u_1)) (fun _ => pm_all) rfl rfl hl.1 rfl (Nat.le_of_ble_eq_true rfl) ⟨Nat.le_of_ble_eq_true rfl, Nat.le_of_ble_eq_true rfl⟩ dX4_oldestIn_16 (fun r_1 u_1 H locs e_1 hW => ?_)
      obtain ⟨rfl, rfl⟩ := e_1
      refine q_bt (b := hasM M (64 * c + (sn + i * 4))) (tgt := 53) C dX4_oldestIn_19 (by decide) (fun c_19 => ?_) (fun c_19 => ?_)
      · refine q_iinc (d := 4) (lv' := [(4, .int (nI (sn + i * 4 + 4))), (0, .ref h), (1, .int (nI c)), (2, .int (nI sn)), (3, .int (oI ((mOldI M c sn i).map (fun i => sn + i * 4))))]) C dX4_oldestIn_53 (by decide) hl (k := 4) rfl (by decide) rfl (fun ls hl => ?_)
        refine lv_goto (tgt := 5) C.1 C.2.1 dX4_oldestIn_56 (by decide) ?_
        exact ih (i + 1) (by omega) _ (by rw [moldS_h c_19]; try rfl) _ (by rw [show sn + (i + 1) * 4 = sn + i * 4 + 4 by omega]) (by omega) ls _ _ (lv_sub hl [1, 2, 3, 4, 0] rfl) hW
      rcases ho : mOldI M c sn i with _ | j
      · rw [ho] at hl
        have hl : lv_has ls 5 [(0, .ref h), (1, .int (nI c)), (2, .int (nI sn)), (3, .int (-1)), (4, .int (nI (sn + i * 4)))] := hl
        refine lv_iload_n C.1 C.2.1 dX4_oldestIn_22 rfl (lv_at hl 3 rfl) ?_
        refine lv_if_lt (tgt := 50) C.1 C.2.1 dX4_oldestIn_23 (by decide) (fun c_23 => ?_) (fun c_23 => absurd (by decide : (-1 : Int32) < 0) c_23)
        refine lv_iload C.1 C.2.1 dX4_oldestIn_50 (lv_at hl 4 rfl) ?_
        refine lv_istore_n (lv' := [(3, .int (nI (sn + i * 4))), (0, .ref h), (1, .int (nI c)), (2, .int (nI sn)), (4, .int (nI (sn + i * 4)))]) C.1 C.2.1 dX4_oldestIn_52 rfl hl (by decide) rfl (fun ls hl => ?_)
        refine q_iinc (d := 4) (lv' := [(4, .int (nI (sn + i * 4 + 4))), (3, .int (nI (sn + i * 4))), (0, .ref h), (1, .int (nI c)), (2, .int (nI sn))]) C dX4_oldestIn_53 (by decide) hl (k := 4) rfl (by decide) rfl (fun ls hl => ?_)
        refine lv_goto (tgt := 5) C.1 C.2.1 dX4_oldestIn_56 (by decide) ?_
        exact ih (i + 1) (by omega) _ (by rw [moldS_n ho c_19]; try rfl) _ (by rw [show sn + (i + 1) * 4 = sn + i * 4 + 4 by omega]) (by omega) ls _ _ (lv_sub hl [2, 3, 4, 1, 0] rfl) hW
      have hj := (oldI_spec ho).1
      rw [ho] at hl
      have hl : lv_has ls 5 [(0, .ref h), (1, .int (nI c)), (2, .int (nI sn)), (3, .int (nI (sn + j * 4))), (4, .int (nI (sn + i * 4)))] := hl
      refine lv_iload_n C.1 C.2.1 dX4_oldestIn_22 rfl (lv_at hl 3 rfl) ?_
      refine lv_if_lt (tgt := 50) C.1 C.2.1 dX4_oldestIn_23 (by decide) (fun c_23 => absurd c_23 (nI_pos (by omega))) (fun c_23 => ?_)
      refine lv_aload_n C.1 C.2.1 dX4_oldestIn_26 rfl (lv_at hl 0 rfl) ?_
      refine q_get (v := .ref (a 3)) C hW 0 rfl rfl 3 (by decide) gu_X4 (C.2.2.2.2 _ fl_X4_20) rfl rfl dX4_oldestIn_27 ?_
      refine lv_iload_n C.1 C.2.1 dX4_oldestIn_30 rfl (lv_at hl 1 rfl) ?_
      refine lv_iload C.1 C.2.1 dX4_oldestIn_31 (lv_at hl 4 rfl) ?_
      refine q_callSi (rest := [.ref (a 3)]) C (c_X4_at l D g c (sn + i * 4) _) (gw_S ml_X4_100 sm_X4_at ini_X4 cd_X4_at rfl) rfl rfl rfl hd_X4_at ⟨Nat.le_of_ble_eq_true rfl, Nat.le_of_ble_eq_true rfl⟩ hW (List.Perm.refl _) (fun (u_2 : Unit) => (wM g h a M)) (fun _ => List.Perm.refl _) hl.1 rfl (Nat.le_of_ble_eq_true rfl) ⟨Nat.le_of_ble_eq_true rfl, Nat.le_of_ble_eq_true rfl⟩ dX4_oldestIn_33 (fun r_2 u_2 H locs e_2 hW => ?_)
      subst e_2
      refine q_iald (f := mUs M) C hW 4 rfl (k := 64 * c + (sn + i * 4)) (by omega) (by decide) dX4_oldestIn_36 ?_
      refine lv_aload_n C.1 C.2.1 dX4_oldestIn_37 rfl (lv_at hl 0 rfl) ?_
      refine q_get (v := .ref (a 3)) C hW 0 rfl rfl 3 (by decide) gu_X4 (C.2.2.2.2 _ fl_X4_20) rfl rfl dX4_oldestIn_38 ?_
      refine lv_iload_n C.1 C.2.1 dX4_oldestIn_41 rfl (lv_at hl 1 rfl) ?_
      refine lv_iload_n C.1 C.2.1 dX4_oldestIn_42 rfl (lv_at hl 3 rfl) ?_
      refine q_callSi (rest := [.ref (a 3), .int ((mUs M) (64 * c + (sn + i * 4)))]) C (c_X4_at l D g c (sn + j * 4) _) (gw_S ml_X4_100 sm_X4_at ini_X4 cd_X4_at rfl) rfl rfl rfl hd_X4_at ⟨Nat.le_of_ble_eq_true rfl, Nat.le_of_ble_eq_true rfl⟩ hW (List.Perm.refl _) (fun (u_3 : Unit) => (wM g h a M)) (fun _ => List.Perm.refl _) hl.1 rfl (Nat.le_of_ble_eq_true rfl) ⟨Nat.le_of_ble_eq_true rfl, Nat.le_of_ble_eq_true rfl⟩ dX4_oldestIn_43 (fun r_3 u_3 H locs e_3 hW => ?_)
      subst e_3
      refine q_iald (f := mUs M) C hW 4 rfl (k := 64 * c + (sn + j * 4)) (by omega) (by decide) dX4_oldestIn_46 ?_
      refine lv_icmp_ge (tgt := 53) C.1 C.2.1 dX4_oldestIn_47 (by decide) (fun c_47 => ?_) (fun c_47 => ?_)
      · refine q_iinc (d := 4) (lv' := [(4, .int (nI (sn + i * 4 + 4))), (0, .ref h), (1, .int (nI c)), (2, .int (nI sn)), (3, .int (nI (sn + j * 4)))]) C dX4_oldestIn_53 (by decide) hl (k := 4) rfl (by decide) rfl (fun ls hl => ?_)
        refine lv_goto (tgt := 5) C.1 C.2.1 dX4_oldestIn_56 (by decide) ?_
        exact ih (i + 1) (by omega) _ (by rw [moldS_k ho (Int32.not_lt.mpr c_47)]; try rfl) _ (by rw [show sn + (i + 1) * 4 = sn + i * 4 + 4 by omega]) (by omega) ls _ _ (lv_sub hl [1, 2, 3, 4, 0] rfl) hW
      refine lv_iload C.1 C.2.1 dX4_oldestIn_50 (lv_at hl 4 rfl) ?_
      refine lv_istore_n (lv' := [(3, .int (nI (sn + i * 4))), (0, .ref h), (1, .int (nI c)), (2, .int (nI sn)), (4, .int (nI (sn + i * 4)))]) C.1 C.2.1 dX4_oldestIn_52 rfl hl (by decide) rfl (fun ls hl => ?_)
      refine q_iinc (d := 4) (lv' := [(4, .int (nI (sn + i * 4 + 4))), (3, .int (nI (sn + i * 4))), (0, .ref h), (1, .int (nI c)), (2, .int (nI sn))]) C dX4_oldestIn_53 (by decide) hl (k := 4) rfl (by decide) rfl (fun ls hl => ?_)
      refine lv_goto (tgt := 5) C.1 C.2.1 dX4_oldestIn_56 (by decide) ?_
      exact ih (i + 1) (by omega) _ (by rw [moldS_s ho c_19 (Int32.not_le.mp c_47)]; try rfl) _ (by rw [show sn + (i + 1) * 4 = sn + i * 4 + 4 by omega]) (by omega) ls _ _ (lv_sub hl [2, 3, 4, 1, 0] rfl) hW
  exact L_5 (16 - 0 + 1) 0 (by omega) _ rfl _ (by rw [show sn + 0 * 4 = sn by omega]) (by omega) ls _ _ (lv_sub hl [2, 3, 4, 1, 0] rfl) hW

theorem hd_X4_leaves : yX4_leaves.cls = RX4 ∧ yX4_leaves.cls ≠ "java/lang/invoke/MethodHandle" ∧ yX4_leaves.cls ≠ "java/lang/invoke/VarHandle" ∧ (parseMethodDescriptor yX4_leaves.desc).map (fun d => d.parameters.length) = some 3 := by decide +kernel
set_option maxHeartbeats 4000000 in
set_option maxRecDepth 100000 in
theorem c_X4_leaves (l : Launch) (D : va_G) (g : Nat → ClassId) (h : Nat) (a : Nat → Nat) (M : MdS) (c : Nat) (k : Nat) (v : Int32) (hM : MOK M) (hc : c < 4) (hk : k < 64) (sz : Nat) : qMv l yX4_leaves (.code yX4_leaves cX4_leaves 5 none :: GW) ({ frames := 1, cells := 0, slots := 0, locals := 21 } : Room) D g [.ref h, .int (nI c), .int (nI k), .int v] (wM g h a M) sz (fun (u : MdS) => (mLeaves M c k v) = u) (fun (u : MdS) => (wM g h a u)) 0 0 := by
  refine q_entry (cc := cX4_leaves) (nL := 5) (ret := none) rfl (by decide) (Nat.le_of_ble_eq_true rfl) (fun pp ee ss mm bb mt kc ls C hRt hLk hin hsz hW hl => ?_)
  have hl : lv_has ls 5 [(0, .ref h), (1, .int (nI c)), (2, .int (nI k)), (3, .int v)] := hl
  have h12 := hM.1
  have hcp1 := hM.2.2.2.2.1
  have hcp2 := hM.2.2.2.2.2.2
  refine lv_iload_n C.1 C.2.1 dX4_leaves_0 rfl (lv_at hl 1 rfl) ?_
  refine lv_iload_n C.1 C.2.1 dX4_leaves_1 rfl (lv_at hl 2 rfl) ?_
  refine q_callSi (rest := []) C (c_X4_at l D g c k _) (gw_S ml_X4_100 sm_X4_at ini_X4 cd_X4_at rfl) rfl rfl rfl hd_X4_at ⟨Nat.le_of_ble_eq_true rfl, Nat.le_of_ble_eq_true rfl⟩ hW (List.Perm.refl _) (fun (u_1 : Unit) => (wM g h a M)) (fun _ => List.Perm.refl _) hl.1 rfl (Nat.le_of_ble_eq_true rfl) ⟨Nat.le_of_ble_eq_true rfl, Nat.le_of_ble_eq_true rfl⟩ dX4_leaves_2 (fun r_1 u_1 H locs e_1 hW => ?_)
  subst e_1
  refine lv_istore (lv' := [(4, .int (nI (64 * c + k))), (0, .ref h), (1, .int (nI c)), (2, .int (nI k)), (3, .int v)]) C.1 C.2.1 dX4_leaves_5 hl (by decide) rfl (fun ls hl => ?_)
  refine lv_aload_n C.1 C.2.1 dX4_leaves_7 rfl (lv_at hl 1 rfl) ?_
  refine q_get (v := .ref (a 2)) C hW 0 rfl rfl 2 (by decide) gu_X4 (C.2.2.2.2 _ fl_X4_16) rfl rfl dX4_leaves_8 ?_
  refine lv_iload C.1 C.2.1 dX4_leaves_11 (lv_at hl 0 rfl) ?_
  refine lv_bipush (v := nI 45) C.1 C.2.1 dX4_leaves_13 (by decide) ?_
  refine q_castC C hW 3 rfl (k := 64 * c + k) (by omega) (by decide) (v := (UInt16.ofNat 45)) (wMc g h a (mWd M) (mPl M) (va_up (mSt M) (64 * c + k) (UInt16.ofNat 45)) (mUs M) (mLb M) (mNw M) (mAh M) (mMs M) (mLm M) (mLs M) (mFe M) (mUf M) (mWr M) (mCo M) (mNa M) (mCr M) (mCa M) (mTh M) (mNm M) (mAc M) (mCk M) (mCp M)) rfl dX4_leaves_15 (fun H locs hW => ?_)
  refine lv_aload_n C.1 C.2.1 dX4_leaves_16 rfl (lv_at hl 1 rfl) ?_
  refine q_get (v := .ref (a 4)) C hW 0 rfl rfl 4 (by decide) gu_X4 (C.2.2.2.2 _ fl_X4_23) rfl rfl dX4_leaves_17 ?_
  refine lv_iload C.1 C.2.1 dX4_leaves_20 (lv_at hl 0 rfl) ?_
  refine lv_iload_n C.1 C.2.1 dX4_leaves_22 rfl (lv_at hl 4 rfl) ?_
  refine q_iast C hW 5 rfl (k := 64 * c + k) (by omega) (by decide) (wMc g h a (mWd M) (mPl M) (va_up (mSt M) (64 * c + k) (UInt16.ofNat 45)) (mUs M) (upd (mLb M) (64 * c + k) v) (mNw M) (mAh M) (mMs M) (mLm M) (mLs M) (mFe M) (mUf M) (mWr M) (mCo M) (mNa M) (mCr M) (mCa M) (mTh M) (mNm M) (mAc M) (mCk M) (mCp M)) rfl dX4_leaves_23 (fun H locs hW => ?_)
  refine lv_aload_n C.1 C.2.1 dX4_leaves_24 rfl (lv_at hl 1 rfl) ?_
  refine q_get (v := .ref (a 5)) C hW 0 rfl rfl 5 (by decide) gu_X4 (C.2.2.2.2 _ fl_X4_26) rfl rfl dX4_leaves_25 ?_
  refine lv_iload C.1 C.2.1 dX4_leaves_28 (lv_at hl 0 rfl) ?_
  refine q_zaldB (f := mNw M) C hW 6 rfl (k := 64 * c + k) (by omega) (by decide) dX4_leaves_30 ?_
  refine q_bt (b := (mNw M) (64 * c + k)) (tgt := 44) C dX4_leaves_31 (by decide) (fun c_31 => ?_) (fun c_31 => ?_)
  · refine lv_aload_n C.1 C.2.1 dX4_leaves_44 rfl (lv_at hl 1 rfl) ?_
    refine q_get (v := .ref (a 5)) C hW 0 rfl rfl 5 (by decide) gu_X4 (C.2.2.2.2 _ fl_X4_26) rfl rfl dX4_leaves_45 ?_
    refine lv_iload C.1 C.2.1 dX4_leaves_48 (lv_at hl 0 rfl) ?_
    refine lv_iconst (v := nI 0) C.1 C.2.1 dX4_leaves_50 (by decide) ?_
    refine q_zastB C hW 6 rfl (k := 64 * c + k) (by omega) (by decide) (v := false) (wMc g h a (mWd M) (mPl M) (va_up (mSt M) (64 * c + k) (UInt16.ofNat 45)) (mUs M) (upd (mLb M) (64 * c + k) v) (va_up (mNw M) (64 * c + k) false) (mAh M) (mMs M) (mLm M) (mLs M) (mFe M) (mUf M) (mWr M) (mCo M) (mNa M) (mCr M) (mCa M) (mTh M) (mNm M) (mAc M) (mCk M) (mCp M)) rfl dX4_leaves_51 (fun H locs hW => ?_)
    exact q_vret C hRt hLk hW (mWd M, mPl M, va_up (mSt M) (64 * c + k) (UInt16.ofNat 45), mUs M, upd (mLb M) (64 * c + k) v, va_up (mNw M) (64 * c + k) false, mAh M, mMs M, mLm M, mLs M, mFe M, mUf M, mWr M, mCo M, mNa M, mCr M, mCa M, mTh M, mNm M, mAc M, mCk M, mCp M) (Eq.symm (by unfold mLeaves; rw [if_pos c_31]))  rfl (Nat.le_of_ble_eq_true rfl) (Nat.le_of_ble_eq_true rfl) dX4_leaves_52
  refine lv_aload_n C.1 C.2.1 dX4_leaves_34 rfl (lv_at hl 1 rfl) ?_
  refine q_get (v := .ref (a 12)) C hW 0 rfl rfl 12 (by decide) gu_X4 (C.2.2.2.2 _ fl_X4_48) rfl rfl dX4_leaves_35 ?_
  refine lv_iload_n C.1 C.2.1 dX4_leaves_38 rfl (lv_at hl 2 rfl) ?_
  refine lv_dup2_11 C.1 C.2.1 dX4_leaves_39 rfl rfl ?_
  refine q_iald (f := mWr M) C hW 13 rfl (k := c) (by omega) (by decide) dX4_leaves_40 ?_
  refine lv_iconst (v := nI 1) C.1 C.2.1 dX4_leaves_41 (by decide) ?_
  refine lv_iadd C.1 C.2.1 dX4_leaves_42 ?_
  refine q_iast C hW 13 rfl (k := c) (by omega) (by decide) (wMc g h a (mWd M) (mPl M) (va_up (mSt M) (64 * c + k) (UInt16.ofNat 45)) (mUs M) (upd (mLb M) (64 * c + k) v) (mNw M) (mAh M) (mMs M) (mLm M) (mLs M) (mFe M) (mUf M) (upd (mWr M) c (((mWr M) c) + (nI 1))) (mCo M) (mNa M) (mCr M) (mCa M) (mTh M) (mNm M) (mAc M) (mCk M) (mCp M)) rfl dX4_leaves_43 (fun H locs hW => ?_)
  refine lv_aload_n C.1 C.2.1 dX4_leaves_44 rfl (lv_at hl 1 rfl) ?_
  refine q_get (v := .ref (a 5)) C hW 0 rfl rfl 5 (by decide) gu_X4 (C.2.2.2.2 _ fl_X4_26) rfl rfl dX4_leaves_45 ?_
  refine lv_iload C.1 C.2.1 dX4_leaves_48 (lv_at hl 0 rfl) ?_
  refine lv_iconst (v := nI 0) C.1 C.2.1 dX4_leaves_50 (by decide) ?_
  refine q_zastB C hW 6 rfl (k := 64 * c + k) (by omega) (by decide) (v := false) (wMc g h a (mWd M) (mPl M) (va_up (mSt M) (64 * c + k) (UInt16.ofNat 45)) (mUs M) (upd (mLb M) (64 * c + k) v) (va_up (mNw M) (64 * c + k) false) (mAh M) (mMs M) (mLm M) (mLs M) (mFe M) (mUf M) (upd (mWr M) c (((mWr M) c) + (nI 1))) (mCo M) (mNa M) (mCr M) (mCa M) (mTh M) (mNm M) (mAc M) (mCk M) (mCp M)) rfl dX4_leaves_51 (fun H locs hW => ?_)
  exact q_vret C hRt hLk hW (mWd M, mPl M, va_up (mSt M) (64 * c + k) (UInt16.ofNat 45), mUs M, upd (mLb M) (64 * c + k) v, va_up (mNw M) (64 * c + k) false, mAh M, mMs M, mLm M, mLs M, mFe M, mUf M, upd (mWr M) c (((mWr M) c) + (nI 1)), mCo M, mNa M, mCr M, mCa M, mTh M, mNm M, mAc M, mCk M, mCp M) (Eq.symm (by unfold mLeaves; rw [if_neg (by rw [c_31]; decide)]))  rfl (Nat.le_of_ble_eq_true rfl) (Nat.le_of_ble_eq_true rfl) dX4_leaves_52

theorem hd_X4_comes : yX4_comes.cls = RX4 ∧ yX4_comes.cls ≠ "java/lang/invoke/MethodHandle" ∧ yX4_comes.cls ≠ "java/lang/invoke/VarHandle" ∧ (parseMethodDescriptor yX4_comes.desc).map (fun d => d.parameters.length) = some 3 := by decide +kernel
set_option maxHeartbeats 4000000 in
set_option maxRecDepth 100000 in
theorem c_X4_comes (l : Launch) (D : va_G) (g : Nat → ClassId) (h : Nat) (a : Nat → Nat) (M : MdS) (c : Nat) (k : Nat) (z : UInt16) (hM : MOK M) (hc : c < 4) (hk : k < 64) (sz : Nat) : qMi l yX4_comes (.code yX4_comes cX4_comes 6 (some .boolean) :: GW) ({ frames := 3, cells := 0, slots := 0, locals := 67 } : Room) D g [.ref h, .int (nI c), .int (nI k), .int (cI z)] (wM g h a M) sz (fun (r : Int32) (u : MdS) => bI ((mComes M c k z).1) = r ∧ ((mComes M c k z).2) = u) (fun (u : MdS) => (wM g h a u)) 0 0 := by
  refine q_entry (cc := cX4_comes) (nL := 6) (ret := (some .boolean)) rfl (by decide) (Nat.le_of_ble_eq_true rfl) (fun pp ee ss mm bb mt kc ls C hRt hLk hin hsz hW hl => ?_)
  have hl : lv_has ls 6 [(0, .ref h), (1, .int (nI c)), (2, .int (nI k)), (3, .int (cI z))] := hl
  have h12 := hM.1
  have hcp1 := hM.2.2.2.2.1
  have hcp2 := hM.2.2.2.2.2.2
  have L_57 : ∀ (x4 : Int32) (e4 : x4 = bI ((mRoom M c k).1)) (M2 : MdS) (eM2 : M2 = (mRoom M c k).2) (ls : Array Slot) (H : Heap) (locs : List Loc), lv_has ls 6 [(0, .ref h), (1, .int (nI c)), (2, .int (nI k)), (3, .int (cI z)), (4, .int x4)] → qW D g (va_A (wM g h a M) sz) ss.heap ss (wM g h a M2) H locs → W pp l ee ({ frames := 3, cells := 0, slots := 0, locals := 67 } : Room) ss mm [.ref h, .int (nI c), .int (nI k), .int (cI z)].toArray bb mt kc H locs 0 0 (MQ bb (va_Qi (fun (r : Int32) (u : MdS) => bI ((mComes M c k z).1) = r ∧ ((mComes M c k z).2) = u) (qB D g (wM g h a M) sz (fun (u : MdS) => (wM g h a u))) (va_A (wM g h a M) sz)) [.ref h, .int (nI c), .int (nI k), .int (cI z)].toArray ss 0 0 (va_A (wM g h a M) sz)) (F0 mm 57 ls []) := by
    intro x4 e4 M2 eM2 ls H locs hl hW
    subst e4
    refine lv_aload_n C.1 C.2.1 dX4_comes_57 rfl (lv_at hl 0 rfl) ?_
    refine q_get (v := .ref (a 2)) C hW 0 rfl rfl 2 (by decide) gu_X4 (C.2.2.2.2 _ fl_X4_16) rfl rfl dX4_comes_58 ?_
    refine lv_iload_n C.1 C.2.1 dX4_comes_61 rfl (lv_at hl 1 rfl) ?_
    refine lv_iload_n C.1 C.2.1 dX4_comes_62 rfl (lv_at hl 2 rfl) ?_
    refine q_callSi (rest := [.ref (a 2)]) C (c_X4_at l D g c k _) (gw_S ml_X4_100 sm_X4_at ini_X4 cd_X4_at rfl) rfl rfl rfl hd_X4_at ⟨Nat.le_of_ble_eq_true rfl, Nat.le_of_ble_eq_true rfl⟩ hW (List.Perm.refl _) (fun (u_1 : Unit) => (wM g h a M2)) (fun _ => List.Perm.refl _) hl.1 rfl (Nat.le_of_ble_eq_true rfl) ⟨Nat.le_of_ble_eq_true rfl, Nat.le_of_ble_eq_true rfl⟩ dX4_comes_63 (fun r_1 u_1 H locs e_1 hW => ?_)
    subst e_1
    refine lv_iload_n C.1 C.2.1 dX4_comes_66 rfl (lv_at hl 3 rfl) ?_
    refine q_castC C hW 3 rfl (k := 64 * c + k) (by omega) (by decide) (v := z) (wMc g h a (mWd M2) (mPl M2) (va_up (mSt M2) (64 * c + k) z) (mUs M2) (mLb M2) (mNw M2) (mAh M2) (mMs M2) (mLm M2) (mLs M2) (mFe M2) (mUf M2) (mWr M2) (mCo M2) (mNa M2) (mCr M2) (mCa M2) (mTh M2) (mNm M2) (mAc M2) (mCk M2) (mCp M2)) rfl dX4_comes_67 (fun H locs hW => ?_)
    refine lv_aload_n C.1 C.2.1 dX4_comes_68 rfl (lv_at hl 0 rfl) ?_
    refine lv_dup C.1 C.2.1 dX4_comes_69 rfl ?_
    refine q_get (v := .int (mCk M2)) C hW 0 rfl rfl 20 (by decide) gu_X4 (C.2.2.2.2 _ fl_X4_73) rfl rfl dX4_comes_70 ?_
    refine lv_iconst (v := nI 1) C.1 C.2.1 dX4_comes_73 (by decide) ?_
    refine lv_iadd C.1 C.2.1 dX4_comes_74 ?_
    refine q_put C hW 0 rfl rfl 20 (by decide) gu_X4 tyX4_ok nmX4 (C.2.2.2.2 _ fl_X4_73) rfl rfl rfl rfl (Nat.le_of_ble_eq_true rfl) (wMc g h a (mWd M2) (mPl M2) (va_up (mSt M2) (64 * c + k) z) (mUs M2) (mLb M2) (mNw M2) (mAh M2) (mMs M2) (mLm M2) (mLs M2) (mFe M2) (mUf M2) (mWr M2) (mCo M2) (mNa M2) (mCr M2) (mCa M2) (mTh M2) (mNm M2) (mAc M2) ((mCk M2) + (nI 1)) (mCp M2)) rfl dX4_comes_75 (fun H locs hW => ?_)
    refine lv_aload_n C.1 C.2.1 dX4_comes_78 rfl (lv_at hl 0 rfl) ?_
    refine q_get (v := .ref (a 3)) C hW 0 rfl rfl 3 (by decide) gu_X4 (C.2.2.2.2 _ fl_X4_20) rfl rfl dX4_comes_79 ?_
    refine lv_iload_n C.1 C.2.1 dX4_comes_82 rfl (lv_at hl 1 rfl) ?_
    refine lv_iload_n C.1 C.2.1 dX4_comes_83 rfl (lv_at hl 2 rfl) ?_
    refine q_callSi (rest := [.ref (a 3)]) C (c_X4_at l D g c k _) (gw_S ml_X4_100 sm_X4_at ini_X4 cd_X4_at rfl) rfl rfl rfl hd_X4_at ⟨Nat.le_of_ble_eq_true rfl, Nat.le_of_ble_eq_true rfl⟩ hW (List.Perm.refl _) (fun (u_2 : Unit) => (wMc g h a (mWd M2) (mPl M2) (va_up (mSt M2) (64 * c + k) z) (mUs M2) (mLb M2) (mNw M2) (mAh M2) (mMs M2) (mLm M2) (mLs M2) (mFe M2) (mUf M2) (mWr M2) (mCo M2) (mNa M2) (mCr M2) (mCa M2) (mTh M2) (mNm M2) (mAc M2) ((mCk M2) + (nI 1)) (mCp M2))) (fun _ => List.Perm.refl _) hl.1 rfl (Nat.le_of_ble_eq_true rfl) ⟨Nat.le_of_ble_eq_true rfl, Nat.le_of_ble_eq_true rfl⟩ dX4_comes_84 (fun r_2 u_2 H locs e_2 hW => ?_)
    subst e_2
    refine lv_aload_n C.1 C.2.1 dX4_comes_87 rfl (lv_at hl 0 rfl) ?_
    refine q_get (v := .int ((mCk M2) + (nI 1))) C hW 0 rfl rfl 20 (by decide) gu_X4 (C.2.2.2.2 _ fl_X4_73) rfl rfl dX4_comes_88 ?_
    refine q_iast C hW 4 rfl (k := 64 * c + k) (by omega) (by decide) (wMc g h a (mWd M2) (mPl M2) (va_up (mSt M2) (64 * c + k) z) (upd (mUs M2) (64 * c + k) ((mCk M2) + (nI 1))) (mLb M2) (mNw M2) (mAh M2) (mMs M2) (mLm M2) (mLs M2) (mFe M2) (mUf M2) (mWr M2) (mCo M2) (mNa M2) (mCr M2) (mCa M2) (mTh M2) (mNm M2) (mAc M2) ((mCk M2) + (nI 1)) (mCp M2)) rfl dX4_comes_91 (fun H locs hW => ?_)
    refine lv_iload C.1 C.2.1 dX4_comes_92 (lv_at hl 4 rfl) ?_
    exact q_iret C hRt hLk hW (narB _) (mWd M2, mPl M2, va_up (mSt M2) (64 * c + k) z, upd (mUs M2) (64 * c + k) ((mCk M2) + (nI 1)), mLb M2, mNw M2, mAh M2, mMs M2, mLm M2, mLs M2, mFe M2, mUf M2, mWr M2, mCo M2, mNa M2, mCr M2, mCa M2, mTh M2, mNm M2, mAc M2, (mCk M2) + (nI 1), mCp M2) ⟨(Eq.symm (by unfold mComes; dsimp only)), (Eq.symm (by unfold mComes mPut; dsimp only; rw [← eM2]))⟩  rfl (Nat.le_of_ble_eq_true rfl) (Nat.le_of_ble_eq_true rfl) dX4_comes_94
  refine lv_iconst (v := nI 0) C.1 C.2.1 dX4_comes_0 (by decide) ?_
  refine lv_istore (lv' := [(4, .int (nI 0)), (0, .ref h), (1, .int (nI c)), (2, .int (nI k)), (3, .int (cI z))]) C.1 C.2.1 dX4_comes_1 hl (by decide) rfl (fun ls hl => ?_)
  refine lv_aload_n C.1 C.2.1 dX4_comes_3 rfl (lv_at hl 1 rfl) ?_
  refine lv_iload_n C.1 C.2.1 dX4_comes_4 rfl (lv_at hl 2 rfl) ?_
  refine lv_iload_n C.1 C.2.1 dX4_comes_5 rfl (lv_at hl 3 rfl) ?_
  refine lv_iconst (v := nI 4) C.1 C.2.1 dX4_comes_6 (by decide) ?_
  refine q_irem C (by omega) (by omega) (by omega) dX4_comes_7 ?_
  refine q_callVi (rest := []) C (c_X4_manyIn l D g h a M c (k % 4) hM (by omega) (by omega) _) (gw_V ml_X4_106 im_X4_manyIn se_X4_X4_manyIn ini_X4 cd_X4_manyIn rfl) rfl rfl rfl hd_X4_manyIn ⟨Nat.le_of_ble_eq_true rfl, Nat.le_of_ble_eq_true rfl⟩ hW pm_all (fun u_3 => (wM g h a u_3)) (fun _ => pm_all) rfl rfl hl.1 rfl (Nat.le_of_ble_eq_true rfl) ⟨Nat.le_of_ble_eq_true rfl, Nat.le_of_ble_eq_true rfl⟩ dX4_comes_8 (fun r_3 u_3 H locs e_3 hW => ?_)
  obtain ⟨rfl, rfl⟩ := e_3
  have hm9 := mMany_le M c (k % 4)
  refine lv_iconst (v := nI 2) C.1 C.2.1 dX4_comes_11 (by decide) ?_
  refine q_ne (tgt := 57) C (by omega) (by omega) dX4_comes_12 (by decide) (fun c_12 => ?_) (fun c_12 => ?_)
  · exact L_57  _ (by unfold mRoom; rw [if_neg c_12]; rfl) M (by unfold mRoom; rw [if_neg c_12]) ls _ _ (lv_sub hl [1, 2, 3, 4, 0] rfl) hW
  refine lv_aload_n C.1 C.2.1 dX4_comes_15 rfl (lv_at hl 1 rfl) ?_
  refine lv_iload_n C.1 C.2.1 dX4_comes_16 rfl (lv_at hl 2 rfl) ?_
  refine lv_iload_n C.1 C.2.1 dX4_comes_17 rfl (lv_at hl 3 rfl) ?_
  refine lv_iconst (v := nI 4) C.1 C.2.1 dX4_comes_18 (by decide) ?_
  refine q_irem C (by omega) (by omega) (by omega) dX4_comes_19 ?_
  refine q_callVi (rest := []) C (c_X4_oldestIn l D g h a M c (k % 4) hM (by omega) (by omega) _) (gw_V ml_X4_109 im_X4_oldestIn se_X4_X4_oldestIn ini_X4 cd_X4_oldestIn rfl) rfl rfl rfl hd_X4_oldestIn ⟨Nat.le_of_ble_eq_true rfl, Nat.le_of_ble_eq_true rfl⟩ hW pm_all (fun u_4 => (wM g h a u_4)) (fun _ => pm_all) rfl rfl hl.1 rfl (Nat.le_of_ble_eq_true rfl) ⟨Nat.le_of_ble_eq_true rfl, Nat.le_of_ble_eq_true rfl⟩ dX4_comes_20 (fun r_4 u_4 H locs e_4 hW => ?_)
  obtain ⟨rfl, rfl⟩ := e_4
  obtain ⟨j, ho⟩ := mOldest_some (M := M) (c := c) (s := k % 4) (by omega)
  have hj4 := (mOldest_spec ho (by omega)).1
  refine q_to (y := nI j) (by rw [ho]; rfl) ?_
  refine lv_istore (lv' := [(5, .int (nI j)), (4, .int (nI 0)), (0, .ref h), (1, .int (nI c)), (2, .int (nI k)), (3, .int (cI z))]) C.1 C.2.1 dX4_comes_23 hl (by decide) rfl (fun ls hl => ?_)
  refine lv_aload_n C.1 C.2.1 dX4_comes_25 rfl (lv_at hl 2 rfl) ?_
  refine q_get (v := .ref (a 2)) C hW 0 rfl rfl 2 (by decide) gu_X4 (C.2.2.2.2 _ fl_X4_16) rfl rfl dX4_comes_26 ?_
  refine lv_iload_n C.1 C.2.1 dX4_comes_29 rfl (lv_at hl 3 rfl) ?_
  refine lv_iload C.1 C.2.1 dX4_comes_30 (lv_at hl 0 rfl) ?_
  refine q_callSi (rest := [.ref (a 2)]) C (c_X4_at l D g c j _) (gw_S ml_X4_100 sm_X4_at ini_X4 cd_X4_at rfl) rfl rfl rfl hd_X4_at ⟨Nat.le_of_ble_eq_true rfl, Nat.le_of_ble_eq_true rfl⟩ hW (List.Perm.refl _) (fun (u_5 : Unit) => (wM g h a M)) (fun _ => List.Perm.refl _) hl.1 rfl (Nat.le_of_ble_eq_true rfl) ⟨Nat.le_of_ble_eq_true rfl, Nat.le_of_ble_eq_true rfl⟩ dX4_comes_32 (fun r_5 u_5 H locs e_5 hW => ?_)
  subst e_5
  refine q_caldC (f := mSt M) C hW 3 rfl (k := 64 * c + j) (by omega) (by decide) dX4_comes_35 ?_
  refine lv_bipush (v := nI 109) C.1 C.2.1 dX4_comes_36 (by decide) ?_
  refine q_cne (tgt := 45) (y := 109) C (by decide) dX4_comes_38 (by decide) (fun c_38 => ?_) (fun c_38 => ?_)
  · refine lv_iconst (v := nI 0) C.1 C.2.1 dX4_comes_45 (by decide) ?_
    refine lv_istore (lv' := [(4, .int (nI 0)), (5, .int (nI j)), (0, .ref h), (1, .int (nI c)), (2, .int (nI k)), (3, .int (cI z))]) C.1 C.2.1 dX4_comes_46 hl (by decide) rfl (fun ls hl => ?_)
    refine lv_aload_n C.1 C.2.1 dX4_comes_48 rfl (lv_at hl 2 rfl) ?_
    refine lv_iload_n C.1 C.2.1 dX4_comes_49 rfl (lv_at hl 3 rfl) ?_
    refine lv_iload C.1 C.2.1 dX4_comes_50 (lv_at hl 1 rfl) ?_
    refine lv_bipush (v := (-2)) C.1 C.2.1 dX4_comes_52 (by decide) ?_
    refine q_callVv (rest := []) C (c_X4_leaves l D g h a M c j (-2) hM (by omega) (by omega) _) (gw_V ml_X4_112 im_X4_leaves se_X4_X4_leaves ini_X4 cd_X4_leaves rfl) rfl rfl rfl hd_X4_leaves ⟨Nat.le_of_ble_eq_true rfl, Nat.le_of_ble_eq_true rfl⟩ hW pm_all (fun u_6 => (wM g h a u_6)) (fun _ => pm_all) rfl rfl hl.1 rfl (Nat.le_of_ble_eq_true rfl) ⟨Nat.le_of_ble_eq_true rfl, Nat.le_of_ble_eq_true rfl⟩ dX4_comes_54 (fun u_6 H locs e_6 hW => ?_)
    skip
    exact L_57  _ (by unfold mRoom; rw [if_pos c_12, ho]; dsimp only; rw [decide_eq_false c_38]; rfl) u_6 (by unfold mRoom; rw [if_pos c_12, ho]; dsimp only; exact e_6.symm) ls _ _ (lv_sub hl [2, 3, 4, 5, 0] rfl) hW
  refine lv_iconst (v := nI 1) C.1 C.2.1 dX4_comes_41 (by decide) ?_
  refine lv_goto (tgt := 46) C.1 C.2.1 dX4_comes_42 (by decide) ?_
  refine lv_istore (lv' := [(4, .int (nI 1)), (5, .int (nI j)), (0, .ref h), (1, .int (nI c)), (2, .int (nI k)), (3, .int (cI z))]) C.1 C.2.1 dX4_comes_46 hl (by decide) rfl (fun ls hl => ?_)
  refine lv_aload_n C.1 C.2.1 dX4_comes_48 rfl (lv_at hl 2 rfl) ?_
  refine lv_iload_n C.1 C.2.1 dX4_comes_49 rfl (lv_at hl 3 rfl) ?_
  refine lv_iload C.1 C.2.1 dX4_comes_50 (lv_at hl 1 rfl) ?_
  refine lv_bipush (v := (-2)) C.1 C.2.1 dX4_comes_52 (by decide) ?_
  refine q_callVv (rest := []) C (c_X4_leaves l D g h a M c j (-2) hM (by omega) (by omega) _) (gw_V ml_X4_112 im_X4_leaves se_X4_X4_leaves ini_X4 cd_X4_leaves rfl) rfl rfl rfl hd_X4_leaves ⟨Nat.le_of_ble_eq_true rfl, Nat.le_of_ble_eq_true rfl⟩ hW pm_all (fun u_7 => (wM g h a u_7)) (fun _ => pm_all) rfl rfl hl.1 rfl (Nat.le_of_ble_eq_true rfl) ⟨Nat.le_of_ble_eq_true rfl, Nat.le_of_ble_eq_true rfl⟩ dX4_comes_54 (fun u_7 H locs e_7 hW => ?_)
  skip
  exact L_57  _ (by unfold mRoom; rw [if_pos c_12, ho]; dsimp only; rw [decide_eq_true c_38]; rfl) u_7 (by unfold mRoom; rw [if_pos c_12, ho]; dsimp only; exact e_7.symm) ls _ _ (lv_sub hl [2, 3, 4, 5, 0] rfl) hW

theorem hd_X4_othersWith : yX4_othersWith.cls = RX4 ∧ yX4_othersWith.cls ≠ "java/lang/invoke/MethodHandle" ∧ yX4_othersWith.cls ≠ "java/lang/invoke/VarHandle" ∧ (parseMethodDescriptor yX4_othersWith.desc).map (fun d => d.parameters.length) = some 2 := by decide +kernel
set_option maxHeartbeats 4000000 in
set_option maxRecDepth 100000 in
theorem c_X4_othersWith (l : Launch) (D : va_G) (g : Nat → ClassId) (h : Nat) (a : Nat → Nat) (M : MdS) (v : Int32) (k : Nat) (hM : MOK M) (hk : k < 64) (sz : Nat) : qMi l yX4_othersWith (.code yX4_othersWith cX4_othersWith 5 (some .int) :: GW) ({ frames := 2, cells := 0, slots := 0, locals := 43 } : Room) D g [.ref h, .int v, .int (nI k)] (wM g h a M) sz (fun (r : Int32) (u : MdS) => nI (mOthers M v k) = r ∧ M = u) (fun (u : MdS) => (wM g h a u)) 0 0 := by
  refine q_entry (cc := cX4_othersWith) (nL := 5) (ret := (some .int)) rfl (by decide) (Nat.le_of_ble_eq_true rfl) (fun pp ee ss mm bb mt kc ls C hRt hLk hin hsz hW hl => ?_)
  have hl : lv_has ls 5 [(0, .ref h), (1, .int v), (2, .int (nI k))] := hl
  have h12 := hM.1
  have hcp1 := hM.2.2.2.2.1
  have hcp2 := hM.2.2.2.2.2.2
  refine lv_iconst (v := nI 0) C.1 C.2.1 dX4_othersWith_0 (by decide) ?_
  refine lv_istore_n (lv' := [(3, .int (nI 0)), (0, .ref h), (1, .int v), (2, .int (nI k))]) C.1 C.2.1 dX4_othersWith_1 rfl hl (by decide) rfl (fun ls hl => ?_)
  refine lv_iconst (v := nI 0) C.1 C.2.1 dX4_othersWith_2 (by decide) ?_
  refine lv_istore (lv' := [(4, .int (nI 0)), (3, .int (nI 0)), (0, .ref h), (1, .int v), (2, .int (nI k))]) C.1 C.2.1 dX4_othersWith_3 hl (by decide) rfl (fun ls hl => ?_)
  have L_5 : ∀ (nf : Nat) (i : Nat) (hi : i ≤ 4) (x3 : Int32) (e3 : x3 = nI (cnt (fun q => decide (¬ nI q = v) && hasM M (64 * q + k)) i)) (x4 : Int32) (e4 : x4 = nI i) (hmu : 4 - i < nf) (ls : Array Slot) (H : Heap) (locs : List Loc), lv_has ls 5 [(0, .ref h), (1, .int v), (2, .int (nI k)), (3, .int x3), (4, .int x4)] → qW D g (va_A (wM g h a M) sz) ss.heap ss (wM g h a M) H locs → W pp l ee ({ frames := 2, cells := 0, slots := 0, locals := 43 } : Room) ss mm [.ref h, .int v, .int (nI k)].toArray bb mt kc H locs 0 0 (MQ bb (va_Qi (fun (r : Int32) (u : MdS) => nI (mOthers M v k) = r ∧ M = u) (qB D g (wM g h a M) sz (fun (u : MdS) => (wM g h a u))) (va_A (wM g h a M) sz)) [.ref h, .int v, .int (nI k)].toArray ss 0 0 (va_A (wM g h a M) sz)) (F0 mm 5 ls []) := by
    intro nf
    induction nf with
    | zero =>
      intro i hi x3 e3 x4 e4 hmu ls H locs hl hW
      exact absurd hmu (by omega)
    | succ nf ih =>
      intro i hi x3 e3 x4 e4 hmu ls H locs hl hW
      subst e3
      subst e4
      refine lv_iload C.1 C.2.1 dX4_othersWith_5 (lv_at hl 4 rfl) ?_
      refine lv_iconst (v := nI 4) C.1 C.2.1 dX4_othersWith_7 (by decide) ?_
      refine q_ge (tgt := 41) C (by omega) (by omega) dX4_othersWith_8 (by decide) (fun c_8 => ?_) (fun c_8 => ?_)
      · refine lv_iload_n C.1 C.2.1 dX4_othersWith_41 rfl (lv_at hl 3 rfl) ?_
        exact q_iret C hRt hLk hW rfl M ⟨(Eq.symm (by obtain rfl : i = 4 := (by omega); rfl)), rfl⟩  rfl (Nat.le_of_ble_eq_true rfl) (Nat.le_of_ble_eq_true rfl) dX4_othersWith_42
      refine lv_iload_n C.1 C.2.1 dX4_othersWith_11 rfl (lv_at hl 3 rfl) ?_
      refine lv_iload C.1 C.2.1 dX4_othersWith_12 (lv_at hl 4 rfl) ?_
      refine lv_iload_n C.1 C.2.1 dX4_othersWith_14 rfl (lv_at hl 1 rfl) ?_
      refine lv_icmp_eq (tgt := 32) C.1 C.2.1 dX4_othersWith_15 (by decide) (fun c_15 => ?_) (fun c_15 => ?_)
      · refine lv_iconst (v := nI 0) C.1 C.2.1 dX4_othersWith_32 (by decide) ?_
        refine q_iadd C dX4_othersWith_33 ?_
        refine lv_istore_n (lv' := [(3, .int (nI (cnt (fun q => decide (¬ nI q = v) && hasM M (64 * q + k)) i + 0))), (0, .ref h), (1, .int v), (2, .int (nI k)), (4, .int (nI i))]) C.1 C.2.1 dX4_othersWith_34 rfl hl (by decide) rfl (fun ls hl => ?_)
        refine q_iinc (d := 1) (lv' := [(4, .int (nI (i + 1))), (3, .int (nI (cnt (fun q => decide (¬ nI q = v) && hasM M (64 * q + k)) i + 0))), (0, .ref h), (1, .int v), (2, .int (nI k))]) C dX4_othersWith_35 (by decide) hl (k := 4) rfl (by decide) rfl (fun ls hl => ?_)
        refine lv_goto (tgt := 5) C.1 C.2.1 dX4_othersWith_38 (by decide) ?_
        exact ih (i + 1) (by omega) _ (by rw [cnt, if_neg (by rw [decide_eq_false (fun z => z c_15), Bool.false_and]; decide)]) _ rfl (by omega) ls _ _ (lv_sub hl [2, 3, 4, 1, 0] rfl) hW
      refine lv_aload_n C.1 C.2.1 dX4_othersWith_18 rfl (lv_at hl 0 rfl) ?_
      refine lv_iload C.1 C.2.1 dX4_othersWith_19 (lv_at hl 4 rfl) ?_
      refine lv_iload_n C.1 C.2.1 dX4_othersWith_21 rfl (lv_at hl 2 rfl) ?_
      refine q_callVi (rest := [.int (nI (cnt (fun q => decide (¬ nI q = v) && hasM M (64 * q + k)) i))]) C (c_X4_has l D g h a M i k hM (by omega) (by omega) _) (gw_V ml_X4_103 im_X4_has se_X4_X4_has ini_X4 cd_X4_has rfl) rfl rfl rfl hd_X4_has ⟨Nat.le_of_ble_eq_true rfl, Nat.le_of_ble_eq_true rfl⟩ hW pm_all (fun u_1 => (wM g h a u_1)) (fun _ => pm_all) rfl rfl hl.1 rfl (Nat.le_of_ble_eq_true rfl) ⟨Nat.le_of_ble_eq_true rfl, Nat.le_of_ble_eq_true rfl⟩ dX4_othersWith_22 (fun r_1 u_1 H locs e_1 hW => ?_)
      obtain ⟨rfl, rfl⟩ := e_1
      refine q_bt (b := hasM M (64 * i + k)) (tgt := 32) C dX4_othersWith_25 (by decide) (fun c_25 => ?_) (fun c_25 => ?_)
      · refine lv_iconst (v := nI 0) C.1 C.2.1 dX4_othersWith_32 (by decide) ?_
        refine q_iadd C dX4_othersWith_33 ?_
        refine lv_istore_n (lv' := [(3, .int (nI (cnt (fun q => decide (¬ nI q = v) && hasM M (64 * q + k)) i + 0))), (0, .ref h), (1, .int v), (2, .int (nI k)), (4, .int (nI i))]) C.1 C.2.1 dX4_othersWith_34 rfl hl (by decide) rfl (fun ls hl => ?_)
        refine q_iinc (d := 1) (lv' := [(4, .int (nI (i + 1))), (3, .int (nI (cnt (fun q => decide (¬ nI q = v) && hasM M (64 * q + k)) i + 0))), (0, .ref h), (1, .int v), (2, .int (nI k))]) C dX4_othersWith_35 (by decide) hl (k := 4) rfl (by decide) rfl (fun ls hl => ?_)
        refine lv_goto (tgt := 5) C.1 C.2.1 dX4_othersWith_38 (by decide) ?_
        exact ih (i + 1) (by omega) _ (by rw [cnt, if_neg (by rw [c_25, Bool.and_false]; decide)]) _ rfl (by omega) ls _ _ (lv_sub hl [2, 3, 4, 1, 0] rfl) hW
      refine lv_iconst (v := nI 1) C.1 C.2.1 dX4_othersWith_28 (by decide) ?_
      refine lv_goto (tgt := 33) C.1 C.2.1 dX4_othersWith_29 (by decide) ?_
      refine q_iadd C dX4_othersWith_33 ?_
      refine lv_istore_n (lv' := [(3, .int (nI (cnt (fun q => decide (¬ nI q = v) && hasM M (64 * q + k)) i + 1))), (0, .ref h), (1, .int v), (2, .int (nI k)), (4, .int (nI i))]) C.1 C.2.1 dX4_othersWith_34 rfl hl (by decide) rfl (fun ls hl => ?_)
      refine q_iinc (d := 1) (lv' := [(4, .int (nI (i + 1))), (3, .int (nI (cnt (fun q => decide (¬ nI q = v) && hasM M (64 * q + k)) i + 1))), (0, .ref h), (1, .int v), (2, .int (nI k))]) C dX4_othersWith_35 (by decide) hl (k := 4) rfl (by decide) rfl (fun ls hl => ?_)
      refine lv_goto (tgt := 5) C.1 C.2.1 dX4_othersWith_38 (by decide) ?_
      exact ih (i + 1) (by omega) _ (by rw [cnt, if_pos (by rw [decide_eq_true c_15, c_25]; rfl)]) _ rfl (by omega) ls _ _ (lv_sub hl [2, 3, 4, 1, 0] rfl) hW
  exact L_5 (4 - 0 + 1) 0 (by omega) _ rfl _ rfl (by omega) ls _ _ (lv_sub hl [2, 3, 4, 1, 0] rfl) hW

theorem hd_X4_causeFor : yX4_causeFor.cls = RX4 ∧ yX4_causeFor.cls ≠ "java/lang/invoke/MethodHandle" ∧ yX4_causeFor.cls ≠ "java/lang/invoke/VarHandle" ∧ (parseMethodDescriptor yX4_causeFor.desc).map (fun d => d.parameters.length) = some 3 := by decide +kernel
set_option maxHeartbeats 4000000 in
set_option maxRecDepth 100000 in
theorem c_X4_causeFor (l : Launch) (D : va_G) (g : Nat → ClassId) (h : Nat) (a : Nat → Nat) (M : MdS) (c : Nat) (k : Nat) (v : Int32) (hM : MOK M) (hc : c < 4) (hk : k < 64) (sz : Nat) : qMi l yX4_causeFor (.code yX4_causeFor cX4_causeFor 5 (some .char) :: GW) ({ frames := 1, cells := 0, slots := 0, locals := 21 } : Room) D g [.ref h, .int (nI c), .int (nI k), .int v] (wM g h a M) sz (fun (r : Int32) (u : MdS) => cI (mCause M c k v) = r ∧ M = u) (fun (u : MdS) => (wM g h a u)) 0 0 := by
  refine q_entry (cc := cX4_causeFor) (nL := 5) (ret := (some .char)) rfl (by decide) (Nat.le_of_ble_eq_true rfl) (fun pp ee ss mm bb mt kc ls C hRt hLk hin hsz hW hl => ?_)
  have hl : lv_has ls 5 [(0, .ref h), (1, .int (nI c)), (2, .int (nI k)), (3, .int v)] := hl
  have h12 := hM.1
  have hcp1 := hM.2.2.2.2.1
  have hcp2 := hM.2.2.2.2.2.2
  refine lv_aload_n C.1 C.2.1 dX4_causeFor_0 rfl (lv_at hl 0 rfl) ?_
  refine q_get (v := .ref (a 4)) C hW 0 rfl rfl 4 (by decide) gu_X4 (C.2.2.2.2 _ fl_X4_23) rfl rfl dX4_causeFor_1 ?_
  refine lv_iload_n C.1 C.2.1 dX4_causeFor_4 rfl (lv_at hl 1 rfl) ?_
  refine lv_iload_n C.1 C.2.1 dX4_causeFor_5 rfl (lv_at hl 2 rfl) ?_
  refine q_callSi (rest := [.ref (a 4)]) C (c_X4_at l D g c k _) (gw_S ml_X4_100 sm_X4_at ini_X4 cd_X4_at rfl) rfl rfl rfl hd_X4_at ⟨Nat.le_of_ble_eq_true rfl, Nat.le_of_ble_eq_true rfl⟩ hW (List.Perm.refl _) (fun (u_1 : Unit) => (wM g h a M)) (fun _ => List.Perm.refl _) hl.1 rfl (Nat.le_of_ble_eq_true rfl) ⟨Nat.le_of_ble_eq_true rfl, Nat.le_of_ble_eq_true rfl⟩ dX4_causeFor_6 (fun r_1 u_1 H locs e_1 hW => ?_)
  subst e_1
  refine q_iald (f := mLb M) C hW 5 rfl (k := 64 * c + k) (by omega) (by decide) dX4_causeFor_9 ?_
  refine lv_istore (lv' := [(4, .int ((mLb M) (64 * c + k))), (0, .ref h), (1, .int (nI c)), (2, .int (nI k)), (3, .int v)]) C.1 C.2.1 dX4_causeFor_10 hl (by decide) rfl (fun ls hl => ?_)
  refine lv_iload C.1 C.2.1 dX4_causeFor_12 (lv_at hl 0 rfl) ?_
  refine lv_iconst (v := (-1)) C.1 C.2.1 dX4_causeFor_14 (by decide) ?_
  refine lv_icmp_ne (tgt := 21) C.1 C.2.1 dX4_causeFor_15 (by decide) (fun c_15 => ?_) (fun c_15 => ?_)
  · refine lv_iload C.1 C.2.1 dX4_causeFor_21 (lv_at hl 0 rfl) ?_
    refine lv_bipush (v := (-2)) C.1 C.2.1 dX4_causeFor_23 (by decide) ?_
    refine lv_icmp_ne (tgt := 31) C.1 C.2.1 dX4_causeFor_25 (by decide) (fun c_25 => ?_) (fun c_25 => ?_)
    · refine lv_iload C.1 C.2.1 dX4_causeFor_31 (lv_at hl 0 rfl) ?_
      refine lv_iload_n C.1 C.2.1 dX4_causeFor_33 rfl (lv_at hl 4 rfl) ?_
      refine lv_icmp_ne (tgt := 42) C.1 C.2.1 dX4_causeFor_34 (by decide) (fun c_34 => ?_) (fun c_34 => ?_)
      · refine lv_bipush (v := nI 102) C.1 C.2.1 dX4_causeFor_42 (by decide) ?_
        exact q_iret C hRt hLk hW (by decide) M ⟨(Eq.symm (by unfold mCause; rw [if_neg c_15, if_neg c_25, if_neg c_34]; rfl)), rfl⟩  rfl (Nat.le_of_ble_eq_true rfl) (Nat.le_of_ble_eq_true rfl) dX4_causeFor_44
      refine lv_bipush (v := nI 116) C.1 C.2.1 dX4_causeFor_37 (by decide) ?_
      refine lv_goto (tgt := 44) C.1 C.2.1 dX4_causeFor_39 (by decide) ?_
      exact q_iret C hRt hLk hW (by decide) M ⟨(Eq.symm (by unfold mCause; rw [if_neg c_15, if_neg c_25, if_pos c_34]; rfl)), rfl⟩  rfl (Nat.le_of_ble_eq_true rfl) (Nat.le_of_ble_eq_true rfl) dX4_causeFor_44
    refine lv_bipush (v := nI 101) C.1 C.2.1 dX4_causeFor_28 (by decide) ?_
    exact q_iret C hRt hLk hW (by decide) M ⟨(Eq.symm (by unfold mCause; rw [if_neg c_15, if_pos c_25]; rfl)), rfl⟩  rfl (Nat.le_of_ble_eq_true rfl) (Nat.le_of_ble_eq_true rfl) dX4_causeFor_30
  refine lv_bipush (v := nI 99) C.1 C.2.1 dX4_causeFor_18 (by decide) ?_
  exact q_iret C hRt hLk hW (by decide) M ⟨(Eq.symm (by unfold mCause; rw [if_pos c_15]; rfl)), rfl⟩  rfl (Nat.le_of_ble_eq_true rfl) (Nat.le_of_ble_eq_true rfl) dX4_causeFor_20

theorem hd_X4_uses : yX4_uses.cls = RX4 ∧ yX4_uses.cls ≠ "java/lang/invoke/MethodHandle" ∧ yX4_uses.cls ≠ "java/lang/invoke/VarHandle" ∧ (parseMethodDescriptor yX4_uses.desc).map (fun d => d.parameters.length) = some 2 := by decide +kernel
set_option maxHeartbeats 4000000 in
set_option maxRecDepth 100000 in
theorem c_X4_uses (l : Launch) (D : va_G) (g : Nat → ClassId) (h : Nat) (a : Nat → Nat) (M : MdS) (c : Nat) (k : Nat) (hM : MOK M) (hc : c < 4) (hk : k < 64) (sz : Nat) : qMv l yX4_uses (.code yX4_uses cX4_uses 3 none :: GW) ({ frames := 1, cells := 0, slots := 0, locals := 21 } : Room) D g [.ref h, .int (nI c), .int (nI k)] (wM g h a M) sz (fun (u : MdS) => (mUses M c k) = u) (fun (u : MdS) => (wM g h a u)) 0 0 := by
  refine q_entry (cc := cX4_uses) (nL := 3) (ret := none) rfl (by decide) (Nat.le_of_ble_eq_true rfl) (fun pp ee ss mm bb mt kc ls C hRt hLk hin hsz hW hl => ?_)
  have hl : lv_has ls 3 [(0, .ref h), (1, .int (nI c)), (2, .int (nI k))] := hl
  have h12 := hM.1
  have hcp1 := hM.2.2.2.2.1
  have hcp2 := hM.2.2.2.2.2.2
  refine lv_aload_n C.1 C.2.1 dX4_uses_0 rfl (lv_at hl 0 rfl) ?_
  refine lv_dup C.1 C.2.1 dX4_uses_1 rfl ?_
  refine q_get (v := .int (mCk M)) C hW 0 rfl rfl 20 (by decide) gu_X4 (C.2.2.2.2 _ fl_X4_73) rfl rfl dX4_uses_2 ?_
  refine lv_iconst (v := nI 1) C.1 C.2.1 dX4_uses_5 (by decide) ?_
  refine lv_iadd C.1 C.2.1 dX4_uses_6 ?_
  refine q_put C hW 0 rfl rfl 20 (by decide) gu_X4 tyX4_ok nmX4 (C.2.2.2.2 _ fl_X4_73) rfl rfl rfl rfl (Nat.le_of_ble_eq_true rfl) (wMc g h a (mWd M) (mPl M) (mSt M) (mUs M) (mLb M) (mNw M) (mAh M) (mMs M) (mLm M) (mLs M) (mFe M) (mUf M) (mWr M) (mCo M) (mNa M) (mCr M) (mCa M) (mTh M) (mNm M) (mAc M) ((mCk M) + (nI 1)) (mCp M)) rfl dX4_uses_7 (fun H locs hW => ?_)
  refine lv_aload_n C.1 C.2.1 dX4_uses_10 rfl (lv_at hl 0 rfl) ?_
  refine q_get (v := .ref (a 3)) C hW 0 rfl rfl 3 (by decide) gu_X4 (C.2.2.2.2 _ fl_X4_20) rfl rfl dX4_uses_11 ?_
  refine lv_iload_n C.1 C.2.1 dX4_uses_14 rfl (lv_at hl 1 rfl) ?_
  refine lv_iload_n C.1 C.2.1 dX4_uses_15 rfl (lv_at hl 2 rfl) ?_
  refine q_callSi (rest := [.ref (a 3)]) C (c_X4_at l D g c k _) (gw_S ml_X4_100 sm_X4_at ini_X4 cd_X4_at rfl) rfl rfl rfl hd_X4_at ⟨Nat.le_of_ble_eq_true rfl, Nat.le_of_ble_eq_true rfl⟩ hW (List.Perm.refl _) (fun (u_1 : Unit) => (wMc g h a (mWd M) (mPl M) (mSt M) (mUs M) (mLb M) (mNw M) (mAh M) (mMs M) (mLm M) (mLs M) (mFe M) (mUf M) (mWr M) (mCo M) (mNa M) (mCr M) (mCa M) (mTh M) (mNm M) (mAc M) ((mCk M) + (nI 1)) (mCp M))) (fun _ => List.Perm.refl _) hl.1 rfl (Nat.le_of_ble_eq_true rfl) ⟨Nat.le_of_ble_eq_true rfl, Nat.le_of_ble_eq_true rfl⟩ dX4_uses_16 (fun r_1 u_1 H locs e_1 hW => ?_)
  subst e_1
  refine lv_aload_n C.1 C.2.1 dX4_uses_19 rfl (lv_at hl 0 rfl) ?_
  refine q_get (v := .int ((mCk M) + (nI 1))) C hW 0 rfl rfl 20 (by decide) gu_X4 (C.2.2.2.2 _ fl_X4_73) rfl rfl dX4_uses_20 ?_
  refine q_iast C hW 4 rfl (k := 64 * c + k) (by omega) (by decide) (wMc g h a (mWd M) (mPl M) (mSt M) (upd (mUs M) (64 * c + k) ((mCk M) + (nI 1))) (mLb M) (mNw M) (mAh M) (mMs M) (mLm M) (mLs M) (mFe M) (mUf M) (mWr M) (mCo M) (mNa M) (mCr M) (mCa M) (mTh M) (mNm M) (mAc M) ((mCk M) + (nI 1)) (mCp M)) rfl dX4_uses_23 (fun H locs hW => ?_)
  refine lv_aload_n C.1 C.2.1 dX4_uses_24 rfl (lv_at hl 0 rfl) ?_
  refine q_get (v := .ref (a 5)) C hW 0 rfl rfl 5 (by decide) gu_X4 (C.2.2.2.2 _ fl_X4_26) rfl rfl dX4_uses_25 ?_
  refine lv_iload_n C.1 C.2.1 dX4_uses_28 rfl (lv_at hl 1 rfl) ?_
  refine lv_iload_n C.1 C.2.1 dX4_uses_29 rfl (lv_at hl 2 rfl) ?_
  refine q_callSi (rest := [.ref (a 5)]) C (c_X4_at l D g c k _) (gw_S ml_X4_100 sm_X4_at ini_X4 cd_X4_at rfl) rfl rfl rfl hd_X4_at ⟨Nat.le_of_ble_eq_true rfl, Nat.le_of_ble_eq_true rfl⟩ hW (List.Perm.refl _) (fun (u_2 : Unit) => (wMc g h a (mWd M) (mPl M) (mSt M) (upd (mUs M) (64 * c + k) ((mCk M) + (nI 1))) (mLb M) (mNw M) (mAh M) (mMs M) (mLm M) (mLs M) (mFe M) (mUf M) (mWr M) (mCo M) (mNa M) (mCr M) (mCa M) (mTh M) (mNm M) (mAc M) ((mCk M) + (nI 1)) (mCp M))) (fun _ => List.Perm.refl _) hl.1 rfl (Nat.le_of_ble_eq_true rfl) ⟨Nat.le_of_ble_eq_true rfl, Nat.le_of_ble_eq_true rfl⟩ dX4_uses_30 (fun r_2 u_2 H locs e_2 hW => ?_)
  subst e_2
  refine q_zaldB (f := mNw M) C hW 6 rfl (k := 64 * c + k) (by omega) (by decide) dX4_uses_33 ?_
  refine q_bt (b := (mNw M) (64 * c + k)) (tgt := 47) C dX4_uses_34 (by decide) (fun c_34 => ?_) (fun c_34 => ?_)
  · refine lv_aload_n C.1 C.2.1 dX4_uses_47 rfl (lv_at hl 0 rfl) ?_
    refine q_get (v := .ref (a 5)) C hW 0 rfl rfl 5 (by decide) gu_X4 (C.2.2.2.2 _ fl_X4_26) rfl rfl dX4_uses_48 ?_
    refine lv_iload_n C.1 C.2.1 dX4_uses_51 rfl (lv_at hl 1 rfl) ?_
    refine lv_iload_n C.1 C.2.1 dX4_uses_52 rfl (lv_at hl 2 rfl) ?_
    refine q_callSi (rest := [.ref (a 5)]) C (c_X4_at l D g c k _) (gw_S ml_X4_100 sm_X4_at ini_X4 cd_X4_at rfl) rfl rfl rfl hd_X4_at ⟨Nat.le_of_ble_eq_true rfl, Nat.le_of_ble_eq_true rfl⟩ hW (List.Perm.refl _) (fun (u_3 : Unit) => (wMc g h a (mWd M) (mPl M) (mSt M) (upd (mUs M) (64 * c + k) ((mCk M) + (nI 1))) (mLb M) (mNw M) (mAh M) (mMs M) (mLm M) (mLs M) (mFe M) (mUf M) (mWr M) (mCo M) (mNa M) (mCr M) (mCa M) (mTh M) (mNm M) (mAc M) ((mCk M) + (nI 1)) (mCp M))) (fun _ => List.Perm.refl _) hl.1 rfl (Nat.le_of_ble_eq_true rfl) ⟨Nat.le_of_ble_eq_true rfl, Nat.le_of_ble_eq_true rfl⟩ dX4_uses_53 (fun r_3 u_3 H locs e_3 hW => ?_)
    subst e_3
    refine lv_iconst (v := nI 0) C.1 C.2.1 dX4_uses_56 (by decide) ?_
    refine q_zastB C hW 6 rfl (k := 64 * c + k) (by omega) (by decide) (v := false) (wMc g h a (mWd M) (mPl M) (mSt M) (upd (mUs M) (64 * c + k) ((mCk M) + (nI 1))) (mLb M) (va_up (mNw M) (64 * c + k) false) (mAh M) (mMs M) (mLm M) (mLs M) (mFe M) (mUf M) (mWr M) (mCo M) (mNa M) (mCr M) (mCa M) (mTh M) (mNm M) (mAc M) ((mCk M) + (nI 1)) (mCp M)) rfl dX4_uses_57 (fun H locs hW => ?_)
    exact q_vret C hRt hLk hW (mWd M, mPl M, mSt M, upd (mUs M) (64 * c + k) ((mCk M) + (nI 1)), mLb M, va_up (mNw M) (64 * c + k) false, mAh M, mMs M, mLm M, mLs M, mFe M, mUf M, mWr M, mCo M, mNa M, mCr M, mCa M, mTh M, mNm M, mAc M, (mCk M) + (nI 1), mCp M) (Eq.symm (by unfold mUses; rw [if_pos c_34]))  rfl (Nat.le_of_ble_eq_true rfl) (Nat.le_of_ble_eq_true rfl) dX4_uses_58
  refine lv_aload_n C.1 C.2.1 dX4_uses_37 rfl (lv_at hl 0 rfl) ?_
  refine q_get (v := .ref (a 11)) C hW 0 rfl rfl 11 (by decide) gu_X4 (C.2.2.2.2 _ fl_X4_45) rfl rfl dX4_uses_38 ?_
  refine lv_iload_n C.1 C.2.1 dX4_uses_41 rfl (lv_at hl 1 rfl) ?_
  refine lv_dup2_11 C.1 C.2.1 dX4_uses_42 rfl rfl ?_
  refine q_iald (f := mUf M) C hW 12 rfl (k := c) (by omega) (by decide) dX4_uses_43 ?_
  refine lv_iconst (v := nI 1) C.1 C.2.1 dX4_uses_44 (by decide) ?_
  refine lv_iadd C.1 C.2.1 dX4_uses_45 ?_
  refine q_iast C hW 12 rfl (k := c) (by omega) (by decide) (wMc g h a (mWd M) (mPl M) (mSt M) (upd (mUs M) (64 * c + k) ((mCk M) + (nI 1))) (mLb M) (mNw M) (mAh M) (mMs M) (mLm M) (mLs M) (mFe M) (upd (mUf M) c (((mUf M) c) + (nI 1))) (mWr M) (mCo M) (mNa M) (mCr M) (mCa M) (mTh M) (mNm M) (mAc M) ((mCk M) + (nI 1)) (mCp M)) rfl dX4_uses_46 (fun H locs hW => ?_)
  refine lv_aload_n C.1 C.2.1 dX4_uses_47 rfl (lv_at hl 0 rfl) ?_
  refine q_get (v := .ref (a 5)) C hW 0 rfl rfl 5 (by decide) gu_X4 (C.2.2.2.2 _ fl_X4_26) rfl rfl dX4_uses_48 ?_
  refine lv_iload_n C.1 C.2.1 dX4_uses_51 rfl (lv_at hl 1 rfl) ?_
  refine lv_iload_n C.1 C.2.1 dX4_uses_52 rfl (lv_at hl 2 rfl) ?_
  refine q_callSi (rest := [.ref (a 5)]) C (c_X4_at l D g c k _) (gw_S ml_X4_100 sm_X4_at ini_X4 cd_X4_at rfl) rfl rfl rfl hd_X4_at ⟨Nat.le_of_ble_eq_true rfl, Nat.le_of_ble_eq_true rfl⟩ hW (List.Perm.refl _) (fun (u_4 : Unit) => (wMc g h a (mWd M) (mPl M) (mSt M) (upd (mUs M) (64 * c + k) ((mCk M) + (nI 1))) (mLb M) (mNw M) (mAh M) (mMs M) (mLm M) (mLs M) (mFe M) (upd (mUf M) c (((mUf M) c) + (nI 1))) (mWr M) (mCo M) (mNa M) (mCr M) (mCa M) (mTh M) (mNm M) (mAc M) ((mCk M) + (nI 1)) (mCp M))) (fun _ => List.Perm.refl _) hl.1 rfl (Nat.le_of_ble_eq_true rfl) ⟨Nat.le_of_ble_eq_true rfl, Nat.le_of_ble_eq_true rfl⟩ dX4_uses_53 (fun r_4 u_4 H locs e_4 hW => ?_)
  subst e_4
  refine lv_iconst (v := nI 0) C.1 C.2.1 dX4_uses_56 (by decide) ?_
  refine q_zastB C hW 6 rfl (k := 64 * c + k) (by omega) (by decide) (v := false) (wMc g h a (mWd M) (mPl M) (mSt M) (upd (mUs M) (64 * c + k) ((mCk M) + (nI 1))) (mLb M) (va_up (mNw M) (64 * c + k) false) (mAh M) (mMs M) (mLm M) (mLs M) (mFe M) (upd (mUf M) c (((mUf M) c) + (nI 1))) (mWr M) (mCo M) (mNa M) (mCr M) (mCa M) (mTh M) (mNm M) (mAc M) ((mCk M) + (nI 1)) (mCp M)) rfl dX4_uses_57 (fun H locs hW => ?_)
  exact q_vret C hRt hLk hW (mWd M, mPl M, mSt M, upd (mUs M) (64 * c + k) ((mCk M) + (nI 1)), mLb M, va_up (mNw M) (64 * c + k) false, mAh M, mMs M, mLm M, mLs M, mFe M, upd (mUf M) c (((mUf M) c) + (nI 1)), mWr M, mCo M, mNa M, mCr M, mCa M, mTh M, mNm M, mAc M, (mCk M) + (nI 1), mCp M) (Eq.symm (by unfold mUses; rw [if_neg (by rw [c_34]; decide)]))  rfl (Nat.le_of_ble_eq_true rfl) (Nat.le_of_ble_eq_true rfl) dX4_uses_58

theorem hd_X4_takesFromOthers : yX4_takesFromOthers.cls = RX4 ∧ yX4_takesFromOthers.cls ≠ "java/lang/invoke/MethodHandle" ∧ yX4_takesFromOthers.cls ≠ "java/lang/invoke/VarHandle" ∧ (parseMethodDescriptor yX4_takesFromOthers.desc).map (fun d => d.parameters.length) = some 3 := by decide +kernel
set_option maxHeartbeats 4000000 in
set_option maxRecDepth 100000 in
theorem c_X4_takesFromOthers (l : Launch) (D : va_G) (g : Nat → ClassId) (h : Nat) (a : Nat → Nat) (M : MdS) (c : Nat) (k : Nat) (v : Int32) (hM : MOK M) (hc : c < 4) (hk : k < 64) (sz : Nat) : qMv l yX4_takesFromOthers (.code yX4_takesFromOthers cX4_takesFromOthers 5 none :: GW) ({ frames := 2, cells := 0, slots := 0, locals := 45 } : Room) D g [.ref h, .int (nI c), .int (nI k), .int v] (wM g h a M) sz (fun (u : MdS) => (mElse M c k v) = u) (fun (u : MdS) => (wM g h a u)) 0 0 := by
  refine q_entry (cc := cX4_takesFromOthers) (nL := 5) (ret := none) rfl (by decide) (Nat.le_of_ble_eq_true rfl) (fun pp ee ss mm bb mt kc ls C hRt hLk hin hsz hW hl => ?_)
  have hl : lv_has ls 5 [(0, .ref h), (1, .int (nI c)), (2, .int (nI k)), (3, .int v)] := hl
  have h12 := hM.1
  have hcp1 := hM.2.2.2.2.1
  have hcp2 := hM.2.2.2.2.2.2
  refine lv_iconst (v := nI 0) C.1 C.2.1 dX4_takesFromOthers_0 (by decide) ?_
  refine lv_istore (lv' := [(4, .int (nI 0)), (0, .ref h), (1, .int (nI c)), (2, .int (nI k)), (3, .int v)]) C.1 C.2.1 dX4_takesFromOthers_1 hl (by decide) rfl (fun ls hl => ?_)
  have L_3 : ∀ (nf : Nat) (i : Nat) (hi : i ≤ 4) (x4 : Int32) (e4 : x4 = nI i) (M2 : MdS) (eM2 : M2 = mElseN M c k v i) (hmu : 4 - i < nf) (ls : Array Slot) (H : Heap) (locs : List Loc), lv_has ls 5 [(0, .ref h), (1, .int (nI c)), (2, .int (nI k)), (3, .int v), (4, .int x4)] → qW D g (va_A (wM g h a M) sz) ss.heap ss (wM g h a M2) H locs → W pp l ee ({ frames := 2, cells := 0, slots := 0, locals := 45 } : Room) ss mm [.ref h, .int (nI c), .int (nI k), .int v].toArray bb mt kc H locs 0 0 (MQ bb (va_Qv (fun (u : MdS) => (mElse M c k v) = u) (qB D g (wM g h a M) sz (fun (u : MdS) => (wM g h a u))) (va_A (wM g h a M) sz)) [.ref h, .int (nI c), .int (nI k), .int v].toArray ss 0 0 (va_A (wM g h a M) sz)) (F0 mm 3 ls []) := by
    intro nf
    induction nf with
    | zero =>
      intro i hi x4 e4 M2 eM2 hmu ls H locs hl hW
      exact absurd hmu (by omega)
    | succ nf ih =>
      intro i hi x4 e4 M2 eM2 hmu ls H locs hl hW
      subst e4
      refine lv_iload C.1 C.2.1 dX4_takesFromOthers_3 (lv_at hl 4 rfl) ?_
      refine lv_iconst (v := nI 4) C.1 C.2.1 dX4_takesFromOthers_5 (by decide) ?_
      refine q_ge (tgt := 39) C (by omega) (by omega) dX4_takesFromOthers_6 (by decide) (fun c_6 => ?_) (fun c_6 => ?_)
      · exact q_vret C hRt hLk hW M2 (Eq.symm (by obtain rfl : i = 4 := (by omega); exact eM2))  rfl (Nat.le_of_ble_eq_true rfl) (Nat.le_of_ble_eq_true rfl) dX4_takesFromOthers_39
      refine lv_iload C.1 C.2.1 dX4_takesFromOthers_9 (lv_at hl 4 rfl) ?_
      refine lv_iload_n C.1 C.2.1 dX4_takesFromOthers_11 rfl (lv_at hl 1 rfl) ?_
      refine q_eq (tgt := 33) C (by omega) (by omega) dX4_takesFromOthers_12 (by decide) (fun c_12 => ?_) (fun c_12 => ?_)
      · refine q_iinc (d := 1) (lv' := [(4, .int (nI (i + 1))), (0, .ref h), (1, .int (nI c)), (2, .int (nI k)), (3, .int v)]) C dX4_takesFromOthers_33 (by decide) hl (k := 4) rfl (by decide) rfl (fun ls hl => ?_)
        refine lv_goto (tgt := 3) C.1 C.2.1 dX4_takesFromOthers_36 (by decide) ?_
        exact ih (i + 1) (by omega) _ rfl M2 (by rw [mElseN, if_pos c_12, ← eM2]) (by omega) ls _ _ (lv_sub hl [1, 2, 3, 4, 0] rfl) hW
      refine lv_aload_n C.1 C.2.1 dX4_takesFromOthers_15 rfl (lv_at hl 0 rfl) ?_
      refine lv_iload C.1 C.2.1 dX4_takesFromOthers_16 (lv_at hl 4 rfl) ?_
      refine lv_iload_n C.1 C.2.1 dX4_takesFromOthers_18 rfl (lv_at hl 2 rfl) ?_
      refine q_callVi (rest := []) C (c_X4_has l D g h a M2 i k (mElse_ok hM eM2) (by omega) (by omega) _) (gw_V ml_X4_103 im_X4_has se_X4_X4_has ini_X4 cd_X4_has rfl) rfl rfl rfl hd_X4_has ⟨Nat.le_of_ble_eq_true rfl, Nat.le_of_ble_eq_true rfl⟩ hW pm_all (fun u_1 => (wM g h a u_1)) (fun _ => pm_all) rfl rfl hl.1 rfl (Nat.le_of_ble_eq_true rfl) ⟨Nat.le_of_ble_eq_true rfl, Nat.le_of_ble_eq_true rfl⟩ dX4_takesFromOthers_19 (fun r_1 u_1 H locs e_1 hW => ?_)
      obtain ⟨rfl, rfl⟩ := e_1
      refine q_bt (b := hasM M2 (64 * i + k)) (tgt := 33) C dX4_takesFromOthers_22 (by decide) (fun c_22 => ?_) (fun c_22 => ?_)
      · refine q_iinc (d := 1) (lv' := [(4, .int (nI (i + 1))), (0, .ref h), (1, .int (nI c)), (2, .int (nI k)), (3, .int v)]) C dX4_takesFromOthers_33 (by decide) hl (k := 4) rfl (by decide) rfl (fun ls hl => ?_)
        refine lv_goto (tgt := 3) C.1 C.2.1 dX4_takesFromOthers_36 (by decide) ?_
        exact ih (i + 1) (by omega) _ rfl M2 (by rw [mElseN, if_neg c_12, ← eM2, if_neg (by rw [c_22]; decide)]) (by omega) ls _ _ (lv_sub hl [1, 2, 3, 4, 0] rfl) hW
      refine lv_aload_n C.1 C.2.1 dX4_takesFromOthers_25 rfl (lv_at hl 0 rfl) ?_
      refine lv_iload C.1 C.2.1 dX4_takesFromOthers_26 (lv_at hl 4 rfl) ?_
      refine lv_iload_n C.1 C.2.1 dX4_takesFromOthers_28 rfl (lv_at hl 2 rfl) ?_
      refine lv_iload_n C.1 C.2.1 dX4_takesFromOthers_29 rfl (lv_at hl 3 rfl) ?_
      refine q_callVv (rest := []) C (c_X4_leaves l D g h a M2 i k v (mElse_ok hM eM2) (by omega) (by omega) _) (gw_V ml_X4_112 im_X4_leaves se_X4_X4_leaves ini_X4 cd_X4_leaves rfl) rfl rfl rfl hd_X4_leaves ⟨Nat.le_of_ble_eq_true rfl, Nat.le_of_ble_eq_true rfl⟩ hW pm_all (fun u_2 => (wM g h a u_2)) (fun _ => pm_all) rfl rfl hl.1 rfl (Nat.le_of_ble_eq_true rfl) ⟨Nat.le_of_ble_eq_true rfl, Nat.le_of_ble_eq_true rfl⟩ dX4_takesFromOthers_30 (fun u_2 H locs e_2 hW => ?_)
      skip
      refine q_iinc (d := 1) (lv' := [(4, .int (nI (i + 1))), (0, .ref h), (1, .int (nI c)), (2, .int (nI k)), (3, .int v)]) C dX4_takesFromOthers_33 (by decide) hl (k := 4) rfl (by decide) rfl (fun ls hl => ?_)
      refine lv_goto (tgt := 3) C.1 C.2.1 dX4_takesFromOthers_36 (by decide) ?_
      exact ih (i + 1) (by omega) _ rfl u_2 (by rw [mElseN, if_neg c_12, ← eM2, if_pos c_22]; exact e_2.symm) (by omega) ls _ _ (lv_sub hl [1, 2, 3, 4, 0] rfl) hW
  exact L_3 (4 - 0 + 1) 0 (by omega) _ rfl M rfl (by omega) ls _ _ (lv_sub hl [1, 2, 3, 4, 0] rfl) hW
