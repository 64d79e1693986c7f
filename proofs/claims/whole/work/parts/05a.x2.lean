theorem hd_X2_isFull : yX2_isFull.cls = RX2 ∧ yX2_isFull.cls ≠ "java/lang/invoke/MethodHandle" ∧ yX2_isFull.cls ≠ "java/lang/invoke/VarHandle" ∧ (parseMethodDescriptor yX2_isFull.desc).map (fun d => d.parameters.length) = some 0 := by decide +kernel
set_option maxHeartbeats 4000000 in
set_option maxRecDepth 100000 in
theorem c_X2_isFull (l : Launch) (D : va_G) (g : Nat → ClassId) (h : Nat) (a : Nat → Nat) (L : LyS) (hL : LOK L) (sz : Nat) : qMi l yX2_isFull (.code yX2_isFull cX2_isFull 1 (some .boolean) :: GW) ({ frames := 0, cells := 0, slots := 0, locals := 0 } : Room) D g [.ref h] (wL g h a L) sz (fun (r : Int32) (u : LyS) => bI (decide (12 ≤ lNm L)) = r ∧ L = u) (fun (u : LyS) => (wL g h a u)) 0 0 := by
  refine q_entry (cc := cX2_isFull) (nL := 1) (ret := (some .boolean)) rfl (by decide) (Nat.le_of_ble_eq_true rfl) (fun pp ee ss mm bb mt kc ls C hRt hLk hin hsz hW hl => ?_)
  have hl : lv_has ls 1 [(0, .ref h)] := hl
  have hN := hL.1
  refine lv_aload_n C.1 C.2.1 dX2_isFull_0 rfl (lv_at hl 0 rfl) ?_
  refine q_get (v := .int (nI (lNm L))) C hW 0 rfl rfl 3 (by decide) gu_X2 (C.2.2.2.2 _ fl_X2_21) rfl rfl dX2_isFull_1 ?_
  refine lv_bipush (v := nI 12) C.1 C.2.1 dX2_isFull_4 (by decide) ?_
  refine q_lt (tgt := 13) C (by omega) (by omega) dX2_isFull_6 (by decide) (fun c_6 => ?_) (fun c_6 => ?_)
  · refine lv_iconst (v := nI 0) C.1 C.2.1 dX2_isFull_13 (by decide) ?_
    exact q_iret C hRt hLk hW (by decide) L ⟨(Eq.symm (by rw [decide_eq_false (by omega)]; rfl)), rfl⟩  rfl (Nat.le_of_ble_eq_true rfl) (Nat.le_of_ble_eq_true rfl) dX2_isFull_14
  refine lv_iconst (v := nI 1) C.1 C.2.1 dX2_isFull_9 (by decide) ?_
  refine lv_goto (tgt := 14) C.1 C.2.1 dX2_isFull_10 (by decide) ?_
  exact q_iret C hRt hLk hW (by decide) L ⟨(Eq.symm (by rw [decide_eq_true (by omega)]; rfl)), rfl⟩  rfl (Nat.le_of_ble_eq_true rfl) (Nat.le_of_ble_eq_true rfl) dX2_isFull_14

theorem hd_X2_countNames : yX2_countNames.cls = RX2 ∧ yX2_countNames.cls ≠ "java/lang/invoke/MethodHandle" ∧ yX2_countNames.cls ≠ "java/lang/invoke/VarHandle" ∧ (parseMethodDescriptor yX2_countNames.desc).map (fun d => d.parameters.length) = some 0 := by decide +kernel
set_option maxHeartbeats 4000000 in
set_option maxRecDepth 100000 in
theorem c_X2_countNames (l : Launch) (D : va_G) (g : Nat → ClassId) (h : Nat) (a : Nat → Nat) (L : LyS) (hL : LOK L) (sz : Nat) : qMi l yX2_countNames (.code yX2_countNames cX2_countNames 1 (some .int) :: GW) ({ frames := 0, cells := 0, slots := 0, locals := 0 } : Room) D g [.ref h] (wL g h a L) sz (fun (r : Int32) (u : LyS) => nI (lNm L) = r ∧ L = u) (fun (u : LyS) => (wL g h a u)) 0 0 := by
  refine q_entry (cc := cX2_countNames) (nL := 1) (ret := (some .int)) rfl (by decide) (Nat.le_of_ble_eq_true rfl) (fun pp ee ss mm bb mt kc ls C hRt hLk hin hsz hW hl => ?_)
  have hl : lv_has ls 1 [(0, .ref h)] := hl
  have hN := hL.1
  refine lv_aload_n C.1 C.2.1 dX2_countNames_0 rfl (lv_at hl 0 rfl) ?_
  refine q_get (v := .int (nI (lNm L))) C hW 0 rfl rfl 3 (by decide) gu_X2 (C.2.2.2.2 _ fl_X2_21) rfl rfl dX2_countNames_1 ?_
  exact q_iret C hRt hLk hW rfl L ⟨rfl, rfl⟩  rfl (Nat.le_of_ble_eq_true rfl) (Nat.le_of_ble_eq_true rfl) dX2_countNames_4

theorem hd_X2_hasName : yX2_hasName.cls = RX2 ∧ yX2_hasName.cls ≠ "java/lang/invoke/MethodHandle" ∧ yX2_hasName.cls ≠ "java/lang/invoke/VarHandle" ∧ (parseMethodDescriptor yX2_hasName.desc).map (fun d => d.parameters.length) = some 1 := by decide +kernel
set_option maxHeartbeats 4000000 in
set_option maxRecDepth 100000 in
theorem c_X2_hasName (l : Launch) (D : va_G) (g : Nat → ClassId) (h : Nat) (a : Nat → Nat) (L : LyS) (v : Int32) (hL : LOK L) (sz : Nat) : qMi l yX2_hasName (.code yX2_hasName cX2_hasName 2 (some .boolean) :: GW) ({ frames := 0, cells := 0, slots := 0, locals := 0 } : Room) D g [.ref h, .int v] (wL g h a L) sz (fun (r : Int32) (u : LyS) => bI ((inR (lNm L) v).isSome) = r ∧ L = u) (fun (u : LyS) => (wL g h a u)) 0 0 := by
  refine q_entry (cc := cX2_hasName) (nL := 2) (ret := (some .boolean)) rfl (by decide) (Nat.le_of_ble_eq_true rfl) (fun pp ee ss mm bb mt kc ls C hRt hLk hin hsz hW hl => ?_)
  have hl : lv_has ls 2 [(0, .ref h), (1, .int v)] := hl
  have hN := hL.1
  refine lv_iload_n C.1 C.2.1 dX2_hasName_0 rfl (lv_at hl 1 rfl) ?_
  refine lv_if_lt (tgt := 16) C.1 C.2.1 dX2_hasName_1 (by decide) (fun c_1 => ?_) (fun c_1 => ?_)
  · refine lv_iconst (v := nI 0) C.1 C.2.1 dX2_hasName_16 (by decide) ?_
    exact q_iret C hRt hLk hW (by decide) L ⟨(Eq.symm (by unfold inR; rw [if_pos c_1]; rfl)), rfl⟩  rfl (Nat.le_of_ble_eq_true rfl) (Nat.le_of_ble_eq_true rfl) dX2_hasName_17
  refine lv_iload_n C.1 C.2.1 dX2_hasName_4 rfl (lv_at hl 1 rfl) ?_
  refine lv_aload_n C.1 C.2.1 dX2_hasName_5 rfl (lv_at hl 0 rfl) ?_
  refine q_get (v := .int (nI (lNm L))) C hW 0 rfl rfl 3 (by decide) gu_X2 (C.2.2.2.2 _ fl_X2_21) rfl rfl dX2_hasName_6 ?_
  refine lv_icmp_ge (tgt := 16) C.1 C.2.1 dX2_hasName_9 (by decide) (fun c_9 => ?_) (fun c_9 => ?_)
  · refine lv_iconst (v := nI 0) C.1 C.2.1 dX2_hasName_16 (by decide) ?_
    exact q_iret C hRt hLk hW (by decide) L ⟨(Eq.symm (by unfold inR; rw [if_neg c_1, if_pos c_9]; rfl)), rfl⟩  rfl (Nat.le_of_ble_eq_true rfl) (Nat.le_of_ble_eq_true rfl) dX2_hasName_17
  refine lv_iconst (v := nI 1) C.1 C.2.1 dX2_hasName_12 (by decide) ?_
  refine lv_goto (tgt := 17) C.1 C.2.1 dX2_hasName_13 (by decide) ?_
  exact q_iret C hRt hLk hW (by decide) L ⟨(Eq.symm (by unfold inR; rw [if_neg c_1, if_neg c_9]; rfl)), rfl⟩  rfl (Nat.le_of_ble_eq_true rfl) (Nat.le_of_ble_eq_true rfl) dX2_hasName_17

set_option maxHeartbeats 4000000 in
set_option maxRecDepth 100000 in
theorem c_X2_hasName_V (l : Launch) (D : va_G) (g : Nat → ClassId) (h : Nat) (a : Nat → Nat) (L : LyS) (n : Nat) (hL : LOK L) (hn : n < lNm L) (sz : Nat) : qMi l yX2_hasName (.code yX2_hasName cX2_hasName 2 (some .boolean) :: GW) ({ frames := 0, cells := 0, slots := 0, locals := 0 } : Room) D g [.ref h, .int (nI n)] (wL g h a L) sz (fun (r : Int32) (u : LyS) => bI true = r ∧ L = u) (fun (u : LyS) => (wL g h a u)) 0 0 := by
  refine q_entry (cc := cX2_hasName) (nL := 2) (ret := (some .boolean)) rfl (by decide) (Nat.le_of_ble_eq_true rfl) (fun pp ee ss mm bb mt kc ls C hRt hLk hin hsz hW hl => ?_)
  have hl : lv_has ls 2 [(0, .ref h), (1, .int (nI n))] := hl
  have hN := hL.1
  refine lv_iload_n C.1 C.2.1 dX2_hasName_0 rfl (lv_at hl 1 rfl) ?_
  refine lv_if_lt (tgt := 16) C.1 C.2.1 dX2_hasName_1 (by decide) (fun c_1 => absurd c_1 (nI_pos (by omega))) (fun c_1 => ?_)
  refine lv_iload_n C.1 C.2.1 dX2_hasName_4 rfl (lv_at hl 1 rfl) ?_
  refine lv_aload_n C.1 C.2.1 dX2_hasName_5 rfl (lv_at hl 0 rfl) ?_
  refine q_get (v := .int (nI (lNm L))) C hW 0 rfl rfl 3 (by decide) gu_X2 (C.2.2.2.2 _ fl_X2_21) rfl rfl dX2_hasName_6 ?_
  refine q_ge (tgt := 16) C (by omega) (by omega) dX2_hasName_9 (by decide) (fun c_9 => absurd c_9 (by omega)) (fun c_9 => ?_)
  refine lv_iconst (v := nI 1) C.1 C.2.1 dX2_hasName_12 (by decide) ?_
  refine lv_goto (tgt := 17) C.1 C.2.1 dX2_hasName_13 (by decide) ?_
  exact q_iret C hRt hLk hW (by decide) L ⟨rfl, rfl⟩  rfl (Nat.le_of_ble_eq_true rfl) (Nat.le_of_ble_eq_true rfl) dX2_hasName_17

theorem hd_X2_isPlaced : yX2_isPlaced.cls = RX2 ∧ yX2_isPlaced.cls ≠ "java/lang/invoke/MethodHandle" ∧ yX2_isPlaced.cls ≠ "java/lang/invoke/VarHandle" ∧ (parseMethodDescriptor yX2_isPlaced.desc).map (fun d => d.parameters.length) = some 1 := by decide +kernel
set_option maxHeartbeats 4000000 in
set_option maxRecDepth 100000 in
theorem c_X2_isPlaced (l : Launch) (D : va_G) (g : Nat → ClassId) (h : Nat) (a : Nat → Nat) (L : LyS) (n : Nat) (hL : LOK L) (hn : n < lNm L) (sz : Nat) : qMi l yX2_isPlaced (.code yX2_isPlaced cX2_isPlaced 2 (some .boolean) :: GW) ({ frames := 1, cells := 0, slots := 0, locals := 21 } : Room) D g [.ref h, .int (nI n)] (wL g h a L) sz (fun (r : Int32) (u : LyS) => bI ((lSt L n).isSome) = r ∧ L = u) (fun (u : LyS) => (wL g h a u)) 0 0 := by
  refine q_entry (cc := cX2_isPlaced) (nL := 2) (ret := (some .boolean)) rfl (by decide) (Nat.le_of_ble_eq_true rfl) (fun pp ee ss mm bb mt kc ls C hRt hLk hin hsz hW hl => ?_)
  have hl : lv_has ls 2 [(0, .ref h), (1, .int (nI n))] := hl
  have hN := hL.1
  refine lv_aload_n C.1 C.2.1 dX2_isPlaced_0 rfl (lv_at hl 0 rfl) ?_
  refine lv_iload_n C.1 C.2.1 dX2_isPlaced_1 rfl (lv_at hl 1 rfl) ?_
  refine q_callVi (rest := []) C (c_X2_hasName_V l D g h a L n hL (by omega) _) (gw_V ml_X2_25 im_X2_hasName se_X2_X2_hasName ini_X2 cd_X2_hasName rfl) rfl rfl rfl hd_X2_hasName ⟨Nat.le_of_ble_eq_true rfl, Nat.le_of_ble_eq_true rfl⟩ hW pm_all (fun u_1 => (wL g h a u_1)) (fun _ => pm_all) rfl rfl hl.1 rfl (Nat.le_of_ble_eq_true rfl) ⟨Nat.le_of_ble_eq_true rfl, Nat.le_of_ble_eq_true rfl⟩ dX2_isPlaced_2 (fun r_1 u_1 H locs e_1 hW => ?_)
  obtain ⟨rfl, rfl⟩ := e_1
  refine q_bt (b := true) (tgt := 22) C dX2_isPlaced_5 (by decide) (fun c_5 => absurd c_5 (by decide)) (fun c_5 => ?_)
  refine lv_aload_n C.1 C.2.1 dX2_isPlaced_8 rfl (lv_at hl 0 rfl) ?_
  refine q_get (v := .ref (a 1)) C hW 0 rfl rfl 1 (by decide) gu_X2 (C.2.2.2.2 _ fl_X2_15) rfl rfl dX2_isPlaced_9 ?_
  refine lv_iload_n C.1 C.2.1 dX2_isPlaced_12 rfl (lv_at hl 1 rfl) ?_
  refine q_ialdO (f := lSt L) C hW 2 rfl (k := n) (by omega) (by decide) dX2_isPlaced_13 ?_
  refine lv_iconst (v := (-1)) C.1 C.2.1 dX2_isPlaced_14 (by decide) ?_
  refine q_oeq (o := (lSt L) n) (tgt := 22) C (fun i9 e9 => by have := hL.st (by omega) e9; omega) dX2_isPlaced_15 (by decide) (fun o_15 => ?_) (fun j_15 o_15 => ?_)
  · refine lv_iconst (v := nI 0) C.1 C.2.1 dX2_isPlaced_22 (by decide) ?_
    exact q_iret C hRt hLk hW (by decide) L ⟨(Eq.symm (by rw [o_15]; rfl)), rfl⟩  rfl (Nat.le_of_ble_eq_true rfl) (Nat.le_of_ble_eq_true rfl) dX2_isPlaced_23
  refine lv_iconst (v := nI 1) C.1 C.2.1 dX2_isPlaced_18 (by decide) ?_
  refine lv_goto (tgt := 23) C.1 C.2.1 dX2_isPlaced_19 (by decide) ?_
  exact q_iret C hRt hLk hW (by decide) L ⟨(Eq.symm (by rw [o_15]; rfl)), rfl⟩  rfl (Nat.le_of_ble_eq_true rfl) (Nat.le_of_ble_eq_true rfl) dX2_isPlaced_23

theorem hd_X2_hasWord : yX2_hasWord.cls = RX2 ∧ yX2_hasWord.cls ≠ "java/lang/invoke/MethodHandle" ∧ yX2_hasWord.cls ≠ "java/lang/invoke/VarHandle" ∧ (parseMethodDescriptor yX2_hasWord.desc).map (fun d => d.parameters.length) = some 2 := by decide +kernel
set_option maxHeartbeats 4000000 in
set_option maxRecDepth 100000 in
theorem c_X2_hasWord (l : Launch) (D : va_G) (g : Nat → ClassId) (h : Nat) (a : Nat → Nat) (L : LyS) (n : Nat) (v : Int32) (hL : LOK L) (hn : n < lNm L) (sz : Nat) : qMi l yX2_hasWord (.code yX2_hasWord cX2_hasWord 3 (some .boolean) :: GW) ({ frames := 1, cells := 0, slots := 0, locals := 21 } : Room) D g [.ref h, .int (nI n), .int v] (wL g h a L) sz (fun (r : Int32) (u : LyS) => bI ((inR (lSz L n) v).isSome) = r ∧ L = u) (fun (u : LyS) => (wL g h a u)) 0 0 := by
  refine q_entry (cc := cX2_hasWord) (nL := 3) (ret := (some .boolean)) rfl (by decide) (Nat.le_of_ble_eq_true rfl) (fun pp ee ss mm bb mt kc ls C hRt hLk hin hsz hW hl => ?_)
  have hl : lv_has ls 3 [(0, .ref h), (1, .int (nI n)), (2, .int v)] := hl
  have hN := hL.1
  refine lv_aload_n C.1 C.2.1 dX2_hasWord_0 rfl (lv_at hl 0 rfl) ?_
  refine lv_iload_n C.1 C.2.1 dX2_hasWord_1 rfl (lv_at hl 1 rfl) ?_
  refine q_callVi (rest := []) C (c_X2_hasName_V l D g h a L n hL (by omega) _) (gw_V ml_X2_25 im_X2_hasName se_X2_X2_hasName ini_X2 cd_X2_hasName rfl) rfl rfl rfl hd_X2_hasName ⟨Nat.le_of_ble_eq_true rfl, Nat.le_of_ble_eq_true rfl⟩ hW pm_all (fun u_1 => (wL g h a u_1)) (fun _ => pm_all) rfl rfl hl.1 rfl (Nat.le_of_ble_eq_true rfl) ⟨Nat.le_of_ble_eq_true rfl, Nat.le_of_ble_eq_true rfl⟩ dX2_hasWord_2 (fun r_1 u_1 H locs e_1 hW => ?_)
  obtain ⟨rfl, rfl⟩ := e_1
  refine q_bt (b := true) (tgt := 26) C dX2_hasWord_5 (by decide) (fun c_5 => absurd c_5 (by decide)) (fun c_5 => ?_)
  refine lv_iload_n C.1 C.2.1 dX2_hasWord_8 rfl (lv_at hl 2 rfl) ?_
  refine lv_if_lt (tgt := 26) C.1 C.2.1 dX2_hasWord_9 (by decide) (fun c_9 => ?_) (fun c_9 => ?_)
  · refine lv_iconst (v := nI 0) C.1 C.2.1 dX2_hasWord_26 (by decide) ?_
    exact q_iret C hRt hLk hW (by decide) L ⟨(Eq.symm (by unfold inR; rw [if_pos c_9]; rfl)), rfl⟩  rfl (Nat.le_of_ble_eq_true rfl) (Nat.le_of_ble_eq_true rfl) dX2_hasWord_27
  refine lv_iload_n C.1 C.2.1 dX2_hasWord_12 rfl (lv_at hl 2 rfl) ?_
  refine lv_aload_n C.1 C.2.1 dX2_hasWord_13 rfl (lv_at hl 0 rfl) ?_
  refine q_get (v := .ref (a 0)) C hW 0 rfl rfl 0 (by decide) gu_X2 (C.2.2.2.2 _ fl_X2_9) rfl rfl dX2_hasWord_14 ?_
  refine lv_iload_n C.1 C.2.1 dX2_hasWord_17 rfl (lv_at hl 1 rfl) ?_
  refine q_ialdN (f := lSz L) C hW 1 rfl (k := n) (by omega) (by decide) dX2_hasWord_18 ?_
  refine lv_icmp_ge (tgt := 26) C.1 C.2.1 dX2_hasWord_19 (by decide) (fun c_19 => ?_) (fun c_19 => ?_)
  · refine lv_iconst (v := nI 0) C.1 C.2.1 dX2_hasWord_26 (by decide) ?_
    exact q_iret C hRt hLk hW (by decide) L ⟨(Eq.symm (by unfold inR; rw [if_neg c_9, if_pos c_19]; rfl)), rfl⟩  rfl (Nat.le_of_ble_eq_true rfl) (Nat.le_of_ble_eq_true rfl) dX2_hasWord_27
  refine lv_iconst (v := nI 1) C.1 C.2.1 dX2_hasWord_22 (by decide) ?_
  refine lv_goto (tgt := 27) C.1 C.2.1 dX2_hasWord_23 (by decide) ?_
  exact q_iret C hRt hLk hW (by decide) L ⟨(Eq.symm (by unfold inR; rw [if_neg c_9, if_neg c_19]; rfl)), rfl⟩  rfl (Nat.le_of_ble_eq_true rfl) (Nat.le_of_ble_eq_true rfl) dX2_hasWord_27

theorem hd_X2_startOf : yX2_startOf.cls = RX2 ∧ yX2_startOf.cls ≠ "java/lang/invoke/MethodHandle" ∧ yX2_startOf.cls ≠ "java/lang/invoke/VarHandle" ∧ (parseMethodDescriptor yX2_startOf.desc).map (fun d => d.parameters.length) = some 1 := by decide +kernel
set_option maxHeartbeats 4000000 in
set_option maxRecDepth 100000 in
theorem c_X2_startOf (l : Launch) (D : va_G) (g : Nat → ClassId) (h : Nat) (a : Nat → Nat) (L : LyS) (n : Nat) (hL : LOK L) (hn : n < lNm L) (sz : Nat) : qMi l yX2_startOf (.code yX2_startOf cX2_startOf 2 (some .int) :: GW) ({ frames := 1, cells := 0, slots := 0, locals := 21 } : Room) D g [.ref h, .int (nI n)] (wL g h a L) sz (fun (r : Int32) (u : LyS) => oI (lSt L n) = r ∧ L = u) (fun (u : LyS) => (wL g h a u)) 0 0 := by
  refine q_entry (cc := cX2_startOf) (nL := 2) (ret := (some .int)) rfl (by decide) (Nat.le_of_ble_eq_true rfl) (fun pp ee ss mm bb mt kc ls C hRt hLk hin hsz hW hl => ?_)
  have hl : lv_has ls 2 [(0, .ref h), (1, .int (nI n))] := hl
  have hN := hL.1
  refine lv_aload_n C.1 C.2.1 dX2_startOf_0 rfl (lv_at hl 0 rfl) ?_
  refine lv_iload_n C.1 C.2.1 dX2_startOf_1 rfl (lv_at hl 1 rfl) ?_
  refine q_callVi (rest := []) C (c_X2_hasName_V l D g h a L n hL (by omega) _) (gw_V ml_X2_25 im_X2_hasName se_X2_X2_hasName ini_X2 cd_X2_hasName rfl) rfl rfl rfl hd_X2_hasName ⟨Nat.le_of_ble_eq_true rfl, Nat.le_of_ble_eq_true rfl⟩ hW pm_all (fun u_1 => (wL g h a u_1)) (fun _ => pm_all) rfl rfl hl.1 rfl (Nat.le_of_ble_eq_true rfl) ⟨Nat.le_of_ble_eq_true rfl, Nat.le_of_ble_eq_true rfl⟩ dX2_startOf_2 (fun r_1 u_1 H locs e_1 hW => ?_)
  obtain ⟨rfl, rfl⟩ := e_1
  refine q_bt (b := true) (tgt := 17) C dX2_startOf_5 (by decide) (fun c_5 => absurd c_5 (by decide)) (fun c_5 => ?_)
  refine lv_aload_n C.1 C.2.1 dX2_startOf_8 rfl (lv_at hl 0 rfl) ?_
  refine q_get (v := .ref (a 1)) C hW 0 rfl rfl 1 (by decide) gu_X2 (C.2.2.2.2 _ fl_X2_15) rfl rfl dX2_startOf_9 ?_
  refine lv_iload_n C.1 C.2.1 dX2_startOf_12 rfl (lv_at hl 1 rfl) ?_
  refine q_ialdO (f := lSt L) C hW 2 rfl (k := n) (by omega) (by decide) dX2_startOf_13 ?_
  refine lv_goto (tgt := 18) C.1 C.2.1 dX2_startOf_14 (by decide) ?_
  exact q_iret C hRt hLk hW rfl L ⟨rfl, rfl⟩  rfl (Nat.le_of_ble_eq_true rfl) (Nat.le_of_ble_eq_true rfl) dX2_startOf_18

theorem hd_X2_setStart : yX2_setStart.cls = RX2 ∧ yX2_setStart.cls ≠ "java/lang/invoke/MethodHandle" ∧ yX2_setStart.cls ≠ "java/lang/invoke/VarHandle" ∧ (parseMethodDescriptor yX2_setStart.desc).map (fun d => d.parameters.length) = some 2 := by decide +kernel
set_option maxHeartbeats 4000000 in
set_option maxRecDepth 100000 in
theorem c_X2_setStart (l : Launch) (D : va_G) (g : Nat → ClassId) (h : Nat) (a : Nat → Nat) (L : LyS) (n : Nat) (o : Option Nat) (hL : LOK L) (hn : n < lNm L) (sz : Nat) : qMv l yX2_setStart (.code yX2_setStart cX2_setStart 3 none :: GW) ({ frames := 1, cells := 0, slots := 0, locals := 21 } : Room) D g [.ref h, .int (nI n), .int (oI o)] (wL g h a L) sz (fun (u : LyS) => (pSetSt L n o) = u) (fun (u : LyS) => (wL g h a u)) 0 0 := by
  refine q_entry (cc := cX2_setStart) (nL := 3) (ret := none) rfl (by decide) (Nat.le_of_ble_eq_true rfl) (fun pp ee ss mm bb mt kc ls C hRt hLk hin hsz hW hl => ?_)
  have hl : lv_has ls 3 [(0, .ref h), (1, .int (nI n)), (2, .int (oI o))] := hl
  have hN := hL.1
  refine lv_aload_n C.1 C.2.1 dX2_setStart_0 rfl (lv_at hl 0 rfl) ?_
  refine lv_iload_n C.1 C.2.1 dX2_setStart_1 rfl (lv_at hl 1 rfl) ?_
  refine q_callVi (rest := []) C (c_X2_hasName_V l D g h a L n hL (by omega) _) (gw_V ml_X2_25 im_X2_hasName se_X2_X2_hasName ini_X2 cd_X2_hasName rfl) rfl rfl rfl hd_X2_hasName ⟨Nat.le_of_ble_eq_true rfl, Nat.le_of_ble_eq_true rfl⟩ hW pm_all (fun u_1 => (wL g h a u_1)) (fun _ => pm_all) rfl rfl hl.1 rfl (Nat.le_of_ble_eq_true rfl) ⟨Nat.le_of_ble_eq_true rfl, Nat.le_of_ble_eq_true rfl⟩ dX2_setStart_2 (fun r_1 u_1 H locs e_1 hW => ?_)
  obtain ⟨rfl, rfl⟩ := e_1
  refine q_bt (b := true) (tgt := 15) C dX2_setStart_5 (by decide) (fun c_5 => absurd c_5 (by decide)) (fun c_5 => ?_)
  refine lv_aload_n C.1 C.2.1 dX2_setStart_8 rfl (lv_at hl 0 rfl) ?_
  refine q_get (v := .ref (a 1)) C hW 0 rfl rfl 1 (by decide) gu_X2 (C.2.2.2.2 _ fl_X2_15) rfl rfl dX2_setStart_9 ?_
  refine lv_iload_n C.1 C.2.1 dX2_setStart_12 rfl (lv_at hl 1 rfl) ?_
  refine lv_iload_n C.1 C.2.1 dX2_setStart_13 rfl (lv_at hl 2 rfl) ?_
  refine q_iastO C hW 2 rfl (k := n) (by omega) (by decide) (v := o) (wL g h a (lSz L, va_up (lSt L) n o, lBf L, lNm L)) rfl dX2_setStart_14 (fun H locs hW => ?_)
  exact q_vret C hRt hLk hW (lSz L, va_up (lSt L) n o, lBf L, lNm L) rfl  rfl (Nat.le_of_ble_eq_true rfl) (Nat.le_of_ble_eq_true rfl) dX2_setStart_15

theorem hd_X2_addUnplaced : yX2_addUnplaced.cls = RX2 ∧ yX2_addUnplaced.cls ≠ "java/lang/invoke/MethodHandle" ∧ yX2_addUnplaced.cls ≠ "java/lang/invoke/VarHandle" ∧ (parseMethodDescriptor yX2_addUnplaced.desc).map (fun d => d.parameters.length) = some 1 := by decide +kernel
set_option maxHeartbeats 4000000 in
set_option maxRecDepth 100000 in
theorem c_X2_addUnplaced (l : Launch) (D : va_G) (g : Nat → ClassId) (h : Nat) (a : Nat → Nat) (L : LyS) (k : Nat) (hL : LOK L) (hf : lNm L < 12) (sz : Nat) : qMi l yX2_addUnplaced (.code yX2_addUnplaced cX2_addUnplaced 2 (some .int) :: GW) ({ frames := 1, cells := 0, slots := 0, locals := 20 } : Room) D g [.ref h, .int (nI k)] (wL g h a L) sz (fun (r : Int32) (u : LyS) => nI (lNm L) = r ∧ (pAdd L k) = u) (fun (u : LyS) => (wL g h a u)) 0 0 := by
  refine q_entry (cc := cX2_addUnplaced) (nL := 2) (ret := (some .int)) rfl (by decide) (Nat.le_of_ble_eq_true rfl) (fun pp ee ss mm bb mt kc ls C hRt hLk hin hsz hW hl => ?_)
  have hl : lv_has ls 2 [(0, .ref h), (1, .int (nI k))] := hl
  have hN := hL.1
  refine lv_aload_n C.1 C.2.1 dX2_addUnplaced_0 rfl (lv_at hl 0 rfl) ?_
  refine q_callVi (rest := []) C (c_X2_isFull l D g h a L hL _) (gw_V ml_X2_29 im_X2_isFull se_X2_X2_isFull ini_X2 cd_X2_isFull rfl) rfl rfl rfl hd_X2_isFull ⟨Nat.le_of_ble_eq_true rfl, Nat.le_of_ble_eq_true rfl⟩ hW pm_all (fun u_1 => (wL g h a u_1)) (fun _ => pm_all) rfl rfl hl.1 rfl (Nat.le_of_ble_eq_true rfl) ⟨Nat.le_of_ble_eq_true rfl, Nat.le_of_ble_eq_true rfl⟩ dX2_addUnplaced_1 (fun r_1 u_1 H locs e_1 hW => ?_)
  obtain ⟨rfl, rfl⟩ := e_1
  refine q_bt (b := decide (12 ≤ lNm L)) (tgt := 9) C dX2_addUnplaced_4 (by decide) (fun c_4 => ?_) (fun c_4 => absurd (of_decide_eq_true c_4) (by omega))
  refine lv_aload_n C.1 C.2.1 dX2_addUnplaced_9 rfl (lv_at hl 0 rfl) ?_
  refine q_get (v := .ref (a 0)) C hW 0 rfl rfl 0 (by decide) gu_X2 (C.2.2.2.2 _ fl_X2_9) rfl rfl dX2_addUnplaced_10 ?_
  refine lv_aload_n C.1 C.2.1 dX2_addUnplaced_13 rfl (lv_at hl 0 rfl) ?_
  refine q_get (v := .int (nI (lNm L))) C hW 0 rfl rfl 3 (by decide) gu_X2 (C.2.2.2.2 _ fl_X2_21) rfl rfl dX2_addUnplaced_14 ?_
  refine lv_iload_n C.1 C.2.1 dX2_addUnplaced_17 rfl (lv_at hl 1 rfl) ?_
  refine q_iastN C hW 1 rfl (k := lNm L) (by omega) (by decide) (v := k) (wL g h a (va_up (lSz L) (lNm L) k, lSt L, lBf L, lNm L)) rfl dX2_addUnplaced_18 (fun H locs hW => ?_)
  refine lv_aload_n C.1 C.2.1 dX2_addUnplaced_19 rfl (lv_at hl 0 rfl) ?_
  refine q_get (v := .ref (a 1)) C hW 0 rfl rfl 1 (by decide) gu_X2 (C.2.2.2.2 _ fl_X2_15) rfl rfl dX2_addUnplaced_20 ?_
  refine lv_aload_n C.1 C.2.1 dX2_addUnplaced_23 rfl (lv_at hl 0 rfl) ?_
  refine q_get (v := .int (nI (lNm L))) C hW 0 rfl rfl 3 (by decide) gu_X2 (C.2.2.2.2 _ fl_X2_21) rfl rfl dX2_addUnplaced_24 ?_
  refine lv_iconst (v := (-1)) C.1 C.2.1 dX2_addUnplaced_27 (by decide) ?_
  refine q_iastO C hW 2 rfl (k := lNm L) (by omega) (by decide) (v := none) (wL g h a (va_up (lSz L) (lNm L) k, va_up (lSt L) (lNm L) none, lBf L, lNm L)) rfl dX2_addUnplaced_28 (fun H locs hW => ?_)
  refine lv_aload_n C.1 C.2.1 dX2_addUnplaced_29 rfl (lv_at hl 0 rfl) ?_
  refine lv_dup C.1 C.2.1 dX2_addUnplaced_30 rfl ?_
  refine q_get (v := .int (nI (lNm L))) C hW 0 rfl rfl 3 (by decide) gu_X2 (C.2.2.2.2 _ fl_X2_21) rfl rfl dX2_addUnplaced_31 ?_
  refine lv_iconst (v := nI 1) C.1 C.2.1 dX2_addUnplaced_34 (by decide) ?_
  refine q_iadd C dX2_addUnplaced_35 ?_
  refine q_put C hW 0 rfl rfl 3 (by decide) gu_X2 tyX2_ok nmX2 (C.2.2.2.2 _ fl_X2_21) rfl rfl rfl rfl (Nat.le_of_ble_eq_true rfl) (wL g h a (va_up (lSz L) (lNm L) k, va_up (lSt L) (lNm L) none, lBf L, lNm L + 1)) rfl dX2_addUnplaced_36 (fun H locs hW => ?_)
  refine lv_aload_n C.1 C.2.1 dX2_addUnplaced_39 rfl (lv_at hl 0 rfl) ?_
  refine q_get (v := .int (nI (lNm L + 1))) C hW 0 rfl rfl 3 (by decide) gu_X2 (C.2.2.2.2 _ fl_X2_21) rfl rfl dX2_addUnplaced_40 ?_
  refine lv_iconst (v := nI 1) C.1 C.2.1 dX2_addUnplaced_43 (by decide) ?_
  refine q_isub C (by omega) dX2_addUnplaced_44 ?_
  exact q_iret C hRt hLk hW rfl (va_up (lSz L) (lNm L) k, va_up (lSt L) (lNm L) none, lBf L, lNm L + 1) ⟨(Eq.symm (by rw [Nat.add_sub_cancel])), rfl⟩  rfl (Nat.le_of_ble_eq_true rfl) (Nat.le_of_ble_eq_true rfl) dX2_addUnplaced_45

theorem hd_X2_isInMemory : yX2_isInMemory.cls = RX2 ∧ yX2_isInMemory.cls ≠ "java/lang/invoke/MethodHandle" ∧ yX2_isInMemory.cls ≠ "java/lang/invoke/VarHandle" ∧ (parseMethodDescriptor yX2_isInMemory.desc).map (fun d => d.parameters.length) = some 2 := by decide +kernel
set_option maxHeartbeats 4000000 in
set_option maxRecDepth 100000 in
theorem c_X2_isInMemory (l : Launch) (D : va_G) (g : Nat → ClassId) (h : Nat) (a : Nat → Nat) (L : LyS) (n : Nat) (v : Int32) (hL : LOK L) (hn : n < lNm L) (sz : Nat) : qMi l yX2_isInMemory (.code yX2_isInMemory cX2_isInMemory 3 (some .boolean) :: GW) ({ frames := 1, cells := 0, slots := 0, locals := 21 } : Room) D g [.ref h, .int (nI n), .int v] (wL g h a L) sz (fun (r : Int32) (u : LyS) => bI (inMem L n v) = r ∧ L = u) (fun (u : LyS) => (wL g h a u)) 0 0 := by
  refine q_entry (cc := cX2_isInMemory) (nL := 3) (ret := (some .boolean)) rfl (by decide) (Nat.le_of_ble_eq_true rfl) (fun pp ee ss mm bb mt kc ls C hRt hLk hin hsz hW hl => ?_)
  have hl : lv_has ls 3 [(0, .ref h), (1, .int (nI n)), (2, .int v)] := hl
  have hN := hL.1
  refine lv_aload_n C.1 C.2.1 dX2_isInMemory_0 rfl (lv_at hl 0 rfl) ?_
  refine lv_iload_n C.1 C.2.1 dX2_isInMemory_1 rfl (lv_at hl 1 rfl) ?_
  refine q_callVi (rest := []) C (c_X2_hasName_V l D g h a L n hL (by omega) _) (gw_V ml_X2_25 im_X2_hasName se_X2_X2_hasName ini_X2 cd_X2_hasName rfl) rfl rfl rfl hd_X2_hasName ⟨Nat.le_of_ble_eq_true rfl, Nat.le_of_ble_eq_true rfl⟩ hW pm_all (fun u_1 => (wL g h a u_1)) (fun _ => pm_all) rfl rfl hl.1 rfl (Nat.le_of_ble_eq_true rfl) ⟨Nat.le_of_ble_eq_true rfl, Nat.le_of_ble_eq_true rfl⟩ dX2_isInMemory_2 (fun r_1 u_1 H locs e_1 hW => ?_)
  obtain ⟨rfl, rfl⟩ := e_1
  refine q_bt (b := true) (tgt := 30) C dX2_isInMemory_5 (by decide) (fun c_5 => absurd c_5 (by decide)) (fun c_5 => ?_)
  refine lv_iload_n C.1 C.2.1 dX2_isInMemory_8 rfl (lv_at hl 2 rfl) ?_
  refine lv_if_lt (tgt := 30) C.1 C.2.1 dX2_isInMemory_9 (by decide) (fun c_9 => ?_) (fun c_9 => ?_)
  · refine lv_iconst (v := nI 0) C.1 C.2.1 dX2_isInMemory_30 (by decide) ?_
    exact q_iret C hRt hLk hW (by decide) L ⟨(Eq.symm (by unfold inMem; rw [if_pos c_9]; rfl)), rfl⟩  rfl (Nat.le_of_ble_eq_true rfl) (Nat.le_of_ble_eq_true rfl) dX2_isInMemory_31
  refine lv_iload_n C.1 C.2.1 dX2_isInMemory_12 rfl (lv_at hl 2 rfl) ?_
  refine lv_sipush (v := nI 512) C.1 C.2.1 dX2_isInMemory_13 (by decide) ?_
  refine lv_aload_n C.1 C.2.1 dX2_isInMemory_16 rfl (lv_at hl 0 rfl) ?_
  refine q_get (v := .ref (a 0)) C hW 0 rfl rfl 0 (by decide) gu_X2 (C.2.2.2.2 _ fl_X2_9) rfl rfl dX2_isInMemory_17 ?_
  refine lv_iload_n C.1 C.2.1 dX2_isInMemory_20 rfl (lv_at hl 1 rfl) ?_
  refine q_ialdN (f := lSz L) C hW 1 rfl (k := n) (by omega) (by decide) dX2_isInMemory_21 ?_
  refine q_isub C (by have := hL.sz (i := n) (by omega); omega) dX2_isInMemory_22 ?_
  refine lv_icmp_gt (tgt := 30) C.1 C.2.1 dX2_isInMemory_23 (by decide) (fun c_23 => ?_) (fun c_23 => ?_)
  · refine lv_iconst (v := nI 0) C.1 C.2.1 dX2_isInMemory_30 (by decide) ?_
    exact q_iret C hRt hLk hW (by decide) L ⟨(Eq.symm (by unfold inMem; rw [if_neg c_9, if_pos c_23]; rfl)), rfl⟩  rfl (Nat.le_of_ble_eq_true rfl) (Nat.le_of_ble_eq_true rfl) dX2_isInMemory_31
  refine lv_iconst (v := nI 1) C.1 C.2.1 dX2_isInMemory_26 (by decide) ?_
  refine lv_goto (tgt := 31) C.1 C.2.1 dX2_isInMemory_27 (by decide) ?_
  exact q_iret C hRt hLk hW (by decide) L ⟨(Eq.symm (by unfold inMem; rw [if_neg c_9, if_neg c_23]; rfl)), rfl⟩  rfl (Nat.le_of_ble_eq_true rfl) (Nat.le_of_ble_eq_true rfl) dX2_isInMemory_31

set_option maxHeartbeats 4000000 in
set_option maxRecDepth 100000 in
theorem c_X2_isInMemory_N (l : Launch) (D : va_G) (g : Nat → ClassId) (h : Nat) (a : Nat → Nat) (L : LyS) (n : Nat) (x : Nat) (hL : LOK L) (hn : n < lNm L) (hx : x < 512) (sz : Nat) : qMi l yX2_isInMemory (.code yX2_isInMemory cX2_isInMemory 3 (some .boolean) :: GW) ({ frames := 1, cells := 0, slots := 0, locals := 21 } : Room) D g [.ref h, .int (nI n), .int (nI x)] (wL g h a L) sz (fun (r : Int32) (u : LyS) => bI (decide (x ≤ 512 - lSz L n)) = r ∧ L = u) (fun (u : LyS) => (wL g h a u)) 0 0 := by
  refine q_entry (cc := cX2_isInMemory) (nL := 3) (ret := (some .boolean)) rfl (by decide) (Nat.le_of_ble_eq_true rfl) (fun pp ee ss mm bb mt kc ls C hRt hLk hin hsz hW hl => ?_)
  have hl : lv_has ls 3 [(0, .ref h), (1, .int (nI n)), (2, .int (nI x))] := hl
  have hN := hL.1
  refine lv_aload_n C.1 C.2.1 dX2_isInMemory_0 rfl (lv_at hl 0 rfl) ?_
  refine lv_iload_n C.1 C.2.1 dX2_isInMemory_1 rfl (lv_at hl 1 rfl) ?_
  refine q_callVi (rest := []) C (c_X2_hasName_V l D g h a L n hL (by omega) _) (gw_V ml_X2_25 im_X2_hasName se_X2_X2_hasName ini_X2 cd_X2_hasName rfl) rfl rfl rfl hd_X2_hasName ⟨Nat.le_of_ble_eq_true rfl, Nat.le_of_ble_eq_true rfl⟩ hW pm_all (fun u_1 => (wL g h a u_1)) (fun _ => pm_all) rfl rfl hl.1 rfl (Nat.le_of_ble_eq_true rfl) ⟨Nat.le_of_ble_eq_true rfl, Nat.le_of_ble_eq_true rfl⟩ dX2_isInMemory_2 (fun r_1 u_1 H locs e_1 hW => ?_)
  obtain ⟨rfl, rfl⟩ := e_1
  refine q_bt (b := true) (tgt := 30) C dX2_isInMemory_5 (by decide) (fun c_5 => absurd c_5 (by decide)) (fun c_5 => ?_)
  refine lv_iload_n C.1 C.2.1 dX2_isInMemory_8 rfl (lv_at hl 2 rfl) ?_
  refine lv_if_lt (tgt := 30) C.1 C.2.1 dX2_isInMemory_9 (by decide) (fun c_9 => absurd c_9 (nI_pos (by omega))) (fun c_9 => ?_)
  refine lv_iload_n C.1 C.2.1 dX2_isInMemory_12 rfl (lv_at hl 2 rfl) ?_
  refine lv_sipush (v := nI 512) C.1 C.2.1 dX2_isInMemory_13 (by decide) ?_
  refine lv_aload_n C.1 C.2.1 dX2_isInMemory_16 rfl (lv_at hl 0 rfl) ?_
  refine q_get (v := .ref (a 0)) C hW 0 rfl rfl 0 (by decide) gu_X2 (C.2.2.2.2 _ fl_X2_9) rfl rfl dX2_isInMemory_17 ?_
  refine lv_iload_n C.1 C.2.1 dX2_isInMemory_20 rfl (lv_at hl 1 rfl) ?_
  refine q_ialdN (f := lSz L) C hW 1 rfl (k := n) (by omega) (by decide) dX2_isInMemory_21 ?_
  refine q_isub C (by have := hL.sz (i := n) (by omega); omega) dX2_isInMemory_22 ?_
  refine q_gt (tgt := 30) C (by omega) (by omega) dX2_isInMemory_23 (by decide) (fun c_23 => ?_) (fun c_23 => ?_)
  · refine lv_iconst (v := nI 0) C.1 C.2.1 dX2_isInMemory_30 (by decide) ?_
    exact q_iret C hRt hLk hW (by decide) L ⟨(Eq.symm (by rw [decide_eq_false (by omega)]; rfl)), rfl⟩  rfl (Nat.le_of_ble_eq_true rfl) (Nat.le_of_ble_eq_true rfl) dX2_isInMemory_31
  refine lv_iconst (v := nI 1) C.1 C.2.1 dX2_isInMemory_26 (by decide) ?_
  refine lv_goto (tgt := 31) C.1 C.2.1 dX2_isInMemory_27 (by decide) ?_
  exact q_iret C hRt hLk hW (by decide) L ⟨(Eq.symm (by rw [decide_eq_true c_23]; rfl)), rfl⟩  rfl (Nat.le_of_ble_eq_true rfl) (Nat.le_of_ble_eq_true rfl) dX2_isInMemory_31

theorem hd_X2_isFree : yX2_isFree.cls = RX2 ∧ yX2_isFree.cls ≠ "java/lang/invoke/MethodHandle" ∧ yX2_isFree.cls ≠ "java/lang/invoke/VarHandle" ∧ (parseMethodDescriptor yX2_isFree.desc).map (fun d => d.parameters.length) = some 2 := by decide +kernel
set_option maxHeartbeats 4000000 in
set_option maxRecDepth 100000 in
theorem c_X2_isFree (l : Launch) (D : va_G) (g : Nat → ClassId) (h : Nat) (a : Nat → Nat) (L : LyS) (n : Nat) (x : Nat) (hL : LOK L) (hn : n < lNm L) (hx : x < 512) (sz : Nat) : qMi l yX2_isFree (.code yX2_isFree cX2_isFree 5 (some .boolean) :: GW) ({ frames := 1, cells := 0, slots := 0, locals := 21 } : Room) D g [.ref h, .int (nI n), .int (nI x)] (wL g h a L) sz (fun (r : Int32) (u : LyS) => bI (pFree L n x) = r ∧ L = u) (fun (u : LyS) => (wL g h a u)) 0 0 := by
  refine q_entry (cc := cX2_isFree) (nL := 5) (ret := (some .boolean)) rfl (by decide) (Nat.le_of_ble_eq_true rfl) (fun pp ee ss mm bb mt kc ls C hRt hLk hin hsz hW hl => ?_)
  have hl : lv_has ls 5 [(0, .ref h), (1, .int (nI n)), (2, .int (nI x))] := hl
  have hN := hL.1
  refine lv_aload_n C.1 C.2.1 dX2_isFree_0 rfl (lv_at hl 0 rfl) ?_
  refine lv_iload_n C.1 C.2.1 dX2_isFree_1 rfl (lv_at hl 1 rfl) ?_
  refine q_callVi (rest := []) C (c_X2_hasName_V l D g h a L n hL (by omega) _) (gw_V ml_X2_25 im_X2_hasName se_X2_X2_hasName ini_X2 cd_X2_hasName rfl) rfl rfl rfl hd_X2_hasName ⟨Nat.le_of_ble_eq_true rfl, Nat.le_of_ble_eq_true rfl⟩ hW pm_all (fun u_1 => (wL g h a u_1)) (fun _ => pm_all) rfl rfl hl.1 rfl (Nat.le_of_ble_eq_true rfl) ⟨Nat.le_of_ble_eq_true rfl, Nat.le_of_ble_eq_true rfl⟩ dX2_isFree_2 (fun r_1 u_1 H locs e_1 hW => ?_)
  obtain ⟨rfl, rfl⟩ := e_1
  refine q_bf (b := true) (tgt := 10) C dX2_isFree_5 (by decide) (fun c_5 => ?_) (fun c_5 => absurd c_5 (by decide))
  refine lv_iconst (v := nI 0) C.1 C.2.1 dX2_isFree_10 (by decide) ?_
  refine lv_istore_n (lv' := [(3, .int (nI 0)), (0, .ref h), (1, .int (nI n)), (2, .int (nI x))]) C.1 C.2.1 dX2_isFree_11 rfl hl (by decide) rfl (fun ls hl => ?_)
  have L_12 : ∀ (nf : Nat) (i : Nat) (hi : i ≤ lNm L) (hj : ∀ j, j < i → clash L n x j = false) (x3 : Int32) (e3 : x3 = nI i) (hmu : lNm L - i < nf) (ls : Array Slot) (H : Heap) (locs : List Loc), lv_has ls 5 [(0, .ref h), (1, .int (nI n)), (2, .int (nI x)), (3, .int x3)] → qW D g (va_A (wL g h a L) sz) ss.heap ss (wL g h a L) H locs → W pp l ee ({ frames := 1, cells := 0, slots := 0, locals := 21 } : Room) ss mm [.ref h, .int (nI n), .int (nI x)].toArray bb mt kc H locs 0 0 (MQ bb (va_Qi (fun (r : Int32) (u : LyS) => bI (pFree L n x) = r ∧ L = u) (qB D g (wL g h a L) sz (fun (u : LyS) => (wL g h a u))) (va_A (wL g h a L) sz)) [.ref h, .int (nI n), .int (nI x)].toArray ss 0 0 (va_A (wL g h a L) sz)) (F0 mm 12 ls []) := by
    intro nf
    induction nf with
    | zero =>
      intro i hi hj x3 e3 hmu ls H locs hl hW
      exact absurd hmu (by omega)
    | succ nf ih =>
      intro i hi hj x3 e3 hmu ls H locs hl hW
      subst e3
      refine lv_iload_n C.1 C.2.1 dX2_isFree_12 rfl (lv_at hl 3 rfl) ?_
      refine lv_aload_n C.1 C.2.1 dX2_isFree_13 rfl (lv_at hl 0 rfl) ?_
      refine q_get (v := .int (nI (lNm L))) C hW 0 rfl rfl 3 (by decide) gu_X2 (C.2.2.2.2 _ fl_X2_21) rfl rfl dX2_isFree_14 ?_
      refine q_ge (tgt := 73) C (by omega) (by omega) dX2_isFree_17 (by decide) (fun c_17 => ?_) (fun c_17 => ?_)
      · refine lv_iconst (v := nI 1) C.1 C.2.1 dX2_isFree_73 (by decide) ?_
        exact q_iret C hRt hLk hW (by decide) L ⟨(Eq.symm (by unfold pFree; rw [allB_t (fun j hj9 => by rw [hj j (by omega)]; rfl)]; rfl)), rfl⟩  rfl (Nat.le_of_ble_eq_true rfl) (Nat.le_of_ble_eq_true rfl) dX2_isFree_74
      refine lv_aload_n C.1 C.2.1 dX2_isFree_20 rfl (lv_at hl 0 rfl) ?_
      refine q_get (v := .ref (a 1)) C hW 0 rfl rfl 1 (by decide) gu_X2 (C.2.2.2.2 _ fl_X2_15) rfl rfl dX2_isFree_21 ?_
      refine lv_iload_n C.1 C.2.1 dX2_isFree_24 rfl (lv_at hl 3 rfl) ?_
      refine q_ialdO (f := lSt L) C hW 2 rfl (k := i) (by omega) (by decide) dX2_isFree_25 ?_
      refine lv_istore (lv' := [(4, .int (oI ((lSt L) i))), (0, .ref h), (1, .int (nI n)), (2, .int (nI x)), (3, .int (nI i))]) C.1 C.2.1 dX2_isFree_26 hl (by decide) rfl (fun ls hl => ?_)
      refine lv_iload_n C.1 C.2.1 dX2_isFree_28 rfl (lv_at hl 4 rfl) ?_
      refine lv_iload_n C.1 C.2.1 dX2_isFree_29 rfl (lv_at hl 2 rfl) ?_
      refine q_eq (tgt := 67) C (by omega) (by omega) dX2_isFree_30 (by decide) (fun c_30 => ?_) (fun c_30 => ?_)
      · refine q_iinc (d := 1) (lv' := [(3, .int (nI (i + 1))), (4, .int (oI ((lSt L) i))), (0, .ref h), (1, .int (nI n)), (2, .int (nI x))]) C dX2_isFree_67 (by decide) hl (k := 4) rfl (by decide) rfl (fun ls hl => ?_)
        refine lv_goto (tgt := 12) C.1 C.2.1 dX2_isFree_70 (by decide) ?_
        exact ih (i + 1) (by omega) (fun j hj9 => (Nat.lt_succ_iff_lt_or_eq.mp hj9).elim (hj j) (fun e9 => by rw [e9]; exact clash_n c_30)) _ rfl (by omega) ls _ _ (lv_sub hl [2, 3, 4, 0] rfl) hW
      refine lv_iload C.1 C.2.1 dX2_isFree_33 (lv_at hl 0 rfl) ?_
      refine lv_iconst (v := (-1)) C.1 C.2.1 dX2_isFree_35 (by decide) ?_
      refine q_oeq (o := (lSt L) i) (tgt := 67) C (fun i9 e9 => by have := hL.st (by omega) e9; omega) dX2_isFree_36 (by decide) (fun o_36 => ?_) (fun j_36 o_36 => ?_)
      · rw [o_36] at hl
        have hl : lv_has ls 5 [(4, .int (-1)), (0, .ref h), (1, .int (nI n)), (2, .int (nI x)), (3, .int (nI i))] := hl
        refine q_iinc (d := 1) (lv' := [(3, .int (nI (i + 1))), (4, .int (-1)), (0, .ref h), (1, .int (nI n)), (2, .int (nI x))]) C dX2_isFree_67 (by decide) hl (k := 4) rfl (by decide) rfl (fun ls hl => ?_)
        refine lv_goto (tgt := 12) C.1 C.2.1 dX2_isFree_70 (by decide) ?_
        exact ih (i + 1) (by omega) (fun j hj9 => (Nat.lt_succ_iff_lt_or_eq.mp hj9).elim (hj j) (fun e9 => by rw [e9]; exact clash_0 o_36)) _ rfl (by omega) ls _ _ (lv_sub hl [2, 3, 4, 0] rfl) hW
      rw [o_36] at hl
      have hl : lv_has ls 5 [(4, .int (nI j_36)), (0, .ref h), (1, .int (nI n)), (2, .int (nI x)), (3, .int (nI i))] := hl
      have hj_36 := hL.st (i := i) (by omega) o_36
      have hz1 := hL.sz (i := n) (by omega)
      have hz2 := hL.sz (i := i) (by omega)
      refine lv_iload C.1 C.2.1 dX2_isFree_39 (lv_at hl 0 rfl) ?_
      refine lv_iload_n C.1 C.2.1 dX2_isFree_41 rfl (lv_at hl 3 rfl) ?_
      refine lv_aload_n C.1 C.2.1 dX2_isFree_42 rfl (lv_at hl 1 rfl) ?_
      refine q_get (v := .ref (a 0)) C hW 0 rfl rfl 0 (by decide) gu_X2 (C.2.2.2.2 _ fl_X2_9) rfl rfl dX2_isFree_43 ?_
      refine lv_iload_n C.1 C.2.1 dX2_isFree_46 rfl (lv_at hl 2 rfl) ?_
      refine q_ialdN (f := lSz L) C hW 1 rfl (k := n) (by omega) (by decide) dX2_isFree_47 ?_
      refine q_iadd C dX2_isFree_48 ?_
      refine q_ge (tgt := 67) C (by omega) (by omega) dX2_isFree_49 (by decide) (fun c_49 => ?_) (fun c_49 => ?_)
      · refine q_iinc (d := 1) (lv' := [(3, .int (nI (i + 1))), (4, .int (nI j_36)), (0, .ref h), (1, .int (nI n)), (2, .int (nI x))]) C dX2_isFree_67 (by decide) hl (k := 4) rfl (by decide) rfl (fun ls hl => ?_)
        refine lv_goto (tgt := 12) C.1 C.2.1 dX2_isFree_70 (by decide) ?_
        exact ih (i + 1) (by omega) (fun j hj9 => (Nat.lt_succ_iff_lt_or_eq.mp hj9).elim (hj j) (fun e9 => by rw [e9]; exact clash_1 o_36 c_49)) _ rfl (by omega) ls _ _ (lv_sub hl [2, 3, 4, 0] rfl) hW
      refine lv_iload_n C.1 C.2.1 dX2_isFree_52 rfl (lv_at hl 3 rfl) ?_
      refine lv_iload C.1 C.2.1 dX2_isFree_53 (lv_at hl 0 rfl) ?_
      refine lv_aload_n C.1 C.2.1 dX2_isFree_55 rfl (lv_at hl 1 rfl) ?_
      refine q_get (v := .ref (a 0)) C hW 0 rfl rfl 0 (by decide) gu_X2 (C.2.2.2.2 _ fl_X2_9) rfl rfl dX2_isFree_56 ?_
      refine lv_iload_n C.1 C.2.1 dX2_isFree_59 rfl (lv_at hl 4 rfl) ?_
      refine q_ialdN (f := lSz L) C hW 1 rfl (k := i) (by omega) (by decide) dX2_isFree_60 ?_
      refine q_iadd C dX2_isFree_61 ?_
      refine q_ge (tgt := 67) C (by omega) (by omega) dX2_isFree_62 (by decide) (fun c_62 => ?_) (fun c_62 => ?_)
      · refine q_iinc (d := 1) (lv' := [(3, .int (nI (i + 1))), (4, .int (nI j_36)), (0, .ref h), (1, .int (nI n)), (2, .int (nI x))]) C dX2_isFree_67 (by decide) hl (k := 4) rfl (by decide) rfl (fun ls hl => ?_)
        refine lv_goto (tgt := 12) C.1 C.2.1 dX2_isFree_70 (by decide) ?_
        exact ih (i + 1) (by omega) (fun j hj9 => (Nat.lt_succ_iff_lt_or_eq.mp hj9).elim (hj j) (fun e9 => by rw [e9]; exact clash_2 o_36 c_62)) _ rfl (by omega) ls _ _ (lv_sub hl [2, 3, 4, 0] rfl) hW
      refine lv_iconst (v := nI 0) C.1 C.2.1 dX2_isFree_65 (by decide) ?_
      exact q_iret C hRt hLk hW (by decide) L ⟨(Eq.symm (by unfold pFree; rw [allB_f (i := i) (by omega) (by rw [clash_t c_30 o_36 c_49 c_62]; rfl)]; rfl)), rfl⟩  rfl (Nat.le_of_ble_eq_true rfl) (Nat.le_of_ble_eq_true rfl) dX2_isFree_66
  exact L_12 (lNm L - 0 + 1) 0 (by omega) (fun j hj9 => absurd hj9 (by omega)) _ rfl (by omega) ls _ _ (lv_sub hl [1, 2, 3, 0] rfl) hW

theorem hd_X2_findAt : yX2_findAt.cls = RX2 ∧ yX2_findAt.cls ≠ "java/lang/invoke/MethodHandle" ∧ yX2_findAt.cls ≠ "java/lang/invoke/VarHandle" ∧ (parseMethodDescriptor yX2_findAt.desc).map (fun d => d.parameters.length) = some 1 := by decide +kernel
set_option maxHeartbeats 4000000 in
set_option maxRecDepth 100000 in
theorem c_X2_findAt (l : Launch) (D : va_G) (g : Nat → ClassId) (h : Nat) (a : Nat → Nat) (L : LyS) (x : Nat) (hL : LOK L) (hx : x < 512) (sz : Nat) : qMi l yX2_findAt (.code yX2_findAt cX2_findAt 4 (some .int) :: GW) ({ frames := 0, cells := 0, slots := 0, locals := 0 } : Room) D g [.ref h, .int (nI x)] (wL g h a L) sz (fun (r : Int32) (u : LyS) => oI (pFind L x) = r ∧ L = u) (fun (u : LyS) => (wL g h a u)) 0 0 := by
  refine q_entry (cc := cX2_findAt) (nL := 4) (ret := (some .int)) rfl (by decide) (Nat.le_of_ble_eq_true rfl) (fun pp ee ss mm bb mt kc ls C hRt hLk hin hsz hW hl => ?_)
  have hl : lv_has ls 4 [(0, .ref h), (1, .int (nI x))] := hl
  have hN := hL.1
  refine lv_iconst (v := nI 0) C.1 C.2.1 dX2_findAt_0 (by decide) ?_
  refine lv_istore_n (lv' := [(2, .int (nI 0)), (0, .ref h), (1, .int (nI x))]) C.1 C.2.1 dX2_findAt_1 rfl hl (by decide) rfl (fun ls hl => ?_)
  have L_2 : ∀ (nf : Nat) (i : Nat) (hi : i ≤ lNm L) (hj : ∀ j, j < i → pAt L x j = false) (x2 : Int32) (e2 : x2 = nI i) (hmu : lNm L - i < nf) (ls : Array Slot) (H : Heap) (locs : List Loc), lv_has ls 4 [(0, .ref h), (1, .int (nI x)), (2, .int x2)] → qW D g (va_A (wL g h a L) sz) ss.heap ss (wL g h a L) H locs → W pp l ee ({ frames := 0, cells := 0, slots := 0, locals := 0 } : Room) ss mm [.ref h, .int (nI x)].toArray bb mt kc H locs 0 0 (MQ bb (va_Qi (fun (r : Int32) (u : LyS) => oI (pFind L x) = r ∧ L = u) (qB D g (wL g h a L) sz (fun (u : LyS) => (wL g h a u))) (va_A (wL g h a L) sz)) [.ref h, .int (nI x)].toArray ss 0 0 (va_A (wL g h a L) sz)) (F0 mm 2 ls []) := by
    intro nf
    induction nf with
    | zero =>
      intro i hi hj x2 e2 hmu ls H locs hl hW
      exact absurd hmu (by omega)
    | succ nf ih =>
      intro i hi hj x2 e2 hmu ls H locs hl hW
      subst e2
      refine lv_iload_n C.1 C.2.1 dX2_findAt_2 rfl (lv_at hl 2 rfl) ?_
      refine lv_aload_n C.1 C.2.1 dX2_findAt_3 rfl (lv_at hl 0 rfl) ?_
      refine q_get (v := .int (nI (lNm L))) C hW 0 rfl rfl 3 (by decide) gu_X2 (C.2.2.2.2 _ fl_X2_21) rfl rfl dX2_findAt_4 ?_
      refine q_ge (tgt := 47) C (by omega) (by omega) dX2_findAt_7 (by decide) (fun c_7 => ?_) (fun c_7 => ?_)
      · refine lv_iconst (v := (-1)) C.1 C.2.1 dX2_findAt_47 (by decide) ?_
        exact q_iret C hRt hLk hW rfl L ⟨(Eq.symm (by unfold pFind; rw [srch_none (fun j hj9 => hj j (by omega))]; rfl)), rfl⟩  rfl (Nat.le_of_ble_eq_true rfl) (Nat.le_of_ble_eq_true rfl) dX2_findAt_48
      refine lv_aload_n C.1 C.2.1 dX2_findAt_10 rfl (lv_at hl 0 rfl) ?_
      refine q_get (v := .ref (a 1)) C hW 0 rfl rfl 1 (by decide) gu_X2 (C.2.2.2.2 _ fl_X2_15) rfl rfl dX2_findAt_11 ?_
      refine lv_iload_n C.1 C.2.1 dX2_findAt_14 rfl (lv_at hl 2 rfl) ?_
      refine q_ialdO (f := lSt L) C hW 2 rfl (k := i) (by omega) (by decide) dX2_findAt_15 ?_
      refine lv_istore_n (lv' := [(3, .int (oI ((lSt L) i))), (0, .ref h), (1, .int (nI x)), (2, .int (nI i))]) C.1 C.2.1 dX2_findAt_16 rfl hl (by decide) rfl (fun ls hl => ?_)
      refine lv_iload_n C.1 C.2.1 dX2_findAt_17 rfl (lv_at hl 0 rfl) ?_
      refine lv_iconst (v := (-1)) C.1 C.2.1 dX2_findAt_18 (by decide) ?_
      refine q_oeq (o := (lSt L) i) (tgt := 41) C (fun i9 e9 => by have := hL.st (by omega) e9; omega) dX2_findAt_19 (by decide) (fun o_19 => ?_) (fun j_19 o_19 => ?_)
      · rw [o_19] at hl
        have hl : lv_has ls 4 [(3, .int (-1)), (0, .ref h), (1, .int (nI x)), (2, .int (nI i))] := hl
        refine q_iinc (d := 1) (lv' := [(2, .int (nI (i + 1))), (3, .int (-1)), (0, .ref h), (1, .int (nI x))]) C dX2_findAt_41 (by decide) hl (k := 3) rfl (by decide) rfl (fun ls hl => ?_)
        refine lv_goto (tgt := 2) C.1 C.2.1 dX2_findAt_44 (by decide) ?_
        exact ih (i + 1) (by omega) (fun j hj9 => (Nat.lt_succ_iff_lt_or_eq.mp hj9).elim (hj j) (fun e9 => by rw [e9]; exact pAt_0 o_19)) _ rfl (by omega) ls _ _ (lv_sub hl [2, 3, 0] rfl) hW
      rw [o_19] at hl
      have hl : lv_has ls 4 [(3, .int (nI j_19)), (0, .ref h), (1, .int (nI x)), (2, .int (nI i))] := hl
      have hj_19 := hL.st (i := i) (by omega) o_19
      have hz2 := hL.sz (i := i) (by omega)
      refine lv_iload_n C.1 C.2.1 dX2_findAt_22 rfl (lv_at hl 0 rfl) ?_
      refine lv_iload_n C.1 C.2.1 dX2_findAt_23 rfl (lv_at hl 2 rfl) ?_
      refine q_gt (tgt := 41) C (by omega) (by omega) dX2_findAt_24 (by decide) (fun c_24 => ?_) (fun c_24 => ?_)
      · refine q_iinc (d := 1) (lv' := [(2, .int (nI (i + 1))), (3, .int (nI j_19)), (0, .ref h), (1, .int (nI x))]) C dX2_findAt_41 (by decide) hl (k := 3) rfl (by decide) rfl (fun ls hl => ?_)
        refine lv_goto (tgt := 2) C.1 C.2.1 dX2_findAt_44 (by decide) ?_
        exact ih (i + 1) (by omega) (fun j hj9 => (Nat.lt_succ_iff_lt_or_eq.mp hj9).elim (hj j) (fun e9 => by rw [e9]; exact pAt_1 o_19 c_24)) _ rfl (by omega) ls _ _ (lv_sub hl [2, 3, 0] rfl) hW
      refine lv_iload_n C.1 C.2.1 dX2_findAt_27 rfl (lv_at hl 2 rfl) ?_
      refine lv_iload_n C.1 C.2.1 dX2_findAt_28 rfl (lv_at hl 0 rfl) ?_
      refine lv_aload_n C.1 C.2.1 dX2_findAt_29 rfl (lv_at hl 1 rfl) ?_
      refine q_get (v := .ref (a 0)) C hW 0 rfl rfl 0 (by decide) gu_X2 (C.2.2.2.2 _ fl_X2_9) rfl rfl dX2_findAt_30 ?_
      refine lv_iload_n C.1 C.2.1 dX2_findAt_33 rfl (lv_at hl 3 rfl) ?_
      refine q_ialdN (f := lSz L) C hW 1 rfl (k := i) (by omega) (by decide) dX2_findAt_34 ?_
      refine q_iadd C dX2_findAt_35 ?_
      refine q_ge (tgt := 41) C (by omega) (by omega) dX2_findAt_36 (by decide) (fun c_36 => ?_) (fun c_36 => ?_)
      · refine q_iinc (d := 1) (lv' := [(2, .int (nI (i + 1))), (3, .int (nI j_19)), (0, .ref h), (1, .int (nI x))]) C dX2_findAt_41 (by decide) hl (k := 3) rfl (by decide) rfl (fun ls hl => ?_)
        refine lv_goto (tgt := 2) C.1 C.2.1 dX2_findAt_44 (by decide) ?_
        exact ih (i + 1) (by omega) (fun j hj9 => (Nat.lt_succ_iff_lt_or_eq.mp hj9).elim (hj j) (fun e9 => by rw [e9]; exact pAt_2 o_19 c_36)) _ rfl (by omega) ls _ _ (lv_sub hl [2, 3, 0] rfl) hW
      refine lv_iload_n C.1 C.2.1 dX2_findAt_39 rfl (lv_at hl 3 rfl) ?_
      exact q_iret C hRt hLk hW rfl L ⟨(Eq.symm (by unfold pFind; rw [srch_some hj (by omega) (pAt_t o_19 c_24 c_36)]; rfl)), rfl⟩  rfl (Nat.le_of_ble_eq_true rfl) (Nat.le_of_ble_eq_true rfl) dX2_findAt_40
  exact L_2 (lNm L - 0 + 1) 0 (by omega) (fun j hj9 => absurd hj9 (by omega)) _ rfl (by omega) ls _ _ (lv_sub hl [1, 2, 0] rfl) hW

theorem hd_X2_lastLineOf : yX2_lastLineOf.cls = RX2 ∧ yX2_lastLineOf.cls ≠ "java/lang/invoke/MethodHandle" ∧ yX2_lastLineOf.cls ≠ "java/lang/invoke/VarHandle" ∧ (parseMethodDescriptor yX2_lastLineOf.desc).map (fun d => d.parameters.length) = some 1 := by decide +kernel
set_option maxHeartbeats 4000000 in
set_option maxRecDepth 100000 in
theorem c_X2_lastLineOf (l : Launch) (D : va_G) (g : Nat → ClassId) (h : Nat) (a : Nat → Nat) (L : LyS) (n : Nat) (st1 : Nat) (hL : LOK L) (hn : n < lNm L) (hs : lSt L n = some st1) (sz : Nat) : qMi l yX2_lastLineOf (.code yX2_lastLineOf cX2_lastLineOf 2 (some .int) :: GW) ({ frames := 2, cells := 0, slots := 0, locals := 42 } : Room) D g [.ref h, .int (nI n)] (wL g h a L) sz (fun (r : Int32) (u : LyS) => nI ((st1 + lSz L n - 1) / 8) = r ∧ L = u) (fun (u : LyS) => (wL g h a u)) 0 0 := by
  refine q_entry (cc := cX2_lastLineOf) (nL := 2) (ret := (some .int)) rfl (by decide) (Nat.le_of_ble_eq_true rfl) (fun pp ee ss mm bb mt kc ls C hRt hLk hin hsz hW hl => ?_)
  have hl : lv_has ls 2 [(0, .ref h), (1, .int (nI n))] := hl
  have hN := hL.1
  have hz1 := hL.sz (i := n) (by omega)
  have hz0 := hL.2.2.2 n hn
  have hs1 := hL.st (by omega) hs
  refine lv_aload_n C.1 C.2.1 dX2_lastLineOf_0 rfl (lv_at hl 0 rfl) ?_
  refine lv_iload_n C.1 C.2.1 dX2_lastLineOf_1 rfl (lv_at hl 1 rfl) ?_
  refine q_callVi (rest := []) C (c_X2_isPlaced l D g h a L n hL (by omega) _) (gw_V ml_X2_33 im_X2_isPlaced se_X2_X2_isPlaced ini_X2 cd_X2_isPlaced rfl) rfl rfl rfl hd_X2_isPlaced ⟨Nat.le_of_ble_eq_true rfl, Nat.le_of_ble_eq_true rfl⟩ hW pm_all (fun u_1 => (wL g h a u_1)) (fun _ => pm_all) rfl rfl hl.1 rfl (Nat.le_of_ble_eq_true rfl) ⟨Nat.le_of_ble_eq_true rfl, Nat.le_of_ble_eq_true rfl⟩ dX2_lastLineOf_2 (fun r_1 u_1 H locs e_1 hW => ?_)
  obtain ⟨rfl, rfl⟩ := e_1
  refine q_bt (b := (lSt L n).isSome) (tgt := 29) C dX2_lastLineOf_5 (by decide) (fun c_5 => absurd c_5 (by rw [hs]; simp)) (fun c_5 => ?_)
  refine lv_aload_n C.1 C.2.1 dX2_lastLineOf_8 rfl (lv_at hl 0 rfl) ?_
  refine q_get (v := .ref (a 1)) C hW 0 rfl rfl 1 (by decide) gu_X2 (C.2.2.2.2 _ fl_X2_15) rfl rfl dX2_lastLineOf_9 ?_
  refine lv_iload_n C.1 C.2.1 dX2_lastLineOf_12 rfl (lv_at hl 1 rfl) ?_
  refine q_ialdO (f := lSt L) C hW 2 rfl (k := n) (by omega) (by decide) dX2_lastLineOf_13 ?_
  refine q_to (y := nI st1) (by rw [hs]; rfl) ?_
  refine lv_aload_n C.1 C.2.1 dX2_lastLineOf_14 rfl (lv_at hl 0 rfl) ?_
  refine q_get (v := .ref (a 0)) C hW 0 rfl rfl 0 (by decide) gu_X2 (C.2.2.2.2 _ fl_X2_9) rfl rfl dX2_lastLineOf_15 ?_
  refine lv_iload_n C.1 C.2.1 dX2_lastLineOf_18 rfl (lv_at hl 1 rfl) ?_
  refine q_ialdN (f := lSz L) C hW 1 rfl (k := n) (by omega) (by decide) dX2_lastLineOf_19 ?_
  refine q_iadd C dX2_lastLineOf_20 ?_
  refine lv_iconst (v := nI 1) C.1 C.2.1 dX2_lastLineOf_21 (by decide) ?_
  refine q_isub C (by omega) dX2_lastLineOf_22 ?_
  refine lv_bipush (v := nI 8) C.1 C.2.1 dX2_lastLineOf_23 (by decide) ?_
  refine q_idiv C (by omega) (by omega) (by omega) dX2_lastLineOf_25 ?_
  refine lv_goto (tgt := 30) C.1 C.2.1 dX2_lastLineOf_26 (by decide) ?_
  exact q_iret C hRt hLk hW rfl L ⟨rfl, rfl⟩  rfl (Nat.le_of_ble_eq_true rfl) (Nat.le_of_ble_eq_true rfl) dX2_lastLineOf_30

theorem hd_X2_isOnOneLine : yX2_isOnOneLine.cls = RX2 ∧ yX2_isOnOneLine.cls ≠ "java/lang/invoke/MethodHandle" ∧ yX2_isOnOneLine.cls ≠ "java/lang/invoke/VarHandle" ∧ (parseMethodDescriptor yX2_isOnOneLine.desc).map (fun d => d.parameters.length) = some 2 := by decide +kernel
set_option maxHeartbeats 4000000 in
set_option maxRecDepth 100000 in
theorem c_X2_isOnOneLine (l : Launch) (D : va_G) (g : Nat → ClassId) (h : Nat) (a : Nat → Nat) (L : LyS) (n : Nat) (n2 : Nat) (hL : LOK L) (hn : n < lNm L) (hn2 : n2 < lNm L) (sz : Nat) : qMi l yX2_isOnOneLine (.code yX2_isOnOneLine cX2_isOnOneLine 3 (some .boolean) :: GW) ({ frames := 3, cells := 0, slots := 0, locals := 63 } : Room) D g [.ref h, .int (nI n), .int (nI n2)] (wL g h a L) sz (fun (r : Int32) (u : LyS) => bI (pMeet L n n2) = r ∧ L = u) (fun (u : LyS) => (wL g h a u)) 0 0 := by
  refine q_entry (cc := cX2_isOnOneLine) (nL := 3) (ret := (some .boolean)) rfl (by decide) (Nat.le_of_ble_eq_true rfl) (fun pp ee ss mm bb mt kc ls C hRt hLk hin hsz hW hl => ?_)
  have hl : lv_has ls 3 [(0, .ref h), (1, .int (nI n)), (2, .int (nI n2))] := hl
  have hN := hL.1
  refine lv_aload_n C.1 C.2.1 dX2_isOnOneLine_0 rfl (lv_at hl 0 rfl) ?_
  refine lv_iload_n C.1 C.2.1 dX2_isOnOneLine_1 rfl (lv_at hl 1 rfl) ?_
  refine q_callVi (rest := []) C (c_X2_isPlaced l D g h a L n hL (by omega) _) (gw_V ml_X2_33 im_X2_isPlaced se_X2_X2_isPlaced ini_X2 cd_X2_isPlaced rfl) rfl rfl rfl hd_X2_isPlaced ⟨Nat.le_of_ble_eq_true rfl, Nat.le_of_ble_eq_true rfl⟩ hW pm_all (fun u_1 => (wL g h a u_1)) (fun _ => pm_all) rfl rfl hl.1 rfl (Nat.le_of_ble_eq_true rfl) ⟨Nat.le_of_ble_eq_true rfl, Nat.le_of_ble_eq_true rfl⟩ dX2_isOnOneLine_2 (fun r_1 u_1 H locs e_1 hW => ?_)
  obtain ⟨rfl, rfl⟩ := e_1
  refine q_bt (b := (lSt L n).isSome) (tgt := 16) C dX2_isOnOneLine_5 (by decide) (fun c_5 => ?_) (fun c_5 => ?_)
  · refine lv_iconst (v := nI 0) C.1 C.2.1 dX2_isOnOneLine_16 (by decide) ?_
    exact q_iret C hRt hLk hW (by decide) L ⟨(Eq.symm (by rw [pMeet_0 (Option.isSome_eq_false_iff.mp c_5)]; rfl)), rfl⟩  rfl (Nat.le_of_ble_eq_true rfl) (Nat.le_of_ble_eq_true rfl) dX2_isOnOneLine_17
  refine lv_aload_n C.1 C.2.1 dX2_isOnOneLine_8 rfl (lv_at hl 0 rfl) ?_
  refine lv_iload_n C.1 C.2.1 dX2_isOnOneLine_9 rfl (lv_at hl 2 rfl) ?_
  refine q_callVi (rest := []) C (c_X2_isPlaced l D g h a L n2 hL (by omega) _) (gw_V ml_X2_33 im_X2_isPlaced se_X2_X2_isPlaced ini_X2 cd_X2_isPlaced rfl) rfl rfl rfl hd_X2_isPlaced ⟨Nat.le_of_ble_eq_true rfl, Nat.le_of_ble_eq_true rfl⟩ hW pm_all (fun u_2 => (wL g h a u_2)) (fun _ => pm_all) rfl rfl hl.1 rfl (Nat.le_of_ble_eq_true rfl) ⟨Nat.le_of_ble_eq_true rfl, Nat.le_of_ble_eq_true rfl⟩ dX2_isOnOneLine_10 (fun r_2 u_2 H locs e_2 hW => ?_)
  obtain ⟨rfl, rfl⟩ := e_2
  refine q_bf (b := (lSt L n2).isSome) (tgt := 18) C dX2_isOnOneLine_13 (by decide) (fun c_13 => ?_) (fun c_13 => ?_)
  · obtain ⟨sa, hsa⟩ := Option.isSome_iff_exists.mp c_5
    obtain ⟨sb, hsb⟩ := Option.isSome_iff_exists.mp c_13
    have hs1 := hL.st (by omega) hsa
    have hs2 := hL.st (by omega) hsb
    have hz1 := hL.sz (i := n) (by omega)
    have hz2 := hL.sz (i := n2) (by omega)
    refine lv_aload_n C.1 C.2.1 dX2_isOnOneLine_18 rfl (lv_at hl 0 rfl) ?_
    refine q_get (v := .ref (a 1)) C hW 0 rfl rfl 1 (by decide) gu_X2 (C.2.2.2.2 _ fl_X2_15) rfl rfl dX2_isOnOneLine_19 ?_
    refine lv_iload_n C.1 C.2.1 dX2_isOnOneLine_22 rfl (lv_at hl 1 rfl) ?_
    refine q_ialdO (f := lSt L) C hW 2 rfl (k := n) (by omega) (by decide) dX2_isOnOneLine_23 ?_
    refine q_to (y := nI sa) (by rw [hsa]; rfl) ?_
    refine lv_bipush (v := nI 8) C.1 C.2.1 dX2_isOnOneLine_24 (by decide) ?_
    refine q_idiv C (by omega) (by omega) (by omega) dX2_isOnOneLine_26 ?_
    refine lv_aload_n C.1 C.2.1 dX2_isOnOneLine_27 rfl (lv_at hl 0 rfl) ?_
    refine lv_iload_n C.1 C.2.1 dX2_isOnOneLine_28 rfl (lv_at hl 2 rfl) ?_
    refine q_callVi (rest := [.int (nI (sa / 8))]) C (c_X2_lastLineOf l D g h a L n2 sb hL (by omega) hsb _) (gw_V ml_X2_36 im_X2_lastLineOf se_X2_X2_lastLineOf ini_X2 cd_X2_lastLineOf rfl) rfl rfl rfl hd_X2_lastLineOf ⟨Nat.le_of_ble_eq_true rfl, Nat.le_of_ble_eq_true rfl⟩ hW pm_all (fun u_3 => (wL g h a u_3)) (fun _ => pm_all) rfl rfl hl.1 rfl (Nat.le_of_ble_eq_true rfl) ⟨Nat.le_of_ble_eq_true rfl, Nat.le_of_ble_eq_true rfl⟩ dX2_isOnOneLine_29 (fun r_3 u_3 H locs e_3 hW => ?_)
    obtain ⟨rfl, rfl⟩ := e_3
    refine q_gt (tgt := 56) C (by omega) (by omega) dX2_isOnOneLine_32 (by decide) (fun c_32 => ?_) (fun c_32 => ?_)
    · refine lv_iconst (v := nI 0) C.1 C.2.1 dX2_isOnOneLine_56 (by decide) ?_
      exact q_iret C hRt hLk hW (by decide) L ⟨(Eq.symm (by rw [pMeet_2 hsa hsb, decide_eq_false (by omega)]; rfl)), rfl⟩  rfl (Nat.le_of_ble_eq_true rfl) (Nat.le_of_ble_eq_true rfl) dX2_isOnOneLine_57
    refine lv_aload_n C.1 C.2.1 dX2_isOnOneLine_35 rfl (lv_at hl 0 rfl) ?_
    refine q_get (v := .ref (a 1)) C hW 0 rfl rfl 1 (by decide) gu_X2 (C.2.2.2.2 _ fl_X2_15) rfl rfl dX2_isOnOneLine_36 ?_
    refine lv_iload_n C.1 C.2.1 dX2_isOnOneLine_39 rfl (lv_at hl 2 rfl) ?_
    refine q_ialdO (f := lSt L) C hW 2 rfl (k := n2) (by omega) (by decide) dX2_isOnOneLine_40 ?_
    refine q_to (y := nI sb) (by rw [hsb]; rfl) ?_
    refine lv_bipush (v := nI 8) C.1 C.2.1 dX2_isOnOneLine_41 (by decide) ?_
    refine q_idiv C (by omega) (by omega) (by omega) dX2_isOnOneLine_43 ?_
    refine lv_aload_n C.1 C.2.1 dX2_isOnOneLine_44 rfl (lv_at hl 0 rfl) ?_
    refine lv_iload_n C.1 C.2.1 dX2_isOnOneLine_45 rfl (lv_at hl 1 rfl) ?_
    refine q_callVi (rest := [.int (nI (sb / 8))]) C (c_X2_lastLineOf l D g h a L n sa hL (by omega) hsa _) (gw_V ml_X2_36 im_X2_lastLineOf se_X2_X2_lastLineOf ini_X2 cd_X2_lastLineOf rfl) rfl rfl rfl hd_X2_lastLineOf ⟨Nat.le_of_ble_eq_true rfl, Nat.le_of_ble_eq_true rfl⟩ hW pm_all (fun u_4 => (wL g h a u_4)) (fun _ => pm_all) rfl rfl hl.1 rfl (Nat.le_of_ble_eq_true rfl) ⟨Nat.le_of_ble_eq_true rfl, Nat.le_of_ble_eq_true rfl⟩ dX2_isOnOneLine_46 (fun r_4 u_4 H locs e_4 hW => ?_)
    obtain ⟨rfl, rfl⟩ := e_4
    refine q_gt (tgt := 56) C (by omega) (by omega) dX2_isOnOneLine_49 (by decide) (fun c_49 => ?_) (fun c_49 => ?_)
    · refine lv_iconst (v := nI 0) C.1 C.2.1 dX2_isOnOneLine_56 (by decide) ?_
      exact q_iret C hRt hLk hW (by decide) L ⟨(Eq.symm (by rw [pMeet_2 hsa hsb, decide_eq_true c_32, decide_eq_false (by omega)]; rfl)), rfl⟩  rfl (Nat.le_of_ble_eq_true rfl) (Nat.le_of_ble_eq_true rfl) dX2_isOnOneLine_57
    refine lv_iconst (v := nI 1) C.1 C.2.1 dX2_isOnOneLine_52 (by decide) ?_
    refine lv_goto (tgt := 57) C.1 C.2.1 dX2_isOnOneLine_53 (by decide) ?_
    exact q_iret C hRt hLk hW (by decide) L ⟨(Eq.symm (by rw [pMeet_2 hsa hsb, decide_eq_true c_32, decide_eq_true c_49]; rfl)), rfl⟩  rfl (Nat.le_of_ble_eq_true rfl) (Nat.le_of_ble_eq_true rfl) dX2_isOnOneLine_57
  refine lv_iconst (v := nI 0) C.1 C.2.1 dX2_isOnOneLine_16 (by decide) ?_
  exact q_iret C hRt hLk hW (by decide) L ⟨(Eq.symm (by rw [pMeet_1 (Option.isSome_eq_false_iff.mp c_13)]; rfl)), rfl⟩  rfl (Nat.le_of_ble_eq_true rfl) (Nat.le_of_ble_eq_true rfl) dX2_isOnOneLine_17

theorem hd_X2_lowestFor : yX2_lowestFor.cls = RX2 ∧ yX2_lowestFor.cls ≠ "java/lang/invoke/MethodHandle" ∧ yX2_lowestFor.cls ≠ "java/lang/invoke/VarHandle" ∧ (parseMethodDescriptor yX2_lowestFor.desc).map (fun d => d.parameters.length) = some 2 := by decide +kernel
set_option maxHeartbeats 4000000 in
set_option maxRecDepth 100000 in
theorem c_X2_lowestFor (l : Launch) (D : va_G) (g : Nat → ClassId) (h : Nat) (a : Nat → Nat) (L : LyS) (n : Nat) (al : Nat) (hL : LOK L) (hn : n < lNm L) (ha : 1 ≤ al) (ha2 : al ≤ 64) (sz : Nat) : qMi l yX2_lowestFor (.code yX2_lowestFor cX2_lowestFor 5 (some .int) :: GW) ({ frames := 2, cells := 0, slots := 0, locals := 45 } : Room) D g [.ref h, .int (nI n), .int (nI al)] (wL g h a L) sz (fun (r : Int32) (u : LyS) => oI (pLow L n al) = r ∧ L = u) (fun (u : LyS) => (wL g h a u)) 0 0 := by
  refine q_entry (cc := cX2_lowestFor) (nL := 5) (ret := (some .int)) rfl (by decide) (Nat.le_of_ble_eq_true rfl) (fun pp ee ss mm bb mt kc ls C hRt hLk hin hsz hW hl => ?_)
  have hl : lv_has ls 5 [(0, .ref h), (1, .int (nI n)), (2, .int (nI al))] := hl
  have hN := hL.1
  refine lv_iload_n C.1 C.2.1 dX2_lowestFor_0 rfl (lv_at hl 2 rfl) ?_
  refine lv_iconst (v := nI 1) C.1 C.2.1 dX2_lowestFor_1 (by decide) ?_
  refine va_mmax (x := (nI al)) (y := (nI 1)) C.1 C.2.1 (by rw [C.2.2.1]; exact hl.1.symm) C.2.2.2.1 (C.2.2.2.2 _ ml_X2_50) (C.2.2.2.2 _ sm_J9_max_7cf53) (C.2.2.2.2 _ ini_J9) (C.2.2.2.2 _ cd_J9_max_7cf53) (Nat.le_of_ble_eq_true rfl) (Nat.le_of_ble_eq_true rfl) (Nat.le_of_ble_eq_true rfl) (Nat.le_of_ble_eq_true rfl) dX2_lowestFor_2 ?_
  refine q_to (y := nI al) (if_neg (nI_nlt (by omega) (by omega))) ?_
  refine lv_istore_n (lv' := [(3, .int (nI al)), (0, .ref h), (1, .int (nI n)), (2, .int (nI al))]) C.1 C.2.1 dX2_lowestFor_5 rfl hl (by decide) rfl (fun ls hl => ?_)
  refine lv_iconst (v := nI 0) C.1 C.2.1 dX2_lowestFor_6 (by decide) ?_
  refine lv_istore (lv' := [(4, .int (nI 0)), (3, .int (nI al)), (0, .ref h), (1, .int (nI n)), (2, .int (nI al))]) C.1 C.2.1 dX2_lowestFor_7 hl (by decide) rfl (fun ls hl => ?_)
  have L_9 : ∀ (nf : Nat) (i : Nat) (hi : i ≤ 512) (hj : ∀ j, j < i → pFits L n (j * al) = false) (x4 : Int32) (e4 : x4 = nI (i * al)) (hmu : 513 - i < nf) (ls : Array Slot) (H : Heap) (locs : List Loc), lv_has ls 5 [(3, .int (nI al)), (0, .ref h), (1, .int (nI n)), (2, .int (nI al)), (4, .int x4)] → qW D g (va_A (wL g h a L) sz) ss.heap ss (wL g h a L) H locs → W pp l ee ({ frames := 2, cells := 0, slots := 0, locals := 45 } : Room) ss mm [.ref h, .int (nI n), .int (nI al)].toArray bb mt kc H locs 0 0 (MQ bb (va_Qi (fun (r : Int32) (u : LyS) => oI (pLow L n al) = r ∧ L = u) (qB D g (wL g h a L) sz (fun (u : LyS) => (wL g h a u))) (va_A (wL g h a L) sz)) [.ref h, .int (nI n), .int (nI al)].toArray ss 0 0 (va_A (wL g h a L) sz)) (F0 mm 9 ls []) := by
    intro nf
    induction nf with
    | zero =>
      intro i hi hj x4 e4 hmu ls H locs hl hW
      exact absurd hmu (by omega)
    | succ nf ih =>
      intro i hi hj x4 e4 hmu ls H locs hl hW
      subst e4
      have hb9 : i * al ≤ 512 * 64 := Nat.mul_le_mul hi ha2
      refine lv_iload C.1 C.2.1 dX2_lowestFor_9 (lv_at hl 4 rfl) ?_
      refine lv_sipush (v := nI 512) C.1 C.2.1 dX2_lowestFor_11 (by decide) ?_
      refine q_ge (tgt := 49) C (by omega) (by omega) dX2_lowestFor_14 (by decide) (fun c_14 => ?_) (fun c_14 => ?_)
      · refine lv_iconst (v := (-1)) C.1 C.2.1 dX2_lowestFor_49 (by decide) ?_
        exact q_iret C hRt hLk hW rfl L ⟨(Eq.symm (by unfold pLow; rw [srch_none (fun j hj9 => (Nat.lt_or_ge j i).elim (fun h9 => by rw [hj j h9, Bool.and_false]) (fun h9 => by have h8 : i * al ≤ j * al := Nat.mul_le_mul_right al h9; rw [decide_eq_false (by omega)]; rfl))]; rfl)), rfl⟩  rfl (Nat.le_of_ble_eq_true rfl) (Nat.le_of_ble_eq_true rfl) dX2_lowestFor_50
      refine lv_aload_n C.1 C.2.1 dX2_lowestFor_17 rfl (lv_at hl 1 rfl) ?_
      refine lv_iload_n C.1 C.2.1 dX2_lowestFor_18 rfl (lv_at hl 2 rfl) ?_
      refine lv_iload C.1 C.2.1 dX2_lowestFor_19 (lv_at hl 4 rfl) ?_
      refine q_callVi (rest := []) C (c_X2_isInMemory_N l D g h a L n (i * al) hL (by omega) (by omega) _) (gw_V ml_X2_55 im_X2_isInMemory se_X2_X2_isInMemory ini_X2 cd_X2_isInMemory rfl) rfl rfl rfl hd_X2_isInMemory ⟨Nat.le_of_ble_eq_true rfl, Nat.le_of_ble_eq_true rfl⟩ hW pm_all (fun u_1 => (wL g h a u_1)) (fun _ => pm_all) rfl rfl hl.1 rfl (Nat.le_of_ble_eq_true rfl) ⟨Nat.le_of_ble_eq_true rfl, Nat.le_of_ble_eq_true rfl⟩ dX2_lowestFor_21 (fun r_1 u_1 H locs e_1 hW => ?_)
      obtain ⟨rfl, rfl⟩ := e_1
      refine q_bt (b := decide ((i * al) ≤ 512 - lSz L n)) (tgt := 40) C dX2_lowestFor_24 (by decide) (fun c_24 => ?_) (fun c_24 => ?_)
      · refine lv_iload C.1 C.2.1 dX2_lowestFor_40 (lv_at hl 4 rfl) ?_
        refine lv_iload_n C.1 C.2.1 dX2_lowestFor_42 rfl (lv_at hl 0 rfl) ?_
        refine q_iadd C dX2_lowestFor_43 ?_
        refine lv_istore (lv' := [(4, .int (nI (i * al + al))), (3, .int (nI al)), (0, .ref h), (1, .int (nI n)), (2, .int (nI al))]) C.1 C.2.1 dX2_lowestFor_44 hl (by decide) rfl (fun ls hl => ?_)
        refine lv_goto (tgt := 9) C.1 C.2.1 dX2_lowestFor_46 (by decide) ?_
        exact ih (i + 1) (by have h9 : i * 1 ≤ i * al := Nat.mul_le_mul_left i (by omega); omega) (fun j hj9 => (Nat.lt_succ_iff_lt_or_eq.mp hj9).elim (hj j) (fun e9 => by rw [e9]; exact (by unfold pFits; rw [c_24]; simp))) _ (by rw [Nat.add_mul, Nat.one_mul]) (by omega) ls _ _ (lv_sub hl [1, 2, 3, 4, 0] rfl) hW
      refine lv_aload_n C.1 C.2.1 dX2_lowestFor_27 rfl (lv_at hl 1 rfl) ?_
      refine lv_iload_n C.1 C.2.1 dX2_lowestFor_28 rfl (lv_at hl 2 rfl) ?_
      refine lv_iload C.1 C.2.1 dX2_lowestFor_29 (lv_at hl 4 rfl) ?_
      refine q_callVi (rest := []) C (c_X2_isFree l D g h a L n (i * al) hL (by omega) (by omega) _) (gw_V ml_X2_59 im_X2_isFree se_X2_X2_isFree ini_X2 cd_X2_isFree rfl) rfl rfl rfl hd_X2_isFree ⟨Nat.le_of_ble_eq_true rfl, Nat.le_of_ble_eq_true rfl⟩ hW pm_all (fun u_2 => (wL g h a u_2)) (fun _ => pm_all) rfl rfl hl.1 rfl (Nat.le_of_ble_eq_true rfl) ⟨Nat.le_of_ble_eq_true rfl, Nat.le_of_ble_eq_true rfl⟩ dX2_lowestFor_31 (fun r_2 u_2 H locs e_2 hW => ?_)
      obtain ⟨rfl, rfl⟩ := e_2
      refine q_bt (b := pFree L n (i * al)) (tgt := 40) C dX2_lowestFor_34 (by decide) (fun c_34 => ?_) (fun c_34 => ?_)
      · refine lv_iload C.1 C.2.1 dX2_lowestFor_40 (lv_at hl 4 rfl) ?_
        refine lv_iload_n C.1 C.2.1 dX2_lowestFor_42 rfl (lv_at hl 0 rfl) ?_
        refine q_iadd C dX2_lowestFor_43 ?_
        refine lv_istore (lv' := [(4, .int (nI (i * al + al))), (3, .int (nI al)), (0, .ref h), (1, .int (nI n)), (2, .int (nI al))]) C.1 C.2.1 dX2_lowestFor_44 hl (by decide) rfl (fun ls hl => ?_)
        refine lv_goto (tgt := 9) C.1 C.2.1 dX2_lowestFor_46 (by decide) ?_
        exact ih (i + 1) (by have h9 : i * 1 ≤ i * al := Nat.mul_le_mul_left i (by omega); omega) (fun j hj9 => (Nat.lt_succ_iff_lt_or_eq.mp hj9).elim (hj j) (fun e9 => by rw [e9]; exact (by unfold pFits; rw [c_34]; simp))) _ (by rw [Nat.add_mul, Nat.one_mul]) (by omega) ls _ _ (lv_sub hl [1, 2, 3, 4, 0] rfl) hW
      refine lv_iload C.1 C.2.1 dX2_lowestFor_37 (lv_at hl 4 rfl) ?_
      exact q_iret C hRt hLk hW rfl L ⟨(Eq.symm (by unfold pLow; rw [srch_some (i := i) (fun j hj9 => by rw [hj j hj9, Bool.and_false]) (by have h9 : i * 1 ≤ i * al := Nat.mul_le_mul_left i (by omega); omega) (by unfold pFits; rw [c_24, c_34, decide_eq_true (by omega)]; rfl)]; rfl)), rfl⟩  rfl (Nat.le_of_ble_eq_true rfl) (Nat.le_of_ble_eq_true rfl) dX2_lowestFor_39
  exact L_9 (513 - 0 + 1) 0 (Nat.zero_le _) (fun j hj9 => absurd hj9 (by omega)) _ (by rw [Nat.zero_mul]) (by omega) ls _ _ (lv_sub hl [1, 2, 3, 4, 0] rfl) hW
