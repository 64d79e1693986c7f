/-! The law's walk: a call of the class, the reference's, their answers side by side. -/
section LAW2
variable {p : Program} {l : Launch} {e : Env} {s : State} {m : MethodId} {below : List Frame} {meth : Method} {c : Code} {D : va_G} {g : Nat → ClassId} {ev : Nat × Nat × (Nat → Nat)} {A : Nat → Nat → Nat} {h o od b L i cells slots : Nat} {xs : Nat → Int32} {X : XS} {M : MdS} {a : Nat → Nat} {f : Nat → Int64} {fd : Nat → UInt64} {H : Heap} {locs : List Loc} {ls : Array Slot} {Q : State → Prop} {w0 : Cond}
set_option maxHeartbeats 4000000 in
set_option maxRecDepth 100000 in
theorem lw_costOf (C : CallFix p m c cL_law 9 s #[Value.ref b] (w0 :: GW) RL) (hst : l.stackTraces = false) (hE : qE D g ev (fun q => s.heap.size ≤ q) s s.heap) (hN : qNC s) (hX0 : va_X b L xs s s.heap) (hbl : b < s.heap.size) (hL : L ≤ 2048) (hi : i + 4 ≤ L) (hX : XOK ev.1 X) (hR : Rel (pX X) M) (hlen : (sE (pX X)).length < 512) (hf : cells + 11 ≤ 603072 ∧ slots + 6174 ≤ 7219306)
    (hl : lv_has ls 9 (lwl b A h o od i)) (hW : qW D g (fun q => s.heap.size ≤ q) s.heap s (lwW g A h o od X M a f fd) H locs)
    (kk : LK p l e s m b below meth c D g ev A h o od i X cells slots Q) : W p l e room_1 s m #[Value.ref b] below meth c H locs cells slots Q (F0 m 935 ls []) := by
  have hl : lv_has ls 9 [(5, .int (nI i)), (0, .ref b), (1, .ref (A 0 0)), (2, .ref h), (3, .ref o), (4, .ref od)] := hl
  have hW : qW D g (fun q => s.heap.size ≤ q) s.heap s (oL g o f ++ (oD g od fd ++ (wX g A X ++ wM g h a M))) H locs := hW
  have hM := hR.1
  have hac : mAc M < 512 := Nat.lt_of_le_of_lt hR.ac512 hlen
  have hfull : (xE X).length < 512 := by rw [← evs_len]; exact hlen
  have hL3 := hR.l3
  refine lv_aload_n C.1 C.2.1 dL_law_935 rfl (lv_at hl 2 rfl) ?_
  refine lv_aload_n C.1 C.2.1 dL_law_936 rfl (lv_at hl 1 rfl) ?_
  refine lv_iload C.1 C.2.1 dL_law_937 (lv_at hl 0 rfl) ?_
  refine lv_iconst (v := nI 1) C.1 C.2.1 dL_law_939 (by decide) ?_
  refine q_iadd C dL_law_940 ?_
  refine q_sld C hX0 hbl hW (k := i + 1) (by omega) (by omega) dL_law_941 ?_
  refine lv_aload_n C.1 C.2.1 dL_law_942 rfl (lv_at hl 4 rfl) ?_
  refine qh_callS (rest := []) C hE hN (c_L_costOf l hst D g ev A X hX (xs (i + 1)) o f _) (gw_S ml_L_167 sm_L_costOf ini_L cw_L_costOf rfl) rfl rfl rfl hd_L_costOf ⟨(Nat.le_of_ble_eq_true rfl), (Nat.le_of_ble_eq_true rfl)⟩ hW pm_hL (fun (u : XS × (Nat → Int64)) => (oL g o u.2 ++ (oD g od fd ++ (wX g A u.1 ++ wM g h a M)))) (fun _ => pm_hL) hl.1 rfl (Nat.le_of_ble_eq_true rfl) ⟨by show cells + 1 ≤ 603072; omega, by show slots + 6 ≤ 7219306; omega⟩ dL_law_943 (fun r u H locs hp hW => ?_)
  obtain ⟨hu, k, rr, hk4, rfl, hF, hans⟩ := hp
  obtain ⟨s1, s2, s3⟩ := sim_cost hR (xs (i + 1))
  have hF1 := congrArg Prod.fst hF
  have hF2 := congrArg (fun q => q.2.1) hF
  have hF3 : pX X = pX u.1 := congrArg (fun q => q.2.2) hF
  have hk : mTh (mCost M (xs (i + 1))).2 = k := s1.trans hF1
  have hR2 : Rel (pX u.1) (mCost M (xs (i + 1))).2 := by rw [← hF3]; exact s3
  have hlen2 : (sE (pX u.1)).length ≤ (sE (pX X)).length + 1 := by rw [← hF3]; omega
  have hA : k = 0 → u.2 0 = (nI (mCost M (xs (i + 1))).1).toInt64 := fun z => by rw [hans z, s2 (hF1.trans z), show (xCost (pX X) (xs (i + 1))).2 = rr from hF2]
  refine lv_istore (lv' := [(6, .int (nI k)), (5, .int (nI i)), (0, .ref b), (1, .ref (A 0 0)), (2, .ref h), (3, .ref o), (4, .ref od)]) C.1 C.2.1 dL_law_946 hl (by decide) rfl (fun ls hl => ?_)
  refine lv_aload_n C.1 C.2.1 dL_law_948 rfl (lv_at hl 4 rfl) ?_
  refine lv_aload_n C.1 C.2.1 dL_law_949 rfl (lv_at hl 2 rfl) ?_
  refine lv_iload C.1 C.2.1 dL_law_950 (lv_at hl 1 rfl) ?_
  refine lv_iconst (v := nI 1) C.1 C.2.1 dL_law_952 (by decide) ?_
  refine q_iadd C dL_law_953 ?_
  refine q_sld C hX0 hbl hW (k := i + 1) (by omega) (by omega) dL_law_954 ?_
  refine q_callVi (rest := []) C (c_X4_costOf l D g h a M (xs (i + 1)) hM _) (gw_V ml_L_169 im_X4_costOf se_X4_X4_costOf ini_X4 cd_X4_costOf rfl) rfl rfl rfl hd_X4_costOf ⟨(Nat.le_of_ble_eq_true rfl), (Nat.le_of_ble_eq_true rfl)⟩ hW pm_l3 (fun (u2 : MdS) => (oL g o u.2 ++ (oD g od fd ++ (wX g A u.1 ++ wM g h a u2)))) (fun _ => pm_l3) rfl rfl hl.1 rfl (Nat.le_of_ble_eq_true rfl) ⟨by show _ + 0 ≤ 603072; omega, by show _ + 0 ≤ 7219306; omega⟩ dL_law_955 (fun r2 u2 H locs hp hW => ?_)
  obtain ⟨rfl, rfl⟩ := hp
  have hW : qW D g (fun q => s.heap.size ≤ q) s.heap s (oL g o u.2 ++ (oD g od fd ++ (wX g A u.1 ++ wM g h a (mCost M (xs (i + 1))).2))) H _ := hW
  refine lv_istore (lv' := [(7, .int (nI (mCost M (xs (i + 1))).1)), (6, .int (nI k)), (5, .int (nI i)), (0, .ref b), (1, .ref (A 0 0)), (2, .ref h), (3, .ref o), (4, .ref od)]) C.1 C.2.1 dL_law_958 hl (by decide) rfl (fun ls hl => ?_)
  refine lv_aload_n C.1 C.2.1 dL_law_960 rfl (lv_at hl 5 rfl) ?_
  refine q_callVi (rest := []) C (c_X4_thrown l D g h a ((mCost M (xs (i + 1))).2) (hR2.1) _) (gw_V ml_L_127 im_X4_thrown se_X4_X4_thrown ini_X4 cd_X4_thrown rfl) rfl rfl rfl hd_X4_thrown ⟨(Nat.le_of_ble_eq_true rfl), (Nat.le_of_ble_eq_true rfl)⟩ hW pm_l3 (fun u2 => (oL g o u.2 ++ (oD g od fd ++ (wX g A u.1 ++ wM g h a u2)))) (fun _ => pm_l3) rfl rfl hl.1 rfl (Nat.le_of_ble_eq_true rfl) ⟨by show _ ≤ 603072; omega, by show _ ≤ 7219306; omega⟩ dL_law_961 (fun r2 u2 H locs hp hW => ?_)
  obtain ⟨rfl, rfl⟩ := hp
  refine lv_iload C.1 C.2.1 dL_law_964 (lv_at hl 1 rfl) ?_
  refine lv_icmp_eq (tgt := 971) C.1 C.2.1 dL_law_966 (by decide) (fun _ => ?_) (fun z9 => absurd (by rw [hk]) z9)
  refine lv_iload C.1 C.2.1 dL_law_971 (lv_at hl 1 rfl) ?_
  refine lv_if_ne (tgt := 988) C.1 C.2.1 dL_law_973 (by decide) (fun _ => ?_) (fun z0 => ?_)
  · refine lv_goto (tgt := 1943) C.1 C.2.1 dL_law_988 (by decide) ?_
    refine W.widen (k := cells + 11) (n := slots + 6174) (by omega) (by omega) ?_
    exact kk u.1 _ a u.2 fd _ _ ls hu hR2 hlen2 (lv_sub hl [2, 3, 4, 5, 6, 7] rfl) hW
  have z0 : k = 0 := nI_k0 hk4 z0
  have hA := hA z0
  refine lv_aload_n C.1 C.2.1 dL_law_976 rfl (lv_at hl 6 rfl) ?_
  refine lv_iconst (v := nI 0) C.1 C.2.1 dL_law_977 (by decide) ?_
  refine q_lald (f := u.2) C hW 0 rfl (k := 0) (by decide) (by decide) dL_law_978 ?_
  refine lv_iload C.1 C.2.1 dL_law_979 (lv_at hl 0 rfl) ?_
  refine lv_i2l (v := (nI (mCost M (xs (i + 1))).1).toInt64) C.1 C.2.1 dL_law_981 rfl ?_
  refine W.lcmp C.1 C.2.1 dL_law_982 ?_
  refine lv_if_eq (tgt := 988) C.1 C.2.1 dL_law_983 (by decide) (fun _ => ?_) (fun z9 => absurd (by rw [hA]; exact lcmp_self _) z9)
  refine lv_goto (tgt := 1943) C.1 C.2.1 dL_law_988 (by decide) ?_
  refine W.widen (k := cells + 11) (n := slots + 6174) (by omega) (by omega) ?_
  exact kk u.1 _ a u.2 fd _ _ ls hu hR2 hlen2 (lv_sub hl [2, 3, 4, 5, 6, 7] rfl) hW

set_option maxHeartbeats 4000000 in
set_option maxRecDepth 100000 in
theorem lw_costByReplay (C : CallFix p m c cL_law 9 s #[Value.ref b] (w0 :: GW) RL) (hst : l.stackTraces = false) (hE : qE D g ev (fun q => s.heap.size ≤ q) s s.heap) (hN : qNC s) (hX0 : va_X b L xs s s.heap) (hbl : b < s.heap.size) (hL : L ≤ 2048) (hi : i + 4 ≤ L) (hX : XOK ev.1 X) (hR : Rel (pX X) M) (hlen : (sE (pX X)).length < 512) (hf : cells + 11 ≤ 603072 ∧ slots + 6174 ≤ 7219306)
    (hl : lv_has ls 9 (lwl b A h o od i)) (hW : qW D g (fun q => s.heap.size ≤ q) s.heap s (lwW g A h o od X M a f fd) H locs)
    (kk : LK p l e s m b below meth c D g ev A h o od i X cells slots Q) : W p l e room_1 s m #[Value.ref b] below meth c H locs cells slots Q (F0 m 991 ls []) := by
  have hl : lv_has ls 9 [(5, .int (nI i)), (0, .ref b), (1, .ref (A 0 0)), (2, .ref h), (3, .ref o), (4, .ref od)] := hl
  have hW : qW D g (fun q => s.heap.size ≤ q) s.heap s (oL g o f ++ (oD g od fd ++ (wX g A X ++ wM g h a M))) H locs := hW
  have hM := hR.1
  have hac : mAc M < 512 := Nat.lt_of_le_of_lt hR.ac512 hlen
  have hfull : (xE X).length < 512 := by rw [← evs_len]; exact hlen
  have hL3 := hR.l3
  refine lv_aload_n C.1 C.2.1 dL_law_991 rfl (lv_at hl 2 rfl) ?_
  refine lv_aload_n C.1 C.2.1 dL_law_992 rfl (lv_at hl 1 rfl) ?_
  refine lv_iload C.1 C.2.1 dL_law_993 (lv_at hl 0 rfl) ?_
  refine lv_iconst (v := nI 1) C.1 C.2.1 dL_law_995 (by decide) ?_
  refine q_iadd C dL_law_996 ?_
  refine q_sld C hX0 hbl hW (k := i + 1) (by omega) (by omega) dL_law_997 ?_
  refine lv_aload_n C.1 C.2.1 dL_law_998 rfl (lv_at hl 4 rfl) ?_
  refine qh_callS (rest := []) C hE hN (c_L_costByReplay l hst D g ev A X hX (xs (i + 1)) o f _) (gw_S ml_L_170 sm_L_costByReplay ini_L cw_L_costByReplay rfl) rfl rfl rfl hd_L_costByReplay ⟨(Nat.le_of_ble_eq_true rfl), (Nat.le_of_ble_eq_true rfl)⟩ hW pm_hL (fun (u : XS × (Nat → Int64)) => (oL g o u.2 ++ (oD g od fd ++ (wX g A u.1 ++ wM g h a M)))) (fun _ => pm_hL) hl.1 rfl (Nat.le_of_ble_eq_true rfl) ⟨by show cells + 1 ≤ 603072; omega, by show slots + 6 ≤ 7219306; omega⟩ dL_law_999 (fun r u H locs hp hW => ?_)
  obtain ⟨hu, hpX, k, rfl, hF⟩ := hp
  have hk4 : k ≤ 4 := by rcases hF with ⟨rfl, -⟩ | ⟨rfl, -⟩ <;> decide
  obtain ⟨s1, s2, s3⟩ := sim_cost hR (xs (i + 1))
  have hk : mTh (mCost M (xs (i + 1))).2 = k := rep_th hR hF
  have hR2 : Rel (pX u.1) (mCost M (xs (i + 1))).2 := by rw [hpX]; exact s3
  have hlen2 : (sE (pX u.1)).length ≤ (sE (pX X)).length + 1 := by rw [hpX]; omega
  have hA : k = 0 → u.2 0 = (nI (mCost M (xs (i + 1))).1).toInt64 := rep_an hR hF
  refine lv_istore (lv' := [(6, .int (nI k)), (5, .int (nI i)), (0, .ref b), (1, .ref (A 0 0)), (2, .ref h), (3, .ref o), (4, .ref od)]) C.1 C.2.1 dL_law_1002 hl (by decide) rfl (fun ls hl => ?_)
  refine lv_aload_n C.1 C.2.1 dL_law_1004 rfl (lv_at hl 4 rfl) ?_
  refine lv_aload_n C.1 C.2.1 dL_law_1005 rfl (lv_at hl 2 rfl) ?_
  refine lv_iload C.1 C.2.1 dL_law_1006 (lv_at hl 1 rfl) ?_
  refine lv_iconst (v := nI 1) C.1 C.2.1 dL_law_1008 (by decide) ?_
  refine q_iadd C dL_law_1009 ?_
  refine q_sld C hX0 hbl hW (k := i + 1) (by omega) (by omega) dL_law_1010 ?_
  refine q_callVi (rest := []) C (c_X4_costByReplay l D g h a M (xs (i + 1)) hM _) (gw_V ml_L_172 im_X4_costByReplay se_X4_X4_costByReplay ini_X4 cd_X4_costByReplay rfl) rfl rfl rfl hd_X4_costByReplay ⟨(Nat.le_of_ble_eq_true rfl), (Nat.le_of_ble_eq_true rfl)⟩ hW pm_l3 (fun (u2 : MdS) => (oL g o u.2 ++ (oD g od fd ++ (wX g A u.1 ++ wM g h a u2)))) (fun _ => pm_l3) rfl rfl hl.1 rfl (Nat.le_of_ble_eq_true rfl) ⟨by show _ + 0 ≤ 603072; omega, by show _ + 0 ≤ 7219306; omega⟩ dL_law_1011 (fun r2 u2 H locs hp hW => ?_)
  obtain ⟨rfl, rfl⟩ := hp
  have hW : qW D g (fun q => s.heap.size ≤ q) s.heap s (oL g o u.2 ++ (oD g od fd ++ (wX g A u.1 ++ wM g h a (mCost M (xs (i + 1))).2))) H _ := hW
  refine lv_istore (lv' := [(7, .int (nI (mCost M (xs (i + 1))).1)), (6, .int (nI k)), (5, .int (nI i)), (0, .ref b), (1, .ref (A 0 0)), (2, .ref h), (3, .ref o), (4, .ref od)]) C.1 C.2.1 dL_law_1014 hl (by decide) rfl (fun ls hl => ?_)
  refine lv_aload_n C.1 C.2.1 dL_law_1016 rfl (lv_at hl 5 rfl) ?_
  refine q_callVi (rest := []) C (c_X4_thrown l D g h a ((mCost M (xs (i + 1))).2) (hR2.1) _) (gw_V ml_L_127 im_X4_thrown se_X4_X4_thrown ini_X4 cd_X4_thrown rfl) rfl rfl rfl hd_X4_thrown ⟨(Nat.le_of_ble_eq_true rfl), (Nat.le_of_ble_eq_true rfl)⟩ hW pm_l3 (fun u2 => (oL g o u.2 ++ (oD g od fd ++ (wX g A u.1 ++ wM g h a u2)))) (fun _ => pm_l3) rfl rfl hl.1 rfl (Nat.le_of_ble_eq_true rfl) ⟨by show _ ≤ 603072; omega, by show _ ≤ 7219306; omega⟩ dL_law_1017 (fun r2 u2 H locs hp hW => ?_)
  obtain ⟨rfl, rfl⟩ := hp
  refine lv_iload C.1 C.2.1 dL_law_1020 (lv_at hl 1 rfl) ?_
  refine lv_icmp_eq (tgt := 1027) C.1 C.2.1 dL_law_1022 (by decide) (fun _ => ?_) (fun z9 => absurd (by rw [hk]) z9)
  refine lv_iload C.1 C.2.1 dL_law_1027 (lv_at hl 1 rfl) ?_
  refine lv_if_ne (tgt := 1044) C.1 C.2.1 dL_law_1029 (by decide) (fun _ => ?_) (fun z0 => ?_)
  · refine lv_goto (tgt := 1943) C.1 C.2.1 dL_law_1044 (by decide) ?_
    refine W.widen (k := cells + 11) (n := slots + 6174) (by omega) (by omega) ?_
    exact kk u.1 _ a u.2 fd _ _ ls hu hR2 hlen2 (lv_sub hl [2, 3, 4, 5, 6, 7] rfl) hW
  have z0 : k = 0 := nI_k0 hk4 z0
  have hA := hA z0
  refine lv_aload_n C.1 C.2.1 dL_law_1032 rfl (lv_at hl 6 rfl) ?_
  refine lv_iconst (v := nI 0) C.1 C.2.1 dL_law_1033 (by decide) ?_
  refine q_lald (f := u.2) C hW 0 rfl (k := 0) (by decide) (by decide) dL_law_1034 ?_
  refine lv_iload C.1 C.2.1 dL_law_1035 (lv_at hl 0 rfl) ?_
  refine lv_i2l (v := (nI (mCost M (xs (i + 1))).1).toInt64) C.1 C.2.1 dL_law_1037 rfl ?_
  refine W.lcmp C.1 C.2.1 dL_law_1038 ?_
  refine lv_if_eq (tgt := 1044) C.1 C.2.1 dL_law_1039 (by decide) (fun _ => ?_) (fun z9 => absurd (by rw [hA]; exact lcmp_self _) z9)
  refine lv_goto (tgt := 1943) C.1 C.2.1 dL_law_1044 (by decide) ?_
  refine W.widen (k := cells + 11) (n := slots + 6174) (by omega) (by omega) ?_
  exact kk u.1 _ a u.2 fd _ _ ls hu hR2 hlen2 (lv_sub hl [2, 3, 4, 5, 6, 7] rfl) hW

set_option maxHeartbeats 4000000 in
set_option maxRecDepth 100000 in
theorem lw_causeOf (C : CallFix p m c cL_law 9 s #[Value.ref b] (w0 :: GW) RL) (hst : l.stackTraces = false) (hE : qE D g ev (fun q => s.heap.size ≤ q) s s.heap) (hN : qNC s) (hX0 : va_X b L xs s s.heap) (hbl : b < s.heap.size) (hL : L ≤ 2048) (hi : i + 4 ≤ L) (hX : XOK ev.1 X) (hR : Rel (pX X) M) (hlen : (sE (pX X)).length < 512) (hf : cells + 11 ≤ 603072 ∧ slots + 6174 ≤ 7219306)
    (hl : lv_has ls 9 (lwl b A h o od i)) (hW : qW D g (fun q => s.heap.size ≤ q) s.heap s (lwW g A h o od X M a f fd) H locs)
    (kk : LK p l e s m b below meth c D g ev A h o od i X cells slots Q) : W p l e room_1 s m #[Value.ref b] below meth c H locs cells slots Q (F0 m 1047 ls []) := by
  have hl : lv_has ls 9 [(5, .int (nI i)), (0, .ref b), (1, .ref (A 0 0)), (2, .ref h), (3, .ref o), (4, .ref od)] := hl
  have hW : qW D g (fun q => s.heap.size ≤ q) s.heap s (oL g o f ++ (oD g od fd ++ (wX g A X ++ wM g h a M))) H locs := hW
  have hM := hR.1
  have hac : mAc M < 512 := Nat.lt_of_le_of_lt hR.ac512 hlen
  have hfull : (xE X).length < 512 := by rw [← evs_len]; exact hlen
  have hL3 := hR.l3
  refine lv_aload_n C.1 C.2.1 dL_law_1047 rfl (lv_at hl 2 rfl) ?_
  refine lv_aload_n C.1 C.2.1 dL_law_1048 rfl (lv_at hl 1 rfl) ?_
  refine lv_iload C.1 C.2.1 dL_law_1049 (lv_at hl 0 rfl) ?_
  refine lv_iconst (v := nI 1) C.1 C.2.1 dL_law_1051 (by decide) ?_
  refine q_iadd C dL_law_1052 ?_
  refine q_sld C hX0 hbl hW (k := i + 1) (by omega) (by omega) dL_law_1053 ?_
  refine lv_aload_n C.1 C.2.1 dL_law_1054 rfl (lv_at hl 4 rfl) ?_
  refine qh_callS (rest := []) C hE hN (c_L_causeOf l hst D g ev A X hX (xs (i + 1)) o f _) (gw_S ml_L_173 sm_L_causeOf ini_L cw_L_causeOf rfl) rfl rfl rfl hd_L_causeOf ⟨(Nat.le_of_ble_eq_true rfl), (Nat.le_of_ble_eq_true rfl)⟩ hW pm_hL (fun (u : XS × (Nat → Int64)) => (oL g o u.2 ++ (oD g od fd ++ (wX g A u.1 ++ wM g h a M)))) (fun _ => pm_hL) hl.1 rfl (Nat.le_of_ble_eq_true rfl) ⟨by show cells + 1 ≤ 603072; omega, by show slots + 6 ≤ 7219306; omega⟩ dL_law_1055 (fun r u H locs hp hW => ?_)
  obtain ⟨hu, k, rr, hk4, rfl, hF, hans⟩ := hp
  obtain ⟨s1, s2, s3⟩ := sim_caus hR (xs (i + 1))
  have hF1 := congrArg Prod.fst hF
  have hF2 := congrArg (fun q => q.2.1) hF
  have hF3 : pX X = pX u.1 := congrArg (fun q => q.2.2) hF
  have hk : mTh (mCausOf M (xs (i + 1))).2 = k := s1.trans hF1
  have hR2 : Rel (pX u.1) (mCausOf M (xs (i + 1))).2 := by rw [← hF3]; exact s3
  have hlen2 : (sE (pX u.1)).length ≤ (sE (pX X)).length + 1 := by rw [← hF3]; omega
  have hA : k = 0 → u.2 0 = (cI (mCausOf M (xs (i + 1))).1).toInt64 := fun z => by rw [hans z, s2 (hF1.trans z), show (xCaus (pX X) (xs (i + 1))).2 = rr from hF2]
  refine lv_istore (lv' := [(6, .int (nI k)), (5, .int (nI i)), (0, .ref b), (1, .ref (A 0 0)), (2, .ref h), (3, .ref o), (4, .ref od)]) C.1 C.2.1 dL_law_1058 hl (by decide) rfl (fun ls hl => ?_)
  refine lv_aload_n C.1 C.2.1 dL_law_1060 rfl (lv_at hl 4 rfl) ?_
  refine lv_aload_n C.1 C.2.1 dL_law_1061 rfl (lv_at hl 2 rfl) ?_
  refine lv_iload C.1 C.2.1 dL_law_1062 (lv_at hl 1 rfl) ?_
  refine lv_iconst (v := nI 1) C.1 C.2.1 dL_law_1064 (by decide) ?_
  refine q_iadd C dL_law_1065 ?_
  refine q_sld C hX0 hbl hW (k := i + 1) (by omega) (by omega) dL_law_1066 ?_
  refine q_callVi (rest := []) C (c_X4_causeOf l D g h a M (xs (i + 1)) hM _) (gw_V ml_L_175 im_X4_causeOf se_X4_X4_causeOf ini_X4 cd_X4_causeOf rfl) rfl rfl rfl hd_X4_causeOf ⟨(Nat.le_of_ble_eq_true rfl), (Nat.le_of_ble_eq_true rfl)⟩ hW pm_l3 (fun (u2 : MdS) => (oL g o u.2 ++ (oD g od fd ++ (wX g A u.1 ++ wM g h a u2)))) (fun _ => pm_l3) rfl rfl hl.1 rfl (Nat.le_of_ble_eq_true rfl) ⟨by show _ + 0 ≤ 603072; omega, by show _ + 0 ≤ 7219306; omega⟩ dL_law_1067 (fun r2 u2 H locs hp hW => ?_)
  obtain ⟨rfl, rfl⟩ := hp
  have hW : qW D g (fun q => s.heap.size ≤ q) s.heap s (oL g o u.2 ++ (oD g od fd ++ (wX g A u.1 ++ wM g h a (mCausOf M (xs (i + 1))).2))) H _ := hW
  refine lv_istore (lv' := [(7, .int (cI (mCausOf M (xs (i + 1))).1)), (6, .int (nI k)), (5, .int (nI i)), (0, .ref b), (1, .ref (A 0 0)), (2, .ref h), (3, .ref o), (4, .ref od)]) C.1 C.2.1 dL_law_1070 hl (by decide) rfl (fun ls hl => ?_)
  refine lv_aload_n C.1 C.2.1 dL_law_1072 rfl (lv_at hl 5 rfl) ?_
  refine q_callVi (rest := []) C (c_X4_thrown l D g h a ((mCausOf M (xs (i + 1))).2) (hR2.1) _) (gw_V ml_L_127 im_X4_thrown se_X4_X4_thrown ini_X4 cd_X4_thrown rfl) rfl rfl rfl hd_X4_thrown ⟨(Nat.le_of_ble_eq_true rfl), (Nat.le_of_ble_eq_true rfl)⟩ hW pm_l3 (fun u2 => (oL g o u.2 ++ (oD g od fd ++ (wX g A u.1 ++ wM g h a u2)))) (fun _ => pm_l3) rfl rfl hl.1 rfl (Nat.le_of_ble_eq_true rfl) ⟨by show _ ≤ 603072; omega, by show _ ≤ 7219306; omega⟩ dL_law_1073 (fun r2 u2 H locs hp hW => ?_)
  obtain ⟨rfl, rfl⟩ := hp
  refine lv_iload C.1 C.2.1 dL_law_1076 (lv_at hl 1 rfl) ?_
  refine lv_icmp_eq (tgt := 1083) C.1 C.2.1 dL_law_1078 (by decide) (fun _ => ?_) (fun z9 => absurd (by rw [hk]) z9)
  refine lv_iload C.1 C.2.1 dL_law_1083 (lv_at hl 1 rfl) ?_
  refine lv_if_ne (tgt := 1100) C.1 C.2.1 dL_law_1085 (by decide) (fun _ => ?_) (fun z0 => ?_)
  · refine lv_goto (tgt := 1943) C.1 C.2.1 dL_law_1100 (by decide) ?_
    refine W.widen (k := cells + 11) (n := slots + 6174) (by omega) (by omega) ?_
    exact kk u.1 _ a u.2 fd _ _ ls hu hR2 hlen2 (lv_sub hl [2, 3, 4, 5, 6, 7] rfl) hW
  have z0 : k = 0 := nI_k0 hk4 z0
  have hA := hA z0
  refine lv_aload_n C.1 C.2.1 dL_law_1088 rfl (lv_at hl 6 rfl) ?_
  refine lv_iconst (v := nI 0) C.1 C.2.1 dL_law_1089 (by decide) ?_
  refine q_lald (f := u.2) C hW 0 rfl (k := 0) (by decide) (by decide) dL_law_1090 ?_
  refine lv_iload C.1 C.2.1 dL_law_1091 (lv_at hl 0 rfl) ?_
  refine lv_i2l (v := (cI (mCausOf M (xs (i + 1))).1).toInt64) C.1 C.2.1 dL_law_1093 rfl ?_
  refine W.lcmp C.1 C.2.1 dL_law_1094 ?_
  refine lv_if_eq (tgt := 1100) C.1 C.2.1 dL_law_1095 (by decide) (fun _ => ?_) (fun z9 => absurd (by rw [hA]; exact lcmp_self _) z9)
  refine lv_goto (tgt := 1943) C.1 C.2.1 dL_law_1100 (by decide) ?_
  refine W.widen (k := cells + 11) (n := slots + 6174) (by omega) (by omega) ?_
  exact kk u.1 _ a u.2 fd _ _ ls hu hR2 hlen2 (lv_sub hl [2, 3, 4, 5, 6, 7] rfl) hW

set_option maxHeartbeats 4000000 in
set_option maxRecDepth 100000 in
theorem lw_state (C : CallFix p m c cL_law 9 s #[Value.ref b] (w0 :: GW) RL) (hst : l.stackTraces = false) (hE : qE D g ev (fun q => s.heap.size ≤ q) s s.heap) (hN : qNC s) (hX0 : va_X b L xs s s.heap) (hbl : b < s.heap.size) (hL : L ≤ 2048) (hi : i + 4 ≤ L) (hX : XOK ev.1 X) (hR : Rel (pX X) M) (hlen : (sE (pX X)).length < 512) (hf : cells + 11 ≤ 603072 ∧ slots + 6174 ≤ 7219306)
    (hl : lv_has ls 9 (lwl b A h o od i)) (hW : qW D g (fun q => s.heap.size ≤ q) s.heap s (lwW g A h o od X M a f fd) H locs)
    (kk : LK p l e s m b below meth c D g ev A h o od i X cells slots Q) : W p l e room_1 s m #[Value.ref b] below meth c H locs cells slots Q (F0 m 1103 ls []) := by
  have hl : lv_has ls 9 [(5, .int (nI i)), (0, .ref b), (1, .ref (A 0 0)), (2, .ref h), (3, .ref o), (4, .ref od)] := hl
  have hW : qW D g (fun q => s.heap.size ≤ q) s.heap s (oL g o f ++ (oD g od fd ++ (wX g A X ++ wM g h a M))) H locs := hW
  have hM := hR.1
  have hac : mAc M < 512 := Nat.lt_of_le_of_lt hR.ac512 hlen
  have hfull : (xE X).length < 512 := by rw [← evs_len]; exact hlen
  have hL3 := hR.l3
  refine lv_aload_n C.1 C.2.1 dL_law_1103 rfl (lv_at hl 2 rfl) ?_
  refine lv_aload_n C.1 C.2.1 dL_law_1104 rfl (lv_at hl 1 rfl) ?_
  refine lv_iload C.1 C.2.1 dL_law_1105 (lv_at hl 0 rfl) ?_
  refine lv_iconst (v := nI 1) C.1 C.2.1 dL_law_1107 (by decide) ?_
  refine q_iadd C dL_law_1108 ?_
  refine q_sld C hX0 hbl hW (k := i + 1) (by omega) (by omega) dL_law_1109 ?_
  refine lv_aload_n C.1 C.2.1 dL_law_1110 rfl (lv_at hl 1 rfl) ?_
  refine lv_iload C.1 C.2.1 dL_law_1111 (lv_at hl 0 rfl) ?_
  refine lv_iconst (v := nI 2) C.1 C.2.1 dL_law_1113 (by decide) ?_
  refine q_iadd C dL_law_1114 ?_
  refine q_sld C hX0 hbl hW (k := i + 2) (by omega) (by omega) dL_law_1115 ?_
  refine lv_aload_n C.1 C.2.1 dL_law_1116 rfl (lv_at hl 4 rfl) ?_
  refine qh_callS (rest := []) C hE hN (c_L_state l hst D g ev A X hX (xs (i + 1)) (xs (i + 2)) o f _) (gw_S ml_L_176 sm_L_state ini_L cw_L_state rfl) rfl rfl rfl hd_L_state ⟨(Nat.le_of_ble_eq_true rfl), (Nat.le_of_ble_eq_true rfl)⟩ hW pm_hL (fun (u : XS × (Nat → Int64)) => (oL g o u.2 ++ (oD g od fd ++ (wX g A u.1 ++ wM g h a M)))) (fun _ => pm_hL) hl.1 rfl (Nat.le_of_ble_eq_true rfl) ⟨by show cells + 2 ≤ 603072; omega, by show slots + 12 ≤ 7219306; omega⟩ dL_law_1117 (fun r u H locs hp hW => ?_)
  obtain ⟨hu, k, rr, hk4, rfl, hF, hans⟩ := hp
  obtain ⟨s1, s2, s3⟩ := sim_state hR (xs (i + 1)) (xs (i + 2))
  have hF1 := congrArg Prod.fst hF
  have hF2 := congrArg (fun q => q.2.1) hF
  have hF3 : pX X = pX u.1 := congrArg (fun q => q.2.2) hF
  have hk : mTh (mState M (xs (i + 1)) (xs (i + 2))).2 = k := s1.trans hF1
  have hR2 : Rel (pX u.1) (mState M (xs (i + 1)) (xs (i + 2))).2 := by rw [← hF3]; exact s3
  have hlen2 : (sE (pX u.1)).length ≤ (sE (pX X)).length + 1 := by rw [← hF3]; omega
  have hA : k = 0 → u.2 0 = (cI (mState M (xs (i + 1)) (xs (i + 2))).1).toInt64 := fun z => by rw [hans z, s2 (hF1.trans z), show (xState (pX X) (xs (i + 1)) (xs (i + 2))).2 = rr from hF2]
  refine lv_istore (lv' := [(6, .int (nI k)), (5, .int (nI i)), (0, .ref b), (1, .ref (A 0 0)), (2, .ref h), (3, .ref o), (4, .ref od)]) C.1 C.2.1 dL_law_1120 hl (by decide) rfl (fun ls hl => ?_)
  refine lv_aload_n C.1 C.2.1 dL_law_1122 rfl (lv_at hl 4 rfl) ?_
  refine lv_aload_n C.1 C.2.1 dL_law_1123 rfl (lv_at hl 2 rfl) ?_
  refine lv_iload C.1 C.2.1 dL_law_1124 (lv_at hl 1 rfl) ?_
  refine lv_iconst (v := nI 1) C.1 C.2.1 dL_law_1126 (by decide) ?_
  refine q_iadd C dL_law_1127 ?_
  refine q_sld C hX0 hbl hW (k := i + 1) (by omega) (by omega) dL_law_1128 ?_
  refine lv_aload_n C.1 C.2.1 dL_law_1129 rfl (lv_at hl 2 rfl) ?_
  refine lv_iload C.1 C.2.1 dL_law_1130 (lv_at hl 1 rfl) ?_
  refine lv_iconst (v := nI 2) C.1 C.2.1 dL_law_1132 (by decide) ?_
  refine q_iadd C dL_law_1133 ?_
  refine q_sld C hX0 hbl hW (k := i + 2) (by omega) (by omega) dL_law_1134 ?_
  refine q_callVi (rest := []) C (c_X4_state l D g h a M (xs (i + 1)) (xs (i + 2)) hM _) (gw_V ml_L_178 im_X4_state se_X4_X4_state ini_X4 cd_X4_state rfl) rfl rfl rfl hd_X4_state ⟨(Nat.le_of_ble_eq_true rfl), (Nat.le_of_ble_eq_true rfl)⟩ hW pm_l3 (fun (u2 : MdS) => (oL g o u.2 ++ (oD g od fd ++ (wX g A u.1 ++ wM g h a u2)))) (fun _ => pm_l3) rfl rfl hl.1 rfl (Nat.le_of_ble_eq_true rfl) ⟨by show _ + 0 ≤ 603072; omega, by show _ + 0 ≤ 7219306; omega⟩ dL_law_1135 (fun r2 u2 H locs hp hW => ?_)
  obtain ⟨rfl, rfl⟩ := hp
  have hW : qW D g (fun q => s.heap.size ≤ q) s.heap s (oL g o u.2 ++ (oD g od fd ++ (wX g A u.1 ++ wM g h a (mState M (xs (i + 1)) (xs (i + 2))).2))) H _ := hW
  refine lv_istore (lv' := [(7, .int (cI (mState M (xs (i + 1)) (xs (i + 2))).1)), (6, .int (nI k)), (5, .int (nI i)), (0, .ref b), (1, .ref (A 0 0)), (2, .ref h), (3, .ref o), (4, .ref od)]) C.1 C.2.1 dL_law_1138 hl (by decide) rfl (fun ls hl => ?_)
  refine lv_aload_n C.1 C.2.1 dL_law_1140 rfl (lv_at hl 5 rfl) ?_
  refine q_callVi (rest := []) C (c_X4_thrown l D g h a ((mState M (xs (i + 1)) (xs (i + 2))).2) (hR2.1) _) (gw_V ml_L_127 im_X4_thrown se_X4_X4_thrown ini_X4 cd_X4_thrown rfl) rfl rfl rfl hd_X4_thrown ⟨(Nat.le_of_ble_eq_true rfl), (Nat.le_of_ble_eq_true rfl)⟩ hW pm_l3 (fun u2 => (oL g o u.2 ++ (oD g od fd ++ (wX g A u.1 ++ wM g h a u2)))) (fun _ => pm_l3) rfl rfl hl.1 rfl (Nat.le_of_ble_eq_true rfl) ⟨by show _ ≤ 603072; omega, by show _ ≤ 7219306; omega⟩ dL_law_1141 (fun r2 u2 H locs hp hW => ?_)
  obtain ⟨rfl, rfl⟩ := hp
  refine lv_iload C.1 C.2.1 dL_law_1144 (lv_at hl 1 rfl) ?_
  refine lv_icmp_eq (tgt := 1151) C.1 C.2.1 dL_law_1146 (by decide) (fun _ => ?_) (fun z9 => absurd (by rw [hk]) z9)
  refine lv_iload C.1 C.2.1 dL_law_1151 (lv_at hl 1 rfl) ?_
  refine lv_if_ne (tgt := 1168) C.1 C.2.1 dL_law_1153 (by decide) (fun _ => ?_) (fun z0 => ?_)
  · refine lv_goto (tgt := 1943) C.1 C.2.1 dL_law_1168 (by decide) ?_
    refine W.widen (k := cells + 11) (n := slots + 6174) (by omega) (by omega) ?_
    exact kk u.1 _ a u.2 fd _ _ ls hu hR2 hlen2 (lv_sub hl [2, 3, 4, 5, 6, 7] rfl) hW
  have z0 : k = 0 := nI_k0 hk4 z0
  have hA := hA z0
  refine lv_aload_n C.1 C.2.1 dL_law_1156 rfl (lv_at hl 6 rfl) ?_
  refine lv_iconst (v := nI 0) C.1 C.2.1 dL_law_1157 (by decide) ?_
  refine q_lald (f := u.2) C hW 0 rfl (k := 0) (by decide) (by decide) dL_law_1158 ?_
  refine lv_iload C.1 C.2.1 dL_law_1159 (lv_at hl 0 rfl) ?_
  refine lv_i2l (v := (cI (mState M (xs (i + 1)) (xs (i + 2))).1).toInt64) C.1 C.2.1 dL_law_1161 rfl ?_
  refine W.lcmp C.1 C.2.1 dL_law_1162 ?_
  refine lv_if_eq (tgt := 1168) C.1 C.2.1 dL_law_1163 (by decide) (fun _ => ?_) (fun z9 => absurd (by rw [hA]; exact lcmp_self _) z9)
  refine lv_goto (tgt := 1943) C.1 C.2.1 dL_law_1168 (by decide) ?_
  refine W.widen (k := cells + 11) (n := slots + 6174) (by omega) (by omega) ?_
  exact kk u.1 _ a u.2 fd _ _ ls hu hR2 hlen2 (lv_sub hl [2, 3, 4, 5, 6, 7] rfl) hW

set_option maxHeartbeats 4000000 in
set_option maxRecDepth 100000 in
theorem lw_owner (C : CallFix p m c cL_law 9 s #[Value.ref b] (w0 :: GW) RL) (hst : l.stackTraces = false) (hE : qE D g ev (fun q => s.heap.size ≤ q) s s.heap) (hN : qNC s) (hX0 : va_X b L xs s s.heap) (hbl : b < s.heap.size) (hL : L ≤ 2048) (hi : i + 4 ≤ L) (hX : XOK ev.1 X) (hR : Rel (pX X) M) (hlen : (sE (pX X)).length < 512) (hf : cells + 11 ≤ 603072 ∧ slots + 6174 ≤ 7219306)
    (hl : lv_has ls 9 (lwl b A h o od i)) (hW : qW D g (fun q => s.heap.size ≤ q) s.heap s (lwW g A h o od X M a f fd) H locs)
    (kk : LK p l e s m b below meth c D g ev A h o od i X cells slots Q) : W p l e room_1 s m #[Value.ref b] below meth c H locs cells slots Q (F0 m 1171 ls []) := by
  have hl : lv_has ls 9 [(5, .int (nI i)), (0, .ref b), (1, .ref (A 0 0)), (2, .ref h), (3, .ref o), (4, .ref od)] := hl
  have hW : qW D g (fun q => s.heap.size ≤ q) s.heap s (oL g o f ++ (oD g od fd ++ (wX g A X ++ wM g h a M))) H locs := hW
  have hM := hR.1
  have hac : mAc M < 512 := Nat.lt_of_le_of_lt hR.ac512 hlen
  have hfull : (xE X).length < 512 := by rw [← evs_len]; exact hlen
  have hL3 := hR.l3
  refine lv_aload_n C.1 C.2.1 dL_law_1171 rfl (lv_at hl 2 rfl) ?_
  refine lv_aload_n C.1 C.2.1 dL_law_1172 rfl (lv_at hl 1 rfl) ?_
  refine lv_iload C.1 C.2.1 dL_law_1173 (lv_at hl 0 rfl) ?_
  refine lv_iconst (v := nI 1) C.1 C.2.1 dL_law_1175 (by decide) ?_
  refine q_iadd C dL_law_1176 ?_
  refine q_sld C hX0 hbl hW (k := i + 1) (by omega) (by omega) dL_law_1177 ?_
  refine lv_aload_n C.1 C.2.1 dL_law_1178 rfl (lv_at hl 4 rfl) ?_
  refine qh_callS (rest := []) C hE hN (c_L_owner l hst D g ev A X hX (xs (i + 1)) o f _) (gw_S ml_L_179 sm_L_owner ini_L cw_L_owner rfl) rfl rfl rfl hd_L_owner ⟨(Nat.le_of_ble_eq_true rfl), (Nat.le_of_ble_eq_true rfl)⟩ hW pm_hL (fun (u : XS × (Nat → Int64)) => (oL g o u.2 ++ (oD g od fd ++ (wX g A u.1 ++ wM g h a M)))) (fun _ => pm_hL) hl.1 rfl (Nat.le_of_ble_eq_true rfl) ⟨by show cells + 2 ≤ 603072; omega, by show slots + 12 ≤ 7219306; omega⟩ dL_law_1179 (fun r u H locs hp hW => ?_)
  obtain ⟨hu, k, rr, hk4, rfl, hF, hans⟩ := hp
  obtain ⟨s1, s2, s3⟩ := sim_owner hR (xs (i + 1))
  have hF1 := congrArg Prod.fst hF
  have hF2 := congrArg (fun q => q.2.1) hF
  have hF3 : pX X = pX u.1 := congrArg (fun q => q.2.2) hF
  have hk : mTh (mOwnr M (xs (i + 1))).2 = k := s1.trans hF1
  have hR2 : Rel (pX u.1) (mOwnr M (xs (i + 1))).2 := by rw [← hF3]; exact s3
  have hlen2 : (sE (pX u.1)).length ≤ (sE (pX X)).length + 1 := by rw [← hF3]; omega
  have hA : k = 0 → u.2 0 = (nI (mOwnr M (xs (i + 1))).1).toInt64 := fun z => by rw [hans z, s2 (hF1.trans z), show (xOwner (pX X) (xs (i + 1))).2 = rr from hF2]
  refine lv_istore (lv' := [(6, .int (nI k)), (5, .int (nI i)), (0, .ref b), (1, .ref (A 0 0)), (2, .ref h), (3, .ref o), (4, .ref od)]) C.1 C.2.1 dL_law_1182 hl (by decide) rfl (fun ls hl => ?_)
  refine lv_aload_n C.1 C.2.1 dL_law_1184 rfl (lv_at hl 4 rfl) ?_
  refine lv_aload_n C.1 C.2.1 dL_law_1185 rfl (lv_at hl 2 rfl) ?_
  refine lv_iload C.1 C.2.1 dL_law_1186 (lv_at hl 1 rfl) ?_
  refine lv_iconst (v := nI 1) C.1 C.2.1 dL_law_1188 (by decide) ?_
  refine q_iadd C dL_law_1189 ?_
  refine q_sld C hX0 hbl hW (k := i + 1) (by omega) (by omega) dL_law_1190 ?_
  refine q_callVi (rest := []) C (c_X4_owner l D g h a M (xs (i + 1)) hM _) (gw_V ml_L_181 im_X4_owner se_X4_X4_owner ini_X4 cd_X4_owner rfl) rfl rfl rfl hd_X4_owner ⟨(Nat.le_of_ble_eq_true rfl), (Nat.le_of_ble_eq_true rfl)⟩ hW pm_l3 (fun (u2 : MdS) => (oL g o u.2 ++ (oD g od fd ++ (wX g A u.1 ++ wM g h a u2)))) (fun _ => pm_l3) rfl rfl hl.1 rfl (Nat.le_of_ble_eq_true rfl) ⟨by show _ + 0 ≤ 603072; omega, by show _ + 0 ≤ 7219306; omega⟩ dL_law_1191 (fun r2 u2 H locs hp hW => ?_)
  obtain ⟨rfl, rfl⟩ := hp
  have hW : qW D g (fun q => s.heap.size ≤ q) s.heap s (oL g o u.2 ++ (oD g od fd ++ (wX g A u.1 ++ wM g h a (mOwnr M (xs (i + 1))).2))) H _ := hW
  refine lv_istore (lv' := [(7, .int (nI (mOwnr M (xs (i + 1))).1)), (6, .int (nI k)), (5, .int (nI i)), (0, .ref b), (1, .ref (A 0 0)), (2, .ref h), (3, .ref o), (4, .ref od)]) C.1 C.2.1 dL_law_1194 hl (by decide) rfl (fun ls hl => ?_)
  refine lv_aload_n C.1 C.2.1 dL_law_1196 rfl (lv_at hl 5 rfl) ?_
  refine q_callVi (rest := []) C (c_X4_thrown l D g h a ((mOwnr M (xs (i + 1))).2) (hR2.1) _) (gw_V ml_L_127 im_X4_thrown se_X4_X4_thrown ini_X4 cd_X4_thrown rfl) rfl rfl rfl hd_X4_thrown ⟨(Nat.le_of_ble_eq_true rfl), (Nat.le_of_ble_eq_true rfl)⟩ hW pm_l3 (fun u2 => (oL g o u.2 ++ (oD g od fd ++ (wX g A u.1 ++ wM g h a u2)))) (fun _ => pm_l3) rfl rfl hl.1 rfl (Nat.le_of_ble_eq_true rfl) ⟨by show _ ≤ 603072; omega, by show _ ≤ 7219306; omega⟩ dL_law_1197 (fun r2 u2 H locs hp hW => ?_)
  obtain ⟨rfl, rfl⟩ := hp
  refine lv_iload C.1 C.2.1 dL_law_1200 (lv_at hl 1 rfl) ?_
  refine lv_icmp_eq (tgt := 1207) C.1 C.2.1 dL_law_1202 (by decide) (fun _ => ?_) (fun z9 => absurd (by rw [hk]) z9)
  refine lv_iload C.1 C.2.1 dL_law_1207 (lv_at hl 1 rfl) ?_
  refine lv_if_ne (tgt := 1224) C.1 C.2.1 dL_law_1209 (by decide) (fun _ => ?_) (fun z0 => ?_)
  · refine lv_goto (tgt := 1943) C.1 C.2.1 dL_law_1224 (by decide) ?_
    refine W.widen (k := cells + 11) (n := slots + 6174) (by omega) (by omega) ?_
    exact kk u.1 _ a u.2 fd _ _ ls hu hR2 hlen2 (lv_sub hl [2, 3, 4, 5, 6, 7] rfl) hW
  have z0 : k = 0 := nI_k0 hk4 z0
  have hA := hA z0
  refine lv_aload_n C.1 C.2.1 dL_law_1212 rfl (lv_at hl 6 rfl) ?_
  refine lv_iconst (v := nI 0) C.1 C.2.1 dL_law_1213 (by decide) ?_
  refine q_lald (f := u.2) C hW 0 rfl (k := 0) (by decide) (by decide) dL_law_1214 ?_
  refine lv_iload C.1 C.2.1 dL_law_1215 (lv_at hl 0 rfl) ?_
  refine lv_i2l (v := (nI (mOwnr M (xs (i + 1))).1).toInt64) C.1 C.2.1 dL_law_1217 rfl ?_
  refine W.lcmp C.1 C.2.1 dL_law_1218 ?_
  refine lv_if_eq (tgt := 1224) C.1 C.2.1 dL_law_1219 (by decide) (fun _ => ?_) (fun z9 => absurd (by rw [hA]; exact lcmp_self _) z9)
  refine lv_goto (tgt := 1943) C.1 C.2.1 dL_law_1224 (by decide) ?_
  refine W.widen (k := cells + 11) (n := slots + 6174) (by omega) (by omega) ?_
  exact kk u.1 _ a u.2 fd _ _ ls hu hR2 hlen2 (lv_sub hl [2, 3, 4, 5, 6, 7] rfl) hW

set_option maxHeartbeats 4000000 in
set_option maxRecDepth 100000 in
theorem lw_holders (C : CallFix p m c cL_law 9 s #[Value.ref b] (w0 :: GW) RL) (hst : l.stackTraces = false) (hE : qE D g ev (fun q => s.heap.size ≤ q) s s.heap) (hN : qNC s) (hX0 : va_X b L xs s s.heap) (hbl : b < s.heap.size) (hL : L ≤ 2048) (hi : i + 4 ≤ L) (hX : XOK ev.1 X) (hR : Rel (pX X) M) (hlen : (sE (pX X)).length < 512) (hf : cells + 11 ≤ 603072 ∧ slots + 6174 ≤ 7219306)
    (hl : lv_has ls 9 (lwl b A h o od i)) (hW : qW D g (fun q => s.heap.size ≤ q) s.heap s (lwW g A h o od X M a f fd) H locs)
    (kk : LK p l e s m b below meth c D g ev A h o od i X cells slots Q) : W p l e room_1 s m #[Value.ref b] below meth c H locs cells slots Q (F0 m 1227 ls []) := by
  have hl : lv_has ls 9 [(5, .int (nI i)), (0, .ref b), (1, .ref (A 0 0)), (2, .ref h), (3, .ref o), (4, .ref od)] := hl
  have hW : qW D g (fun q => s.heap.size ≤ q) s.heap s (oL g o f ++ (oD g od fd ++ (wX g A X ++ wM g h a M))) H locs := hW
  have hM := hR.1
  have hac : mAc M < 512 := Nat.lt_of_le_of_lt hR.ac512 hlen
  have hfull : (xE X).length < 512 := by rw [← evs_len]; exact hlen
  have hL3 := hR.l3
  refine lv_aload_n C.1 C.2.1 dL_law_1227 rfl (lv_at hl 2 rfl) ?_
  refine lv_aload_n C.1 C.2.1 dL_law_1228 rfl (lv_at hl 1 rfl) ?_
  refine lv_iload C.1 C.2.1 dL_law_1229 (lv_at hl 0 rfl) ?_
  refine lv_iconst (v := nI 1) C.1 C.2.1 dL_law_1231 (by decide) ?_
  refine q_iadd C dL_law_1232 ?_
  refine q_sld C hX0 hbl hW (k := i + 1) (by omega) (by omega) dL_law_1233 ?_
  refine lv_aload_n C.1 C.2.1 dL_law_1234 rfl (lv_at hl 4 rfl) ?_
  refine qh_callS (rest := []) C hE hN (c_L_holders l hst D g ev A X hX (xs (i + 1)) o f _) (gw_S ml_L_182 sm_L_holders ini_L cw_L_holders rfl) rfl rfl rfl hd_L_holders ⟨(Nat.le_of_ble_eq_true rfl), (Nat.le_of_ble_eq_true rfl)⟩ hW pm_hL (fun (u : XS × (Nat → Int64)) => (oL g o u.2 ++ (oD g od fd ++ (wX g A u.1 ++ wM g h a M)))) (fun _ => pm_hL) hl.1 rfl (Nat.le_of_ble_eq_true rfl) ⟨by show cells + 1 ≤ 603072; omega, by show slots + 6 ≤ 7219306; omega⟩ dL_law_1235 (fun r u H locs hp hW => ?_)
  obtain ⟨hu, k, rr, hk4, rfl, hF, hans⟩ := hp
  obtain ⟨s1, s2, s3⟩ := sim_hold hR (xs (i + 1))
  have hF1 := congrArg Prod.fst hF
  have hF2 := congrArg (fun q => q.2.1) hF
  have hF3 : pX X = pX u.1 := congrArg (fun q => q.2.2) hF
  have hk : mTh (mHold M (xs (i + 1))).2 = k := s1.trans hF1
  have hR2 : Rel (pX u.1) (mHold M (xs (i + 1))).2 := by rw [← hF3]; exact s3
  have hlen2 : (sE (pX u.1)).length ≤ (sE (pX X)).length + 1 := by rw [← hF3]; omega
  have hA : k = 0 → u.2 0 = (nI (mHold M (xs (i + 1))).1).toInt64 := fun z => by rw [hans z, s2 (hF1.trans z), show (xHold (pX X) (xs (i + 1))).2 = rr from hF2]
  refine lv_istore (lv' := [(6, .int (nI k)), (5, .int (nI i)), (0, .ref b), (1, .ref (A 0 0)), (2, .ref h), (3, .ref o), (4, .ref od)]) C.1 C.2.1 dL_law_1238 hl (by decide) rfl (fun ls hl => ?_)
  refine lv_aload_n C.1 C.2.1 dL_law_1240 rfl (lv_at hl 4 rfl) ?_
  refine lv_aload_n C.1 C.2.1 dL_law_1241 rfl (lv_at hl 2 rfl) ?_
  refine lv_iload C.1 C.2.1 dL_law_1242 (lv_at hl 1 rfl) ?_
  refine lv_iconst (v := nI 1) C.1 C.2.1 dL_law_1244 (by decide) ?_
  refine q_iadd C dL_law_1245 ?_
  refine q_sld C hX0 hbl hW (k := i + 1) (by omega) (by omega) dL_law_1246 ?_
  refine q_callVi (rest := []) C (c_X4_holders l D g h a M (xs (i + 1)) hM _) (gw_V ml_L_184 im_X4_holders se_X4_X4_holders ini_X4 cd_X4_holders rfl) rfl rfl rfl hd_X4_holders ⟨(Nat.le_of_ble_eq_true rfl), (Nat.le_of_ble_eq_true rfl)⟩ hW pm_l3 (fun (u2 : MdS) => (oL g o u.2 ++ (oD g od fd ++ (wX g A u.1 ++ wM g h a u2)))) (fun _ => pm_l3) rfl rfl hl.1 rfl (Nat.le_of_ble_eq_true rfl) ⟨by show _ + 0 ≤ 603072; omega, by show _ + 0 ≤ 7219306; omega⟩ dL_law_1247 (fun r2 u2 H locs hp hW => ?_)
  obtain ⟨rfl, rfl⟩ := hp
  have hW : qW D g (fun q => s.heap.size ≤ q) s.heap s (oL g o u.2 ++ (oD g od fd ++ (wX g A u.1 ++ wM g h a (mHold M (xs (i + 1))).2))) H _ := hW
  refine lv_istore (lv' := [(7, .int (nI (mHold M (xs (i + 1))).1)), (6, .int (nI k)), (5, .int (nI i)), (0, .ref b), (1, .ref (A 0 0)), (2, .ref h), (3, .ref o), (4, .ref od)]) C.1 C.2.1 dL_law_1250 hl (by decide) rfl (fun ls hl => ?_)
  refine lv_aload_n C.1 C.2.1 dL_law_1252 rfl (lv_at hl 5 rfl) ?_
  refine q_callVi (rest := []) C (c_X4_thrown l D g h a ((mHold M (xs (i + 1))).2) (hR2.1) _) (gw_V ml_L_127 im_X4_thrown se_X4_X4_thrown ini_X4 cd_X4_thrown rfl) rfl rfl rfl hd_X4_thrown ⟨(Nat.le_of_ble_eq_true rfl), (Nat.le_of_ble_eq_true rfl)⟩ hW pm_l3 (fun u2 => (oL g o u.2 ++ (oD g od fd ++ (wX g A u.1 ++ wM g h a u2)))) (fun _ => pm_l3) rfl rfl hl.1 rfl (Nat.le_of_ble_eq_true rfl) ⟨by show _ ≤ 603072; omega, by show _ ≤ 7219306; omega⟩ dL_law_1253 (fun r2 u2 H locs hp hW => ?_)
  obtain ⟨rfl, rfl⟩ := hp
  refine lv_iload C.1 C.2.1 dL_law_1256 (lv_at hl 1 rfl) ?_
  refine lv_icmp_eq (tgt := 1263) C.1 C.2.1 dL_law_1258 (by decide) (fun _ => ?_) (fun z9 => absurd (by rw [hk]) z9)
  refine lv_iload C.1 C.2.1 dL_law_1263 (lv_at hl 1 rfl) ?_
  refine lv_if_ne (tgt := 1280) C.1 C.2.1 dL_law_1265 (by decide) (fun _ => ?_) (fun z0 => ?_)
  · refine lv_goto (tgt := 1943) C.1 C.2.1 dL_law_1280 (by decide) ?_
    refine W.widen (k := cells + 11) (n := slots + 6174) (by omega) (by omega) ?_
    exact kk u.1 _ a u.2 fd _ _ ls hu hR2 hlen2 (lv_sub hl [2, 3, 4, 5, 6, 7] rfl) hW
  have z0 : k = 0 := nI_k0 hk4 z0
  have hA := hA z0
  refine lv_aload_n C.1 C.2.1 dL_law_1268 rfl (lv_at hl 6 rfl) ?_
  refine lv_iconst (v := nI 0) C.1 C.2.1 dL_law_1269 (by decide) ?_
  refine q_lald (f := u.2) C hW 0 rfl (k := 0) (by decide) (by decide) dL_law_1270 ?_
  refine lv_iload C.1 C.2.1 dL_law_1271 (lv_at hl 0 rfl) ?_
  refine lv_i2l (v := (nI (mHold M (xs (i + 1))).1).toInt64) C.1 C.2.1 dL_law_1273 rfl ?_
  refine W.lcmp C.1 C.2.1 dL_law_1274 ?_
  refine lv_if_eq (tgt := 1280) C.1 C.2.1 dL_law_1275 (by decide) (fun _ => ?_) (fun z9 => absurd (by rw [hA]; exact lcmp_self _) z9)
  refine lv_goto (tgt := 1943) C.1 C.2.1 dL_law_1280 (by decide) ?_
  refine W.widen (k := cells + 11) (n := slots + 6174) (by omega) (by omega) ?_
  exact kk u.1 _ a u.2 fd _ _ ls hu hR2 hlen2 (lv_sub hl [2, 3, 4, 5, 6, 7] rfl) hW
end LAW2
