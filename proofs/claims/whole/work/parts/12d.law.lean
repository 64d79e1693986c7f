/-! The law's walk: a call of the class, the reference's, their answers side by side. -/
section LAW2
variable {p : Program} {l : Launch} {e : Env} {s : State} {m : MethodId} {below : List Frame} {meth : Method} {c : Code} {D : va_G} {g : Nat → ClassId} {ev : Nat × Nat × (Nat → Nat)} {A : Nat → Nat → Nat} {h o od b L i cells slots : Nat} {xs : Nat → Int32} {X : XS} {M : MdS} {a : Nat → Nat} {f : Nat → Int64} {fd : Nat → UInt64} {H : Heap} {locs : List Loc} {ls : Array Slot} {Q : State → Prop} {w0 : Cond}
set_option maxHeartbeats 4000000 in
set_option maxRecDepth 100000 in
theorem lw_costByReplay (C : CallFix p m c cL_law 9 s #[Value.ref b] (w0 :: GW) RL) (hst : l.stackTraces = false) (hE : qE D g ev (fun q => s.heap.size ≤ q) s s.heap) (hN : qNC s) (hX0 : va_X b L xs s s.heap) (hbl : b < s.heap.size) (hL : L ≤ 2048) (hi : i + 4 ≤ L) (hX : XOK ev.1 X) (hR : Rel (pX X) M) (hlen : (sE (pX X)).length < 512) (hf : cells + 11 ≤ 603072 ∧ slots + 6174 ≤ 7219306)
    (hl : lv_has ls 9 (lwl b A h o od i)) (hW : qW D g (fun q => s.heap.size ≤ q) s.heap s (lwW g A h o od X M a f fd) H locs)
    (kk : LK p l e s m b below meth c D g ev A h o od i X cells slots Q) : W p l e room_1 s m #[Value.ref b] below meth c H locs cells slots Q (F0 m 991 ls []) := by
  have hl : lv_has ls 9 [(5, .int (nI i)), (0, .ref b), (1, .ref (A 0 0)), (2, .ref h), (3, .ref o), (4, .ref od)] := hl
  have hW : qW D g (fun q => s.heap.size ≤ q) s.heap s (oL g o f ++ (oD g od fd ++ (wX g A X ++ wM g h a M))) H locs := hW
  have hM := hR.1
  have hac : mAc M < 512 := Nat.lt_of_le_of_lt hR.ac512 hlen
  have hfull : (xE X).length < 512 := by rw [← evs_len]; exact hlen
  have hL3 := hR.l3
  refine lv_aload_n C.1 C.2.1 dL_law_991 rfl (lv_at hl 2 rfl) ?_
  refine lv_aload_n C.1 C.2.1 dL_law_992 rfl (lv_at hl 1 rfl) ?_
  refine lv_iload C.1 C.2.1 dL_law_993 (lv_at hl 0 rfl) ?_
  refine lv_iconst (v := nI 1) C.1 C.2.1 dL_law_995 (by decide) ?_
  refine q_iadd C dL_law_996 ?_
  refine q_sld C hX0 hbl hW (k := i + 1) (by omega) (by omega) dL_law_997 ?_
  refine lv_aload_n C.1 C.2.1 dL_law_998 rfl (lv_at hl 4 rfl) ?_
  refine qh_callS (rest := []) C hE hN (c_L_costByReplay l hst D g ev A X hX (xs (i + 1)) o f _) (gw_S ml_L_170 sm_L_costByReplay ini_L cw_L_costByReplay rfl) rfl rfl rfl hd_L_costByReplay ⟨(Nat.le_of_ble_eq_true rfl), (Nat.le_of_ble_eq_true rfl)⟩ hW pm_hL (fun (u : XS × (Nat → Int64)) => (oL g o u.2 ++ (oD g od fd ++ (wX g A u.1 ++ wM g h a M)))) (fun _ => pm_hL) hl.1 rfl (Nat.le_of_ble_eq_true rfl) ⟨by show cells + 1 ≤ 603072; omega, by show slots + 6 ≤ 7219306; omega⟩ dL_law_999 (fun r u H locs hp hW => ?_)
  obtain ⟨hu, hpX, k, rfl, hF⟩ := hp
  have hk4 : k ≤ 4 := by rcases hF with ⟨rfl, -⟩ | ⟨rfl, -⟩ <;> decide
  obtain ⟨s1, s2, s3⟩ := sim_cost hR (xs (i + 1))
  have hk : mTh (mCost M (xs (i + 1))).2 = k := rep_th hR hF
  have hR2 : Rel (pX u.1) (mCost M (xs (i + 1))).2 := by rw [hpX]; exact s3
  have hlen2 : (sE (pX u.1)).length ≤ (sE (pX X)).length + 1 := by rw [hpX]; omega
  have hA : k = 0 → u.2 0 = (nI (mCost M (xs (i + 1))).1).toInt64 := rep_an hR hF
  refine lv_istore (lv' := [(6, .int (nI k)), (5, .int (nI i)), (0, .ref b), (1, .ref (A 0 0)), (2, .ref h), (3, .ref o), (4, .ref od)]) C.1 C.2.1 dL_law_1002 hl (by decide) rfl (fun ls hl => ?_)
  refine lv_aload_n C.1 C.2.1 dL_law_1004 rfl (lv_at hl 4 rfl) ?_
  refine lv_aload_n C.1 C.2.1 dL_law_1005 rfl (lv_at hl 2 rfl) ?_
  refine lv_iload C.1 C.2.1 dL_law_1006 (lv_at hl 1 rfl) ?_
  refine lv_iconst (v := nI 1) C.1 C.2.1 dL_law_1008 (by decide) ?_
  refine q_iadd C dL_law_1009 ?_
  refine q_sld C hX0 hbl hW (k := i + 1) (by omega) (by omega) dL_law_1010 ?_
  refine q_callVi (rest := []) C (c_X4_costByReplay l D g h a M (xs (i + 1)) hM _) (gw_V ml_L_172 im_X4_costByReplay se_X4_X4_costByReplay ini_X4 cd_X4_costByReplay rfl) rfl rfl rfl hd_X4_costByReplay ⟨(Nat.le_of_ble_eq_true rfl), (Nat.le_of_ble_eq_true rfl)⟩ hW pm_l3 (fun (u2 : MdS) => (oL g o u.2 ++ (oD g od fd ++ (wX g A u.1 ++ wM g h a u2)))) (fun _ => pm_l3) rfl rfl hl.1 rfl (Nat.le_of_ble_eq_true rfl) ⟨by show _ + 0 ≤ 603072; omega, by show _ + 0 ≤ 7219306; omega⟩ dL_law_1011 (fun r2 u2 H locs hp hW => ?_)
  obtain ⟨rfl, rfl⟩ := hp
  have hW : qW D g (fun q => s.heap.size ≤ q) s.heap s (oL g o u.2 ++ (oD g od fd ++ (wX g A u.1 ++ wM g h a (mCost M (xs (i + 1))).2))) H _ := hW
  refine lv_istore (lv' := [(7, .int (nI (mCost M (xs (i + 1))).1)), (6, .int (nI k)), (5, .int (nI i)), (0, .ref b), (1, .ref (A 0 0)), (2, .ref h), (3, .ref o), (4, .ref od)]) C.1 C.2.1 dL_law_1014 hl (by decide) rfl (fun ls hl => ?_)
  refine lv_aload_n C.1 C.2.1 dL_law_1016 rfl (lv_at hl 5 rfl) ?_
  refine q_callVi (rest := []) C (c_X4_thrown l D g h a ((mCost M (xs (i + 1))).2) (hR2.1) _) (gw_V ml_L_127 im_X4_thrown se_X4_X4_thrown ini_X4 cd_X4_thrown rfl) rfl rfl rfl hd_X4_thrown ⟨(Nat.le_of_ble_eq_true rfl), (Nat.le_of_ble_eq_true rfl)⟩ hW pm_l3 (fun u2 => (oL g o u.2 ++ (oD g od fd ++ (wX g A u.1 ++ wM g h a u2)))) (fun _ => pm_l3) rfl rfl hl.1 rfl (Nat.le_of_ble_eq_true rfl) ⟨by show _ ≤ 603072; omega, by show _ ≤ 7219306; omega⟩ dL_law_1017 (fun r2 u2 H locs hp hW => ?_)
  obtain ⟨rfl, rfl⟩ := hp
  refine lv_iload C.1 C.2.1 dL_law_1020 (lv_at hl 1 rfl) ?_
  refine lv_icmp_eq (tgt := 1027) C.1 C.2.1 dL_law_1022 (by decide) (fun _ => ?_) (fun z9 => absurd (by rw [hk]) z9)
  refine lv_iload C.1 C.2.1 dL_law_1027 (lv_at hl 1 rfl) ?_
  refine lv_if_ne (tgt := 1044) C.1 C.2.1 dL_law_1029 (by decide) (fun _ => ?_) (fun z0 => ?_)
  · refine lv_goto (tgt := 1943) C.1 C.2.1 dL_law_1044 (by decide) ?_
    refine W.widen (k := cells + 11) (n := slots + 6174) (by omega) (by omega) ?_
    exact kk u.1 _ a u.2 fd _ _ ls hu hR2 hlen2 (lv_sub hl [2, 3, 4, 5, 6, 7] rfl) hW
  have z0 : k = 0 := nI_k0 hk4 z0
  have hA := hA z0
  refine lv_aload_n C.1 C.2.1 dL_law_1032 rfl (lv_at hl 6 rfl) ?_
  refine lv_iconst (v := nI 0) C.1 C.2.1 dL_law_1033 (by decide) ?_
  refine q_lald (f := u.2) C hW 0 rfl (k := 0) (by decide) (by decide) dL_law_1034 ?_
  refine lv_iload C.1 C.2.1 dL_law_1035 (lv_at hl 0 rfl) ?_
  refine lv_i2l (v := (nI (mCost M (xs (i + 1))).1).toInt64) C.1 C.2.1 dL_law_1037 rfl ?_
  refine W.lcmp C.1 C.2.1 dL_law_1038 ?_
  refine lv_if_eq (tgt := 1044) C.1 C.2.1 dL_law_1039 (by decide) (fun _ => ?_) (fun z9 => absurd (by rw [hA]; exact lcmp_self _) z9)
  refine lv_goto (tgt := 1943) C.1 C.2.1 dL_law_1044 (by decide) ?_
  refine W.widen (k := cells + 11) (n := slots + 6174) (by omega) (by omega) ?_
  exact kk u.1 _ a u.2 fd _ _ ls hu hR2 hlen2 (lv_sub hl [2, 3, 4, 5, 6, 7] rfl) hW
end LAW2
