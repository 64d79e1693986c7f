/-! The law's walk: a call of the class, the reference's, their answers side by side. -/
section LAW4
variable {p : Program} {l : Launch} {e : Env} {s : State} {m : MethodId} {below : List Frame} {meth : Method} {c : Code} {D : va_G} {g : Nat → ClassId} {ev : Nat × Nat × (Nat → Nat)} {A : Nat → Nat → Nat} {h o od b L i cells slots : Nat} {xs : Nat → Int32} {X : XS} {M : MdS} {a : Nat → Nat} {f : Nat → Int64} {fd : Nat → UInt64} {H : Heap} {locs : List Loc} {ls : Array Slot} {Q : State → Prop} {w0 : Cond}
set_option maxHeartbeats 4000000 in
set_option maxRecDepth 100000 in
theorem lw_fetched (C : CallFix p m c cL_law 9 s #[Value.ref b] (w0 :: GW) RL) (hst : l.stackTraces = false) (hE : qE D g ev (fun q => s.heap.size ≤ q) s s.heap) (hN : qNC s) (hX0 : va_X b L xs s s.heap) (hbl : b < s.heap.size) (hL : L ≤ 2048) (hi : i + 4 ≤ L) (hX : XOK ev.1 X) (hR : Rel (pX X) M) (hlen : (sE (pX X)).length < 512) (hf : cells + 11 ≤ 603072 ∧ slots + 6174 ≤ 7219306)
    (hl : lv_has ls 9 (lwl b A h o od i)) (hW : qW D g (fun q => s.heap.size ≤ q) s.heap s (lwW g A h o od X M a f fd) H locs)
    (kk : LK p l e s m b below meth c D g ev A h o od i X cells slots Q) : W p l e room_1 s m #[Value.ref b] below meth c H locs cells slots Q (F0 m 1631 ls []) := by
  have hl : lv_has ls 9 [(5, .int (nI i)), (0, .ref b), (1, .ref (A 0 0)), (2, .ref h), (3, .ref o), (4, .ref od)] := hl
  have hW : qW D g (fun q => s.heap.size ≤ q) s.heap s (oL g o f ++ (oD g od fd ++ (wX g A X ++ wM g h a M))) H locs := hW
  have hM := hR.1
  have hac : mAc M < 512 := Nat.lt_of_le_of_lt hR.ac512 hlen
  have hfull : (xE X).length < 512 := by rw [← evs_len]; exact hlen
  have hL3 := hR.l3
  refine lv_aload_n C.1 C.2.1 dL_law_1631 rfl (lv_at hl 2 rfl) ?_
  refine lv_aload_n C.1 C.2.1 dL_law_1632 rfl (lv_at hl 1 rfl) ?_
  refine lv_iload C.1 C.2.1 dL_law_1633 (lv_at hl 0 rfl) ?_
  refine lv_iconst (v := nI 1) C.1 C.2.1 dL_law_1635 (by decide) ?_
  refine q_iadd C dL_law_1636 ?_
  refine q_sld C hX0 hbl hW (k := i + 1) (by omega) (by omega) dL_law_1637 ?_
  refine lv_aload_n C.1 C.2.1 dL_law_1638 rfl (lv_at hl 4 rfl) ?_
  refine qh_callS (rest := []) C hE hN (c_L_fetched l hst D g ev A X hX (xs (i + 1)) o f _) (gw_S ml_L_205 sm_L_fetched ini_L cw_L_fetched rfl) rfl rfl rfl hd_L_fetched ⟨(Nat.le_of_ble_eq_true rfl), (Nat.le_of_ble_eq_true rfl)⟩ hW pm_hL (fun (u : XS × (Nat → Int64)) => (oL g o u.2 ++ (oD g od fd ++ (wX g A u.1 ++ wM g h a M)))) (fun _ => pm_hL) hl.1 rfl (Nat.le_of_ble_eq_true rfl) ⟨by show cells + 1 ≤ 603072; omega, by show slots + 6 ≤ 7219306; omega⟩ dL_law_1639 (fun r u H locs hp hW => ?_)
  obtain ⟨hu, k, rr, hk4, rfl, hF, hans⟩ := hp
  obtain ⟨s1, s2, s3⟩ := sim_fet hR (xs (i + 1))
  have hF1 := congrArg Prod.fst hF
  have hF2 := congrArg (fun q => q.2.1) hF
  have hF3 : pX X = pX u.1 := congrArg (fun q => q.2.2) hF
  have hk : mTh (mFetc M (xs (i + 1))).2 = k := s1.trans hF1
  have hR2 : Rel (pX u.1) (mFetc M (xs (i + 1))).2 := by rw [← hF3]; exact s3
  have hlen2 : (sE (pX u.1)).length ≤ (sE (pX X)).length + 1 := by rw [← hF3]; omega
  have hA : k = 0 → u.2 0 = (mFetc M (xs (i + 1))).1.toInt64 := fun z => by rw [hans z, s2 (hF1.trans z), show (xFet (pX X) (xs (i + 1))).2 = rr from hF2]
  refine lv_istore (lv' := [(6, .int (nI k)), (5, .int (nI i)), (0, .ref b), (1, .ref (A 0 0)), (2, .ref h), (3, .ref o), (4, .ref od)]) C.1 C.2.1 dL_law_1642 hl (by decide) rfl (fun ls hl => ?_)
  refine lv_aload_n C.1 C.2.1 dL_law_1644 rfl (lv_at hl 4 rfl) ?_
  refine lv_aload_n C.1 C.2.1 dL_law_1645 rfl (lv_at hl 2 rfl) ?_
  refine lv_iload C.1 C.2.1 dL_law_1646 (lv_at hl 1 rfl) ?_
  refine lv_iconst (v := nI 1) C.1 C.2.1 dL_law_1648 (by decide) ?_
  refine q_iadd C dL_law_1649 ?_
  refine q_sld C hX0 hbl hW (k := i + 1) (by omega) (by omega) dL_law_1650 ?_
  refine q_callVi (rest := []) C (c_X4_fetched l D g h a M (xs (i + 1)) hM _) (gw_V ml_L_207 im_X4_fetched se_X4_X4_fetched ini_X4 cd_X4_fetched rfl) rfl rfl rfl hd_X4_fetched ⟨(Nat.le_of_ble_eq_true rfl), (Nat.le_of_ble_eq_true rfl)⟩ hW pm_l3 (fun (u2 : MdS) => (oL g o u.2 ++ (oD g od fd ++ (wX g A u.1 ++ wM g h a u2)))) (fun _ => pm_l3) rfl rfl hl.1 rfl (Nat.le_of_ble_eq_true rfl) ⟨by show _ + 0 ≤ 603072; omega, by show _ + 0 ≤ 7219306; omega⟩ dL_law_1651 (fun r2 u2 H locs hp hW => ?_)
  obtain ⟨rfl, rfl⟩ := hp
  have hW : qW D g (fun q => s.heap.size ≤ q) s.heap s (oL g o u.2 ++ (oD g od fd ++ (wX g A u.1 ++ wM g h a (mFetc M (xs (i + 1))).2))) H _ := hW
  refine lv_istore (lv' := [(7, .int (mFetc M (xs (i + 1))).1), (6, .int (nI k)), (5, .int (nI i)), (0, .ref b), (1, .ref (A 0 0)), (2, .ref h), (3, .ref o), (4, .ref od)]) C.1 C.2.1 dL_law_1654 hl (by decide) rfl (fun ls hl => ?_)
  refine lv_aload_n C.1 C.2.1 dL_law_1656 rfl (lv_at hl 5 rfl) ?_
  refine q_callVi (rest := []) C (c_X4_thrown l D g h a ((mFetc M (xs (i + 1))).2) (hR2.1) _) (gw_V ml_L_127 im_X4_thrown se_X4_X4_thrown ini_X4 cd_X4_thrown rfl) rfl rfl rfl hd_X4_thrown ⟨(Nat.le_of_ble_eq_true rfl), (Nat.le_of_ble_eq_true rfl)⟩ hW pm_l3 (fun u2 => (oL g o u.2 ++ (oD g od fd ++ (wX g A u.1 ++ wM g h a u2)))) (fun _ => pm_l3) rfl rfl hl.1 rfl (Nat.le_of_ble_eq_true rfl) ⟨by show _ ≤ 603072; omega, by show _ ≤ 7219306; omega⟩ dL_law_1657 (fun r2 u2 H locs hp hW => ?_)
  obtain ⟨rfl, rfl⟩ := hp
  refine lv_iload C.1 C.2.1 dL_law_1660 (lv_at hl 1 rfl) ?_
  refine lv_icmp_eq (tgt := 1667) C.1 C.2.1 dL_law_1662 (by decide) (fun _ => ?_) (fun z9 => absurd (by rw [hk]) z9)
  refine lv_iload C.1 C.2.1 dL_law_1667 (lv_at hl 1 rfl) ?_
  refine lv_if_ne (tgt := 1684) C.1 C.2.1 dL_law_1669 (by decide) (fun _ => ?_) (fun z0 => ?_)
  · refine lv_goto (tgt := 1943) C.1 C.2.1 dL_law_1684 (by decide) ?_
    refine W.widen (k := cells + 11) (n := slots + 6174) (by omega) (by omega) ?_
    exact kk u.1 _ a u.2 fd _ _ ls hu hR2 hlen2 (lv_sub hl [2, 3, 4, 5, 6, 7] rfl) hW
  have z0 : k = 0 := nI_k0 hk4 z0
  have hA := hA z0
  refine lv_aload_n C.1 C.2.1 dL_law_1672 rfl (lv_at hl 6 rfl) ?_
  refine lv_iconst (v := nI 0) C.1 C.2.1 dL_law_1673 (by decide) ?_
  refine q_lald (f := u.2) C hW 0 rfl (k := 0) (by decide) (by decide) dL_law_1674 ?_
  refine lv_iload C.1 C.2.1 dL_law_1675 (lv_at hl 0 rfl) ?_
  refine lv_i2l (v := ((mFetc M (xs (i + 1))).1).toInt64) C.1 C.2.1 dL_law_1677 rfl ?_
  refine W.lcmp C.1 C.2.1 dL_law_1678 ?_
  refine lv_if_eq (tgt := 1684) C.1 C.2.1 dL_law_1679 (by decide) (fun _ => ?_) (fun z9 => absurd (by rw [hA]; exact lcmp_self _) z9)
  refine lv_goto (tgt := 1943) C.1 C.2.1 dL_law_1684 (by decide) ?_
  refine W.widen (k := cells + 11) (n := slots + 6174) (by omega) (by omega) ?_
  exact kk u.1 _ a u.2 fd _ _ ls hu hR2 hlen2 (lv_sub hl [2, 3, 4, 5, 6, 7] rfl) hW

set_option maxHeartbeats 4000000 in
set_option maxRecDepth 100000 in
theorem lw_useful (C : CallFix p m c cL_law 9 s #[Value.ref b] (w0 :: GW) RL) (hst : l.stackTraces = false) (hE : qE D g ev (fun q => s.heap.size ≤ q) s s.heap) (hN : qNC s) (hX0 : va_X b L xs s s.heap) (hbl : b < s.heap.size) (hL : L ≤ 2048) (hi : i + 4 ≤ L) (hX : XOK ev.1 X) (hR : Rel (pX X) M) (hlen : (sE (pX X)).length < 512) (hf : cells + 11 ≤ 603072 ∧ slots + 6174 ≤ 7219306)
    (hl : lv_has ls 9 (lwl b A h o od i)) (hW : qW D g (fun q => s.heap.size ≤ q) s.heap s (lwW g A h o od X M a f fd) H locs)
    (kk : LK p l e s m b below meth c D g ev A h o od i X cells slots Q) : W p l e room_1 s m #[Value.ref b] below meth c H locs cells slots Q (F0 m 1687 ls []) := by
  have hl : lv_has ls 9 [(5, .int (nI i)), (0, .ref b), (1, .ref (A 0 0)), (2, .ref h), (3, .ref o), (4, .ref od)] := hl
  have hW : qW D g (fun q => s.heap.size ≤ q) s.heap s (oL g o f ++ (oD g od fd ++ (wX g A X ++ wM g h a M))) H locs := hW
  have hM := hR.1
  have hac : mAc M < 512 := Nat.lt_of_le_of_lt hR.ac512 hlen
  have hfull : (xE X).length < 512 := by rw [← evs_len]; exact hlen
  have hL3 := hR.l3
  refine lv_aload_n C.1 C.2.1 dL_law_1687 rfl (lv_at hl 2 rfl) ?_
  refine lv_aload_n C.1 C.2.1 dL_law_1688 rfl (lv_at hl 1 rfl) ?_
  refine lv_iload C.1 C.2.1 dL_law_1689 (lv_at hl 0 rfl) ?_
  refine lv_iconst (v := nI 1) C.1 C.2.1 dL_law_1691 (by decide) ?_
  refine q_iadd C dL_law_1692 ?_
  refine q_sld C hX0 hbl hW (k := i + 1) (by omega) (by omega) dL_law_1693 ?_
  refine lv_aload_n C.1 C.2.1 dL_law_1694 rfl (lv_at hl 4 rfl) ?_
  refine qh_callS (rest := []) C hE hN (c_L_useful l hst D g ev A X hX (xs (i + 1)) o f _) (gw_S ml_L_208 sm_L_useful ini_L cw_L_useful rfl) rfl rfl rfl hd_L_useful ⟨(Nat.le_of_ble_eq_true rfl), (Nat.le_of_ble_eq_true rfl)⟩ hW pm_hL (fun (u : XS × (Nat → Int64)) => (oL g o u.2 ++ (oD g od fd ++ (wX g A u.1 ++ wM g h a M)))) (fun _ => pm_hL) hl.1 rfl (Nat.le_of_ble_eq_true rfl) ⟨by show cells + 1 ≤ 603072; omega, by show slots + 6 ≤ 7219306; omega⟩ dL_law_1695 (fun r u H locs hp hW => ?_)
  obtain ⟨hu, k, rr, hk4, rfl, hF, hans⟩ := hp
  obtain ⟨s1, s2, s3⟩ := sim_usef hR (xs (i + 1))
  have hF1 := congrArg Prod.fst hF
  have hF2 := congrArg (fun q => q.2.1) hF
  have hF3 : pX X = pX u.1 := congrArg (fun q => q.2.2) hF
  have hk : mTh (mUsef M (xs (i + 1))).2 = k := s1.trans hF1
  have hR2 : Rel (pX u.1) (mUsef M (xs (i + 1))).2 := by rw [← hF3]; exact s3
  have hlen2 : (sE (pX u.1)).length ≤ (sE (pX X)).length + 1 := by rw [← hF3]; omega
  have hA : k = 0 → u.2 0 = (mUsef M (xs (i + 1))).1.toInt64 := fun z => by rw [hans z, s2 (hF1.trans z), show (xUsef (pX X) (xs (i + 1))).2 = rr from hF2]
  refine lv_istore (lv' := [(6, .int (nI k)), (5, .int (nI i)), (0, .ref b), (1, .ref (A 0 0)), (2, .ref h), (3, .ref o), (4, .ref od)]) C.1 C.2.1 dL_law_1698 hl (by decide) rfl (fun ls hl => ?_)
  refine lv_aload_n C.1 C.2.1 dL_law_1700 rfl (lv_at hl 4 rfl) ?_
  refine lv_aload_n C.1 C.2.1 dL_law_1701 rfl (lv_at hl 2 rfl) ?_
  refine lv_iload C.1 C.2.1 dL_law_1702 (lv_at hl 1 rfl) ?_
  refine lv_iconst (v := nI 1) C.1 C.2.1 dL_law_1704 (by decide) ?_
  refine q_iadd C dL_law_1705 ?_
  refine q_sld C hX0 hbl hW (k := i + 1) (by omega) (by omega) dL_law_1706 ?_
  refine q_callVi (rest := []) C (c_X4_useful l D g h a M (xs (i + 1)) hM _) (gw_V ml_L_210 im_X4_useful se_X4_X4_useful ini_X4 cd_X4_useful rfl) rfl rfl rfl hd_X4_useful ⟨(Nat.le_of_ble_eq_true rfl), (Nat.le_of_ble_eq_true rfl)⟩ hW pm_l3 (fun (u2 : MdS) => (oL g o u.2 ++ (oD g od fd ++ (wX g A u.1 ++ wM g h a u2)))) (fun _ => pm_l3) rfl rfl hl.1 rfl (Nat.le_of_ble_eq_true rfl) ⟨by show _ + 0 ≤ 603072; omega, by show _ + 0 ≤ 7219306; omega⟩ dL_law_1707 (fun r2 u2 H locs hp hW => ?_)
  obtain ⟨rfl, rfl⟩ := hp
  have hW : qW D g (fun q => s.heap.size ≤ q) s.heap s (oL g o u.2 ++ (oD g od fd ++ (wX g A u.1 ++ wM g h a (mUsef M (xs (i + 1))).2))) H _ := hW
  refine lv_istore (lv' := [(7, .int (mUsef M (xs (i + 1))).1), (6, .int (nI k)), (5, .int (nI i)), (0, .ref b), (1, .ref (A 0 0)), (2, .ref h), (3, .ref o), (4, .ref od)]) C.1 C.2.1 dL_law_1710 hl (by decide) rfl (fun ls hl => ?_)
  refine lv_aload_n C.1 C.2.1 dL_law_1712 rfl (lv_at hl 5 rfl) ?_
  refine q_callVi (rest := []) C (c_X4_thrown l D g h a ((mUsef M (xs (i + 1))).2) (hR2.1) _) (gw_V ml_L_127 im_X4_thrown se_X4_X4_thrown ini_X4 cd_X4_thrown rfl) rfl rfl rfl hd_X4_thrown ⟨(Nat.le_of_ble_eq_true rfl), (Nat.le_of_ble_eq_true rfl)⟩ hW pm_l3 (fun u2 => (oL g o u.2 ++ (oD g od fd ++ (wX g A u.1 ++ wM g h a u2)))) (fun _ => pm_l3) rfl rfl hl.1 rfl (Nat.le_of_ble_eq_true rfl) ⟨by show _ ≤ 603072; omega, by show _ ≤ 7219306; omega⟩ dL_law_1713 (fun r2 u2 H locs hp hW => ?_)
  obtain ⟨rfl, rfl⟩ := hp
  refine lv_iload C.1 C.2.1 dL_law_1716 (lv_at hl 1 rfl) ?_
  refine lv_icmp_eq (tgt := 1723) C.1 C.2.1 dL_law_1718 (by decide) (fun _ => ?_) (fun z9 => absurd (by rw [hk]) z9)
  refine lv_iload C.1 C.2.1 dL_law_1723 (lv_at hl 1 rfl) ?_
  refine lv_if_ne (tgt := 1740) C.1 C.2.1 dL_law_1725 (by decide) (fun _ => ?_) (fun z0 => ?_)
  · refine lv_goto (tgt := 1943) C.1 C.2.1 dL_law_1740 (by decide) ?_
    refine W.widen (k := cells + 11) (n := slots + 6174) (by omega) (by omega) ?_
    exact kk u.1 _ a u.2 fd _ _ ls hu hR2 hlen2 (lv_sub hl [2, 3, 4, 5, 6, 7] rfl) hW
  have z0 : k = 0 := nI_k0 hk4 z0
  have hA := hA z0
  refine lv_aload_n C.1 C.2.1 dL_law_1728 rfl (lv_at hl 6 rfl) ?_
  refine lv_iconst (v := nI 0) C.1 C.2.1 dL_law_1729 (by decide) ?_
  refine q_lald (f := u.2) C hW 0 rfl (k := 0) (by decide) (by decide) dL_law_1730 ?_
  refine lv_iload C.1 C.2.1 dL_law_1731 (lv_at hl 0 rfl) ?_
  refine lv_i2l (v := ((mUsef M (xs (i + 1))).1).toInt64) C.1 C.2.1 dL_law_1733 rfl ?_
  refine W.lcmp C.1 C.2.1 dL_law_1734 ?_
  refine lv_if_eq (tgt := 1740) C.1 C.2.1 dL_law_1735 (by decide) (fun _ => ?_) (fun z9 => absurd (by rw [hA]; exact lcmp_self _) z9)
  refine lv_goto (tgt := 1943) C.1 C.2.1 dL_law_1740 (by decide) ?_
  refine W.widen (k := cells + 11) (n := slots + 6174) (by omega) (by omega) ?_
  exact kk u.1 _ a u.2 fd _ _ ls hu hR2 hlen2 (lv_sub hl [2, 3, 4, 5, 6, 7] rfl) hW

set_option maxHeartbeats 4000000 in
set_option maxRecDepth 100000 in
theorem lw_wrong (C : CallFix p m c cL_law 9 s #[Value.ref b] (w0 :: GW) RL) (hst : l.stackTraces = false) (hE : qE D g ev (fun q => s.heap.size ≤ q) s s.heap) (hN : qNC s) (hX0 : va_X b L xs s s.heap) (hbl : b < s.heap.size) (hL : L ≤ 2048) (hi : i + 4 ≤ L) (hX : XOK ev.1 X) (hR : Rel (pX X) M) (hlen : (sE (pX X)).length < 512) (hf : cells + 11 ≤ 603072 ∧ slots + 6174 ≤ 7219306)
    (hl : lv_has ls 9 (lwl b A h o od i)) (hW : qW D g (fun q => s.heap.size ≤ q) s.heap s (lwW g A h o od X M a f fd) H locs)
    (kk : LK p l e s m b below meth c D g ev A h o od i X cells slots Q) : W p l e room_1 s m #[Value.ref b] below meth c H locs cells slots Q (F0 m 1743 ls []) := by
  have hl : lv_has ls 9 [(5, .int (nI i)), (0, .ref b), (1, .ref (A 0 0)), (2, .ref h), (3, .ref o), (4, .ref od)] := hl
  have hW : qW D g (fun q => s.heap.size ≤ q) s.heap s (oL g o f ++ (oD g od fd ++ (wX g A X ++ wM g h a M))) H locs := hW
  have hM := hR.1
  have hac : mAc M < 512 := Nat.lt_of_le_of_lt hR.ac512 hlen
  have hfull : (xE X).length < 512 := by rw [← evs_len]; exact hlen
  have hL3 := hR.l3
  refine lv_aload_n C.1 C.2.1 dL_law_1743 rfl (lv_at hl 2 rfl) ?_
  refine lv_aload_n C.1 C.2.1 dL_law_1744 rfl (lv_at hl 1 rfl) ?_
  refine lv_iload C.1 C.2.1 dL_law_1745 (lv_at hl 0 rfl) ?_
  refine lv_iconst (v := nI 1) C.1 C.2.1 dL_law_1747 (by decide) ?_
  refine q_iadd C dL_law_1748 ?_
  refine q_sld C hX0 hbl hW (k := i + 1) (by omega) (by omega) dL_law_1749 ?_
  refine lv_aload_n C.1 C.2.1 dL_law_1750 rfl (lv_at hl 4 rfl) ?_
  refine qh_callS (rest := []) C hE hN (c_L_wrong l hst D g ev A X hX (xs (i + 1)) o f _) (gw_S ml_L_211 sm_L_wrong ini_L cw_L_wrong rfl) rfl rfl rfl hd_L_wrong ⟨(Nat.le_of_ble_eq_true rfl), (Nat.le_of_ble_eq_true rfl)⟩ hW pm_hL (fun (u : XS × (Nat → Int64)) => (oL g o u.2 ++ (oD g od fd ++ (wX g A u.1 ++ wM g h a M)))) (fun _ => pm_hL) hl.1 rfl (Nat.le_of_ble_eq_true rfl) ⟨by show cells + 1 ≤ 603072; omega, by show slots + 6 ≤ 7219306; omega⟩ dL_law_1751 (fun r u H locs hp hW => ?_)
  obtain ⟨hu, k, rr, hk4, rfl, hF, hans⟩ := hp
  obtain ⟨s1, s2, s3⟩ := sim_wrg hR (xs (i + 1))
  have hF1 := congrArg Prod.fst hF
  have hF2 := congrArg (fun q => q.2.1) hF
  have hF3 : pX X = pX u.1 := congrArg (fun q => q.2.2) hF
  have hk : mTh (mWron M (xs (i + 1))).2 = k := s1.trans hF1
  have hR2 : Rel (pX u.1) (mWron M (xs (i + 1))).2 := by rw [← hF3]; exact s3
  have hlen2 : (sE (pX u.1)).length ≤ (sE (pX X)).length + 1 := by rw [← hF3]; omega
  have hA : k = 0 → u.2 0 = (mWron M (xs (i + 1))).1.toInt64 := fun z => by rw [hans z, s2 (hF1.trans z), show (xWrg (pX X) (xs (i + 1))).2 = rr from hF2]
  refine lv_istore (lv' := [(6, .int (nI k)), (5, .int (nI i)), (0, .ref b), (1, .ref (A 0 0)), (2, .ref h), (3, .ref o), (4, .ref od)]) C.1 C.2.1 dL_law_1754 hl (by decide) rfl (fun ls hl => ?_)
  refine lv_aload_n C.1 C.2.1 dL_law_1756 rfl (lv_at hl 4 rfl) ?_
  refine lv_aload_n C.1 C.2.1 dL_law_1757 rfl (lv_at hl 2 rfl) ?_
  refine lv_iload C.1 C.2.1 dL_law_1758 (lv_at hl 1 rfl) ?_
  refine lv_iconst (v := nI 1) C.1 C.2.1 dL_law_1760 (by decide) ?_
  refine q_iadd C dL_law_1761 ?_
  refine q_sld C hX0 hbl hW (k := i + 1) (by omega) (by omega) dL_law_1762 ?_
  refine q_callVi (rest := []) C (c_X4_wrong l D g h a M (xs (i + 1)) hM _) (gw_V ml_L_213 im_X4_wrong se_X4_X4_wrong ini_X4 cd_X4_wrong rfl) rfl rfl rfl hd_X4_wrong ⟨(Nat.le_of_ble_eq_true rfl), (Nat.le_of_ble_eq_true rfl)⟩ hW pm_l3 (fun (u2 : MdS) => (oL g o u.2 ++ (oD g od fd ++ (wX g A u.1 ++ wM g h a u2)))) (fun _ => pm_l3) rfl rfl hl.1 rfl (Nat.le_of_ble_eq_true rfl) ⟨by show _ + 0 ≤ 603072; omega, by show _ + 0 ≤ 7219306; omega⟩ dL_law_1763 (fun r2 u2 H locs hp hW => ?_)
  obtain ⟨rfl, rfl⟩ := hp
  have hW : qW D g (fun q => s.heap.size ≤ q) s.heap s (oL g o u.2 ++ (oD g od fd ++ (wX g A u.1 ++ wM g h a (mWron M (xs (i + 1))).2))) H _ := hW
  refine lv_istore (lv' := [(7, .int (mWron M (xs (i + 1))).1), (6, .int (nI k)), (5, .int (nI i)), (0, .ref b), (1, .ref (A 0 0)), (2, .ref h), (3, .ref o), (4, .ref od)]) C.1 C.2.1 dL_law_1766 hl (by decide) rfl (fun ls hl => ?_)
  refine lv_aload_n C.1 C.2.1 dL_law_1768 rfl (lv_at hl 5 rfl) ?_
  refine q_callVi (rest := []) C (c_X4_thrown l D g h a ((mWron M (xs (i + 1))).2) (hR2.1) _) (gw_V ml_L_127 im_X4_thrown se_X4_X4_thrown ini_X4 cd_X4_thrown rfl) rfl rfl rfl hd_X4_thrown ⟨(Nat.le_of_ble_eq_true rfl), (Nat.le_of_ble_eq_true rfl)⟩ hW pm_l3 (fun u2 => (oL g o u.2 ++ (oD g od fd ++ (wX g A u.1 ++ wM g h a u2)))) (fun _ => pm_l3) rfl rfl hl.1 rfl (Nat.le_of_ble_eq_true rfl) ⟨by show _ ≤ 603072; omega, by show _ ≤ 7219306; omega⟩ dL_law_1769 (fun r2 u2 H locs hp hW => ?_)
  obtain ⟨rfl, rfl⟩ := hp
  refine lv_iload C.1 C.2.1 dL_law_1772 (lv_at hl 1 rfl) ?_
  refine lv_icmp_eq (tgt := 1779) C.1 C.2.1 dL_law_1774 (by decide) (fun _ => ?_) (fun z9 => absurd (by rw [hk]) z9)
  refine lv_iload C.1 C.2.1 dL_law_1779 (lv_at hl 1 rfl) ?_
  refine lv_if_ne (tgt := 1796) C.1 C.2.1 dL_law_1781 (by decide) (fun _ => ?_) (fun z0 => ?_)
  · refine lv_goto (tgt := 1943) C.1 C.2.1 dL_law_1796 (by decide) ?_
    refine W.widen (k := cells + 11) (n := slots + 6174) (by omega) (by omega) ?_
    exact kk u.1 _ a u.2 fd _ _ ls hu hR2 hlen2 (lv_sub hl [2, 3, 4, 5, 6, 7] rfl) hW
  have z0 : k = 0 := nI_k0 hk4 z0
  have hA := hA z0
  refine lv_aload_n C.1 C.2.1 dL_law_1784 rfl (lv_at hl 6 rfl) ?_
  refine lv_iconst (v := nI 0) C.1 C.2.1 dL_law_1785 (by decide) ?_
  refine q_lald (f := u.2) C hW 0 rfl (k := 0) (by decide) (by decide) dL_law_1786 ?_
  refine lv_iload C.1 C.2.1 dL_law_1787 (lv_at hl 0 rfl) ?_
  refine lv_i2l (v := ((mWron M (xs (i + 1))).1).toInt64) C.1 C.2.1 dL_law_1789 rfl ?_
  refine W.lcmp C.1 C.2.1 dL_law_1790 ?_
  refine lv_if_eq (tgt := 1796) C.1 C.2.1 dL_law_1791 (by decide) (fun _ => ?_) (fun z9 => absurd (by rw [hA]; exact lcmp_self _) z9)
  refine lv_goto (tgt := 1943) C.1 C.2.1 dL_law_1796 (by decide) ?_
  refine W.widen (k := cells + 11) (n := slots + 6174) (by omega) (by omega) ?_
  exact kk u.1 _ a u.2 fd _ _ ls hu hR2 hlen2 (lv_sub hl [2, 3, 4, 5, 6, 7] rfl) hW

set_option maxHeartbeats 4000000 in
set_option maxRecDepth 100000 in
theorem lw_missShare (C : CallFix p m c cL_law 9 s #[Value.ref b] (w0 :: GW) RL) (hst : l.stackTraces = false) (hE : qE D g ev (fun q => s.heap.size ≤ q) s s.heap) (hN : qNC s) (hX0 : va_X b L xs s s.heap) (hbl : b < s.heap.size) (hL : L ≤ 2048) (hi : i + 4 ≤ L) (hX : XOK ev.1 X) (hR : Rel (pX X) M) (hlen : (sE (pX X)).length < 512) (hf : cells + 11 ≤ 603072 ∧ slots + 6174 ≤ 7219306)
    (hl : lv_has ls 9 (lwl b A h o od i)) (hW : qW D g (fun q => s.heap.size ≤ q) s.heap s (lwW g A h o od X M a f fd) H locs)
    (kk : LK p l e s m b below meth c D g ev A h o od i X cells slots Q) : W p l e room_1 s m #[Value.ref b] below meth c H locs cells slots Q (F0 m 1799 ls []) := by
  have hl : lv_has ls 9 [(5, .int (nI i)), (0, .ref b), (1, .ref (A 0 0)), (2, .ref h), (3, .ref o), (4, .ref od)] := hl
  have hW : qW D g (fun q => s.heap.size ≤ q) s.heap s (oL g o f ++ (oD g od fd ++ (wX g A X ++ wM g h a M))) H locs := hW
  have hM := hR.1
  have hac : mAc M < 512 := Nat.lt_of_le_of_lt hR.ac512 hlen
  have hfull : (xE X).length < 512 := by rw [← evs_len]; exact hlen
  have hL3 := hR.l3
  refine lv_aload_n C.1 C.2.1 dL_law_1799 rfl (lv_at hl 2 rfl) ?_
  refine lv_aload C.1 C.2.1 dL_law_1800 (lv_at hl 5 rfl) ?_
  refine qh_callS (rest := []) C hE hN (c_L_missShare l hst D g ev A X hX od fd _) (gw_S ml_L_214 sm_L_missShare ini_L cw_L_missShare rfl) rfl rfl rfl hd_L_missShare ⟨(Nat.le_of_ble_eq_true rfl), (Nat.le_of_ble_eq_true rfl)⟩ hW pm_hD (fun (u : XS × (Nat → UInt64)) => (oL g o f ++ (oD g od u.2 ++ (wX g A u.1 ++ wM g h a M)))) (fun _ => pm_hD) hl.1 rfl (Nat.le_of_ble_eq_true rfl) ⟨by show cells + 1 ≤ 603072; omega, by show slots + 6 ≤ 7219306; omega⟩ dL_law_1802 (fun r u H locs hp hW => ?_)
  obtain ⟨hu, k, rr, hk4, rfl, hF, hans⟩ := hp
  obtain ⟨s1, s2, s3⟩ := sim_share hR
  have hF1 := congrArg Prod.fst hF
  have hF2 := congrArg (fun q => q.2.1) hF
  have hF3 : pX X = pX u.1 := congrArg (fun q => q.2.2) hF
  have hk : mTh (mShareF M).2 = k := s1.trans hF1
  have hR2 : Rel (pX u.1) (mShareF M).2 := by rw [← hF3]; exact s3
  have hlen2 : (sE (pX u.1)).length ≤ (sE (pX X)).length + 1 := by rw [← hF3]; omega
  have hA : k = 0 → u.2 0 = FP.f2d (mShareF M).1 := fun z => by rw [hans z, s2 (hF1.trans z), show (xShareF (pX X)).2 = rr from hF2]
  refine lv_istore (lv' := [(6, .int (nI k)), (5, .int (nI i)), (0, .ref b), (1, .ref (A 0 0)), (2, .ref h), (3, .ref o), (4, .ref od)]) C.1 C.2.1 dL_law_1805 hl (by decide) rfl (fun ls hl => ?_)
  refine lv_aload_n C.1 C.2.1 dL_law_1807 rfl (lv_at hl 4 rfl) ?_
  refine q_callVf (rest := []) C (c_X4_missShare l D g h a M hM hac _) (gw_V ml_L_217 im_X4_missShare se_X4_X4_missShare ini_X4 cd_X4_missShare rfl) rfl rfl rfl hd_X4_missShare ⟨(Nat.le_of_ble_eq_true rfl), (Nat.le_of_ble_eq_true rfl)⟩ hW pm_l3 (fun (u2 : MdS) => (oL g o f ++ (oD g od u.2 ++ (wX g A u.1 ++ wM g h a u2)))) (fun _ => pm_l3) rfl rfl hl.1 rfl (Nat.le_of_ble_eq_true rfl) ⟨by show _ + 0 ≤ 603072; omega, by show _ + 0 ≤ 7219306; omega⟩ dL_law_1808 (fun r2 u2 H locs hp hW => ?_)
  obtain ⟨rfl, rfl⟩ := hp
  have hW : qW D g (fun q => s.heap.size ≤ q) s.heap s (oL g o f ++ (oD g od u.2 ++ (wX g A u.1 ++ wM g h a (mShareF M).2))) H _ := hW
  refine lv_fstore (lv' := [(7, .float (mShareF M).1), (6, .int (nI k)), (5, .int (nI i)), (0, .ref b), (1, .ref (A 0 0)), (2, .ref h), (3, .ref o), (4, .ref od)]) C.1 C.2.1 dL_law_1811 hl (by decide) rfl (fun ls hl => ?_)
  refine lv_aload_n C.1 C.2.1 dL_law_1813 rfl (lv_at hl 5 rfl) ?_
  refine q_callVi (rest := []) C (c_X4_thrown l D g h a ((mShareF M).2) (hR2.1) _) (gw_V ml_L_127 im_X4_thrown se_X4_X4_thrown ini_X4 cd_X4_thrown rfl) rfl rfl rfl hd_X4_thrown ⟨(Nat.le_of_ble_eq_true rfl), (Nat.le_of_ble_eq_true rfl)⟩ hW pm_l3 (fun u2 => (oL g o f ++ (oD g od u.2 ++ (wX g A u.1 ++ wM g h a u2)))) (fun _ => pm_l3) rfl rfl hl.1 rfl (Nat.le_of_ble_eq_true rfl) ⟨by show _ ≤ 603072; omega, by show _ ≤ 7219306; omega⟩ dL_law_1814 (fun r2 u2 H locs hp hW => ?_)
  obtain ⟨rfl, rfl⟩ := hp
  refine lv_iload C.1 C.2.1 dL_law_1817 (lv_at hl 1 rfl) ?_
  refine lv_icmp_eq (tgt := 1824) C.1 C.2.1 dL_law_1819 (by decide) (fun _ => ?_) (fun z9 => absurd (by rw [hk]) z9)
  refine lv_iload C.1 C.2.1 dL_law_1824 (lv_at hl 1 rfl) ?_
  refine lv_if_ne (tgt := 1862) C.1 C.2.1 dL_law_1826 (by decide) (fun _ => ?_) (fun z0 => ?_)
  · refine lv_goto (tgt := 1943) C.1 C.2.1 dL_law_1862 (by decide) ?_
    refine W.widen (k := cells + 11) (n := slots + 6174) (by omega) (by omega) ?_
    exact kk u.1 _ a f u.2 _ _ ls hu hR2 hlen2 (lv_sub hl [2, 3, 4, 5, 6, 7] rfl) hW
  have z0 : k = 0 := nI_k0 hk4 z0
  have hA := hA z0
  refine lv_aload C.1 C.2.1 dL_law_1829 (lv_at hl 7 rfl) ?_
  refine lv_iconst (v := nI 0) C.1 C.2.1 dL_law_1831 (by decide) ?_
  refine q_dald (f := u.2) C hW 1 rfl (k := 0) (by decide) (by decide) dL_law_1832 ?_
  refine lv_fload C.1 C.2.1 dL_law_1833 (lv_at hl 0 rfl) ?_
  refine lv_f2d C.1 C.2.1 dL_law_1835 (share_f2d hR (by rw [hk]; exact z0)) ?_
  refine lv_dcmp C.1 C.2.1 dL_law_1836 ?_
  refine lv_if_eq (tgt := 1862) C.1 C.2.1 dL_law_1837 (by decide) (fun _ => ?_) (fun z9 => absurd (by rw [hA]; exact (dcmp_self0 (share_nan hR (by rw [hk]; exact z0)))) z9)
  refine lv_goto (tgt := 1943) C.1 C.2.1 dL_law_1862 (by decide) ?_
  refine W.widen (k := cells + 11) (n := slots + 6174) (by omega) (by omega) ?_
  exact kk u.1 _ a f u.2 _ _ ls hu hR2 hlen2 (lv_sub hl [2, 3, 4, 5, 6, 7] rfl) hW

set_option maxHeartbeats 4000000 in
set_option maxRecDepth 100000 in
theorem lw_meanCost (C : CallFix p m c cL_law 9 s #[Value.ref b] (w0 :: GW) RL) (hst : l.stackTraces = false) (hE : qE D g ev (fun q => s.heap.size ≤ q) s s.heap) (hN : qNC s) (hX0 : va_X b L xs s s.heap) (hbl : b < s.heap.size) (hL : L ≤ 2048) (hi : i + 4 ≤ L) (hX : XOK ev.1 X) (hR : Rel (pX X) M) (hlen : (sE (pX X)).length < 512) (hf : cells + 11 ≤ 603072 ∧ slots + 6174 ≤ 7219306)
    (hl : lv_has ls 9 (lwl b A h o od i)) (hW : qW D g (fun q => s.heap.size ≤ q) s.heap s (lwW g A h o od X M a f fd) H locs)
    (kk : LK p l e s m b below meth c D g ev A h o od i X cells slots Q) : W p l e room_1 s m #[Value.ref b] below meth c H locs cells slots Q (F0 m 1865 ls []) := by
  have hl : lv_has ls 9 [(5, .int (nI i)), (0, .ref b), (1, .ref (A 0 0)), (2, .ref h), (3, .ref o), (4, .ref od)] := hl
  have hW : qW D g (fun q => s.heap.size ≤ q) s.heap s (oL g o f ++ (oD g od fd ++ (wX g A X ++ wM g h a M))) H locs := hW
  have hM := hR.1
  have hac : mAc M < 512 := Nat.lt_of_le_of_lt hR.ac512 hlen
  have hfull : (xE X).length < 512 := by rw [← evs_len]; exact hlen
  have hL3 := hR.l3
  refine lv_aload_n C.1 C.2.1 dL_law_1865 rfl (lv_at hl 2 rfl) ?_
  refine lv_aload C.1 C.2.1 dL_law_1866 (lv_at hl 5 rfl) ?_
  refine qh_callS (rest := []) C hE hN (c_L_meanCost l hst D g ev A X hX od fd _) (gw_S ml_L_218 sm_L_meanCost ini_L cw_L_meanCost rfl) rfl rfl rfl hd_L_meanCost ⟨(Nat.le_of_ble_eq_true rfl), (Nat.le_of_ble_eq_true rfl)⟩ hW pm_hD (fun (u : XS × (Nat → UInt64)) => (oL g o f ++ (oD g od u.2 ++ (wX g A u.1 ++ wM g h a M)))) (fun _ => pm_hD) hl.1 rfl (Nat.le_of_ble_eq_true rfl) ⟨by show cells + 1 ≤ 603072; omega, by show slots + 6 ≤ 7219306; omega⟩ dL_law_1868 (fun r u H locs hp hW => ?_)
  obtain ⟨hu, k, rr, hk4, rfl, hF, hans⟩ := hp
  obtain ⟨s1, s2, s3⟩ := sim_mean hR
  have hF1 := congrArg Prod.fst hF
  have hF2 := congrArg (fun q => q.2.1) hF
  have hF3 : pX X = pX u.1 := congrArg (fun q => q.2.2) hF
  have hk : mTh (mMean M).2 = k := s1.trans hF1
  have hR2 : Rel (pX u.1) (mMean M).2 := by rw [← hF3]; exact s3
  have hlen2 : (sE (pX u.1)).length ≤ (sE (pX X)).length + 1 := by rw [← hF3]; omega
  have hA : k = 0 → u.2 0 = (mMean M).1 := fun z => by rw [hans z, s2 (hF1.trans z), show (xMean (pX X)).2 = rr from hF2]
  refine lv_istore (lv' := [(6, .int (nI k)), (5, .int (nI i)), (0, .ref b), (1, .ref (A 0 0)), (2, .ref h), (3, .ref o), (4, .ref od)]) C.1 C.2.1 dL_law_1871 hl (by decide) rfl (fun ls hl => ?_)
  refine lv_aload_n C.1 C.2.1 dL_law_1873 rfl (lv_at hl 4 rfl) ?_
  refine q_callVd (rest := []) C (c_X4_meanCost l D g h a M hM hac _) (gw_V ml_L_220 im_X4_meanCost se_X4_X4_meanCost ini_X4 cd_X4_meanCost rfl) rfl rfl rfl hd_X4_meanCost ⟨(Nat.le_of_ble_eq_true rfl), (Nat.le_of_ble_eq_true rfl)⟩ hW pm_l3 (fun (u2 : MdS) => (oL g o f ++ (oD g od u.2 ++ (wX g A u.1 ++ wM g h a u2)))) (fun _ => pm_l3) rfl rfl hl.1 rfl (Nat.le_of_ble_eq_true rfl) ⟨by show _ + 0 ≤ 603072; omega, by show _ + 0 ≤ 7219306; omega⟩ dL_law_1874 (fun r2 u2 H locs hp hW => ?_)
  obtain ⟨rfl, rfl⟩ := hp
  have hW : qW D g (fun q => s.heap.size ≤ q) s.heap s (oL g o f ++ (oD g od u.2 ++ (wX g A u.1 ++ wM g h a (mMean M).2))) H _ := hW
  refine lv_dstore (lv' := [(7, .double (mMean M).1), (6, .int (nI k)), (5, .int (nI i)), (0, .ref b), (1, .ref (A 0 0)), (2, .ref h), (3, .ref o), (4, .ref od)]) C.1 C.2.1 dL_law_1877 hl (by decide) rfl (fun ls hl => ?_)
  refine lv_aload_n C.1 C.2.1 dL_law_1879 rfl (lv_at hl 5 rfl) ?_
  refine q_callVi (rest := []) C (c_X4_thrown l D g h a ((mMean M).2) (hR2.1) _) (gw_V ml_L_127 im_X4_thrown se_X4_X4_thrown ini_X4 cd_X4_thrown rfl) rfl rfl rfl hd_X4_thrown ⟨(Nat.le_of_ble_eq_true rfl), (Nat.le_of_ble_eq_true rfl)⟩ hW pm_l3 (fun u2 => (oL g o f ++ (oD g od u.2 ++ (wX g A u.1 ++ wM g h a u2)))) (fun _ => pm_l3) rfl rfl hl.1 rfl (Nat.le_of_ble_eq_true rfl) ⟨by show _ ≤ 603072; omega, by show _ ≤ 7219306; omega⟩ dL_law_1880 (fun r2 u2 H locs hp hW => ?_)
  obtain ⟨rfl, rfl⟩ := hp
  refine lv_iload C.1 C.2.1 dL_law_1883 (lv_at hl 1 rfl) ?_
  refine lv_icmp_eq (tgt := 1890) C.1 C.2.1 dL_law_1885 (by decide) (fun _ => ?_) (fun z9 => absurd (by rw [hk]) z9)
  refine lv_iload C.1 C.2.1 dL_law_1890 (lv_at hl 1 rfl) ?_
  refine lv_if_ne (tgt := 1927) C.1 C.2.1 dL_law_1892 (by decide) (fun _ => ?_) (fun z0 => ?_)
  · refine lv_goto (tgt := 1943) C.1 C.2.1 dL_law_1927 (by decide) ?_
    refine W.widen (k := cells + 11) (n := slots + 6174) (by omega) (by omega) ?_
    exact kk u.1 _ a f u.2 _ _ ls hu hR2 hlen2 (lv_sub hl [2, 3, 4, 5, 6, 7] rfl) hW
  have z0 : k = 0 := nI_k0 hk4 z0
  have hA := hA z0
  refine lv_aload C.1 C.2.1 dL_law_1895 (lv_at hl 7 rfl) ?_
  refine lv_iconst (v := nI 0) C.1 C.2.1 dL_law_1897 (by decide) ?_
  refine q_dald (f := u.2) C hW 1 rfl (k := 0) (by decide) (by decide) dL_law_1898 ?_
  refine lv_dload C.1 C.2.1 dL_law_1899 (lv_at hl 0 rfl) ?_
  refine lv_dcmp C.1 C.2.1 dL_law_1901 ?_
  refine lv_if_eq (tgt := 1927) C.1 C.2.1 dL_law_1902 (by decide) (fun _ => ?_) (fun z9 => absurd (by rw [hA]; exact (dcmp_self0 (mean_nan hR (by rw [hk]; exact z0)))) z9)
  refine lv_goto (tgt := 1943) C.1 C.2.1 dL_law_1927 (by decide) ?_
  refine W.widen (k := cells + 11) (n := slots + 6174) (by omega) (by omega) ?_
  exact kk u.1 _ a f u.2 _ _ ls hu hR2 hlen2 (lv_sub hl [2, 3, 4, 5, 6, 7] rfl) hW

set_option maxHeartbeats 4000000 in
set_option maxRecDepth 100000 in
theorem lw_isCoherent (C : CallFix p m c cL_law 9 s #[Value.ref b] (w0 :: GW) RL) (hst : l.stackTraces = false) (hE : qE D g ev (fun q => s.heap.size ≤ q) s s.heap) (hN : qNC s) (hX0 : va_X b L xs s s.heap) (hbl : b < s.heap.size) (hL : L ≤ 2048) (hi : i + 4 ≤ L) (hX : XOK ev.1 X) (hR : Rel (pX X) M) (hlen : (sE (pX X)).length < 512) (hf : cells + 11 ≤ 603072 ∧ slots + 6174 ≤ 7219306)
    (hl : lv_has ls 9 (lwl b A h o od i)) (hW : qW D g (fun q => s.heap.size ≤ q) s.heap s (lwW g A h o od X M a f fd) H locs)
    (kk : LK p l e s m b below meth c D g ev A h o od i X cells slots Q) : W p l e room_1 s m #[Value.ref b] below meth c H locs cells slots Q (F0 m 1930 ls []) := by
  have hl : lv_has ls 9 [(5, .int (nI i)), (0, .ref b), (1, .ref (A 0 0)), (2, .ref h), (3, .ref o), (4, .ref od)] := hl
  have hW : qW D g (fun q => s.heap.size ≤ q) s.heap s (oL g o f ++ (oD g od fd ++ (wX g A X ++ wM g h a M))) H locs := hW
  have hM := hR.1
  have hac : mAc M < 512 := Nat.lt_of_le_of_lt hR.ac512 hlen
  have hfull : (xE X).length < 512 := by rw [← evs_len]; exact hlen
  have hL3 := hR.l3
  refine lv_aload_n C.1 C.2.1 dL_law_1930 rfl (lv_at hl 2 rfl) ?_
  refine qe_callVi (rest := []) C hE (c_X3_isCoherent l hst D g ev A X hX _) (gw_V ml_L_221 im_X3_isCoherent se_X3_X3_isCoherent ini_X3 cd_X3_isCoherent rfl) rfl rfl rfl hd_X3_isCoherent ⟨(Nat.le_of_ble_eq_true rfl), (Nat.le_of_ble_eq_true rfl)⟩ hW pm_x3 (fun (u : XS) => (oL g o f ++ (oD g od fd ++ (wX g A u ++ wM g h a M)))) (fun _ => pm_x3) rfl rfl hl.1 rfl (Nat.le_of_ble_eq_true rfl) ⟨by show cells + 0 ≤ 603072; omega, by show slots + 0 ≤ 7219306; omega⟩ dL_law_1931 (fun r u H locs hp hW => ?_)
  obtain ⟨rfl, Rv, rfl⟩ := hp
  refine lv_aload_n C.1 C.2.1 dL_law_1934 rfl (lv_at hl 3 rfl) ?_
  refine q_callVi (rest := [.int (bI (pLone (xC X) && repAll (pX X)))]) C (c_X4_isCoherent l D g h a M hM _) (gw_V ml_L_225 im_X4_isCoherent se_X4_X4_isCoherent ini_X4 cd_X4_isCoherent rfl) rfl rfl rfl hd_X4_isCoherent ⟨(Nat.le_of_ble_eq_true rfl), (Nat.le_of_ble_eq_true rfl)⟩ hW pm_l3 (fun (u2 : MdS) => (oL g o f ++ (oD g od fd ++ (wX g A (xSetR X Rv) ++ wM g h a u2)))) (fun _ => pm_l3) rfl rfl hl.1 rfl (Nat.le_of_ble_eq_true rfl) ⟨by show _ + 0 ≤ 603072; omega, by show _ + 0 ≤ 7219306; omega⟩ dL_law_1935 (fun r2 u2 H locs hp hW => ?_)
  obtain ⟨rfl, rfl⟩ := hp
  have hW : qW D g (fun q => s.heap.size ≤ q) s.heap s (oL g o f ++ (oD g od fd ++ (wX g A (xSetR X Rv) ++ wM g h a (sTh M 0)))) H _ := hW
  refine lv_icmp_eq (tgt := 1943) C.1 C.2.1 dL_law_1938 (by decide) (fun _ => ?_) (fun z9 => absurd (show bI (pLone (xC X) && repAll (pX X)) = bI true by rw [show (pLone (xC X) && repAll (pX X)) = true from sim_coh hR]) z9)
  have hR2 : Rel (pX X) (sTh M 0) := hR.th 0
  have hu := hX
  have hlen2 : (sE (pX X)).length ≤ (sE (pX X)).length + 1 := Nat.le_succ _
  refine W.widen (k := cells + 11) (n := slots + 6174) (by omega) (by omega) ?_
  exact kk (xSetR X Rv) _ a f fd _ _ ls (hX.setR Rv) hR2 hlen2 (lv_sub hl [0, 1, 2, 3, 4, 5] rfl) hW
end LAW4
