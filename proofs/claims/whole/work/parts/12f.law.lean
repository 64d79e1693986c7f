/-! The law's walk: a call of the class, the reference's, their answers side by side. -/
section LAW4
variable {p : Program} {l : Launch} {e : Env} {s : State} {m : MethodId} {below : List Frame} {meth : Method} {c : Code} {D : va_G} {g : Nat → ClassId} {ev : Nat × Nat × (Nat → Nat)} {A : Nat → Nat → Nat} {h o od b L i cells slots : Nat} {xs : Nat → Int32} {X : XS} {M : MdS} {a : Nat → Nat} {f : Nat → Int64} {fd : Nat → UInt64} {H : Heap} {locs : List Loc} {ls : Array Slot} {Q : State → Prop} {w0 : Cond}
set_option maxHeartbeats 4000000 in
set_option maxRecDepth 100000 in
theorem lw_missShare (C : CallFix p m c cL_law 9 s #[Value.ref b] (w0 :: GW) RL) (hst : l.stackTraces = false) (hE : qE D g ev (fun q => s.heap.size ≤ q) s s.heap) (hN : qNC s) (hX0 : va_X b L xs s s.heap) (hbl : b < s.heap.size) (hL : L ≤ 2048) (hi : i + 4 ≤ L) (hX : XOK ev.1 X) (hR : Rel (pX X) M) (hlen : (sE (pX X)).length < 512) (hf : cells + 11 ≤ 603072 ∧ slots + 6174 ≤ 7219306)
    (hl : lv_has ls 9 (lwl b A h o od i)) (hW : qW D g (fun q => s.heap.size ≤ q) s.heap s (lwW g A h o od X M a f fd) H locs)
    (kk : LK p l e s m b below meth c D g ev A h o od i X cells slots Q) : W p l e room_1 s m #[Value.ref b] below meth c H locs cells slots Q (F0 m 1799 ls []) := by
  have hl : lv_has ls 9 [(5, .int (nI i)), (0, .ref b), (1, .ref (A 0 0)), (2, .ref h), (3, .ref o), (4, .ref od)] := hl
  have hW : qW D g (fun q => s.heap.size ≤ q) s.heap s (oL g o f ++ (oD g od fd ++ (wX g A X ++ wM g h a M))) H locs := hW
  have hM := hR.1
  have hac : mAc M < 512 := Nat.lt_of_le_of_lt hR.ac512 hlen
  have hfull : (xE X).length < 512 := by rw [← evs_len]; exact hlen
  have hL3 := hR.l3
  refine lv_aload_n C.1 C.2.1 dL_law_1799 rfl (lv_at hl 2 rfl) ?_
  refine lv_aload C.1 C.2.1 dL_law_1800 (lv_at hl 5 rfl) ?_
  refine qh_callS (rest := []) C hE hN (c_L_missShare l hst D g ev A X hX od fd _) (gw_S ml_L_214 sm_L_missShare ini_L cw_L_missShare rfl) rfl rfl rfl hd_L_missShare ⟨(Nat.le_of_ble_eq_true rfl), (Nat.le_of_ble_eq_true rfl)⟩ hW pm_hD (fun (u : XS × (Nat → UInt64)) => (oL g o f ++ (oD g od u.2 ++ (wX g A u.1 ++ wM g h a M)))) (fun _ => pm_hD) hl.1 rfl (Nat.le_of_ble_eq_true rfl) ⟨by show cells + 1 ≤ 603072; omega, by show slots + 6 ≤ 7219306; omega⟩ dL_law_1802 (fun r u H locs hp hW => ?_)
  obtain ⟨hu, k, rr, hk4, rfl, hF, hans⟩ := hp
  obtain ⟨s1, s2, s3⟩ := sim_share hR
  have hF1 := congrArg Prod.fst hF
  have hF2 := congrArg (fun q => q.2.1) hF
  have hF3 : pX X = pX u.1 := congrArg (fun q => q.2.2) hF
  have hk : mTh (mShareF M).2 = k := s1.trans hF1
  have hR2 : Rel (pX u.1) (mShareF M).2 := by rw [← hF3]; exact s3
  have hlen2 : (sE (pX u.1)).length ≤ (sE (pX X)).length + 1 := by rw [← hF3]; omega
  have hA : k = 0 → u.2 0 = FP.f2d (mShareF M).1 := fun z => by rw [hans z, s2 (hF1.trans z), show (xShareF (pX X)).2 = rr from hF2]
  refine lv_istore (lv' := [(6, .int (nI k)), (5, .int (nI i)), (0, .ref b), (1, .ref (A 0 0)), (2, .ref h), (3, .ref o), (4, .ref od)]) C.1 C.2.1 dL_law_1805 hl (by decide) rfl (fun ls hl => ?_)
  refine lv_aload_n C.1 C.2.1 dL_law_1807 rfl (lv_at hl 4 rfl) ?_
  refine q_callVf (rest := []) C (c_X4_missShare l D g h a M hM hac _) (gw_V ml_L_217 im_X4_missShare se_X4_X4_missShare ini_X4 cd_X4_missShare rfl) rfl rfl rfl hd_X4_missShare ⟨(Nat.le_of_ble_eq_true rfl), (Nat.le_of_ble_eq_true rfl)⟩ hW pm_l3 (fun (u2 : MdS) => (oL g o f ++ (oD g od u.2 ++ (wX g A u.1 ++ wM g h a u2)))) (fun _ => pm_l3) rfl rfl hl.1 rfl (Nat.le_of_ble_eq_true rfl) ⟨by show _ + 0 ≤ 603072; omega, by show _ + 0 ≤ 7219306; omega⟩ dL_law_1808 (fun r2 u2 H locs hp hW => ?_)
  obtain ⟨rfl, rfl⟩ := hp
  have hW : qW D g (fun q => s.heap.size ≤ q) s.heap s (oL g o f ++ (oD g od u.2 ++ (wX g A u.1 ++ wM g h a (mShareF M).2))) H _ := hW
  refine lv_fstore (lv' := [(7, .float (mShareF M).1), (6, .int (nI k)), (5, .int (nI i)), (0, .ref b), (1, .ref (A 0 0)), (2, .ref h), (3, .ref o), (4, .ref od)]) C.1 C.2.1 dL_law_1811 hl (by decide) rfl (fun ls hl => ?_)
  refine lv_aload_n C.1 C.2.1 dL_law_1813 rfl (lv_at hl 5 rfl) ?_
  refine q_callVi (rest := []) C (c_X4_thrown l D g h a ((mShareF M).2) (hR2.1) _) (gw_V ml_L_127 im_X4_thrown se_X4_X4_thrown ini_X4 cd_X4_thrown rfl) rfl rfl rfl hd_X4_thrown ⟨(Nat.le_of_ble_eq_true rfl), (Nat.le_of_ble_eq_true rfl)⟩ hW pm_l3 (fun u2 => (oL g o f ++ (oD g od u.2 ++ (wX g A u.1 ++ wM g h a u2)))) (fun _ => pm_l3) rfl rfl hl.1 rfl (Nat.le_of_ble_eq_true rfl) ⟨by show _ ≤ 603072; omega, by show _ ≤ 7219306; omega⟩ dL_law_1814 (fun r2 u2 H locs hp hW => ?_)
  obtain ⟨rfl, rfl⟩ := hp
  refine lv_iload C.1 C.2.1 dL_law_1817 (lv_at hl 1 rfl) ?_
  refine lv_icmp_eq (tgt := 1824) C.1 C.2.1 dL_law_1819 (by decide) (fun _ => ?_) (fun z9 => absurd (by rw [hk]) z9)
  refine lv_iload C.1 C.2.1 dL_law_1824 (lv_at hl 1 rfl) ?_
  refine lv_if_ne (tgt := 1862) C.1 C.2.1 dL_law_1826 (by decide) (fun _ => ?_) (fun z0 => ?_)
  · refine lv_goto (tgt := 1943) C.1 C.2.1 dL_law_1862 (by decide) ?_
    refine W.widen (k := cells + 11) (n := slots + 6174) (by omega) (by omega) ?_
    exact kk u.1 _ a f u.2 _ _ ls hu hR2 hlen2 (lv_sub hl [2, 3, 4, 5, 6, 7] rfl) hW
  have z0 : k = 0 := nI_k0 hk4 z0
  have hA := hA z0
  refine lv_aload C.1 C.2.1 dL_law_1829 (lv_at hl 7 rfl) ?_
  refine lv_iconst (v := nI 0) C.1 C.2.1 dL_law_1831 (by decide) ?_
  refine q_dald (f := u.2) C hW 1 rfl (k := 0) (by decide) (by decide) dL_law_1832 ?_
  refine lv_fload C.1 C.2.1 dL_law_1833 (lv_at hl 0 rfl) ?_
  refine lv_f2d C.1 C.2.1 dL_law_1835 (share_f2d hR (by rw [hk]; exact z0)) ?_
  refine lv_dcmp C.1 C.2.1 dL_law_1836 ?_
  refine lv_if_eq (tgt := 1862) C.1 C.2.1 dL_law_1837 (by decide) (fun _ => ?_) (fun z9 => absurd (by rw [hA]; exact (dcmp_self0 (share_nan hR (by rw [hk]; exact z0)))) z9)
  refine lv_goto (tgt := 1943) C.1 C.2.1 dL_law_1862 (by decide) ?_
  refine W.widen (k := cells + 11) (n := slots + 6174) (by omega) (by omega) ?_
  exact kk u.1 _ a f u.2 _ _ ls hu hR2 hlen2 (lv_sub hl [2, 3, 4, 5, 6, 7] rfl) hW

set_option maxHeartbeats 4000000 in
set_option maxRecDepth 100000 in
theorem lw_isCoherent (C : CallFix p m c cL_law 9 s #[Value.ref b] (w0 :: GW) RL) (hst : l.stackTraces = false) (hE : qE D g ev (fun q => s.heap.size ≤ q) s s.heap) (hN : qNC s) (hX0 : va_X b L xs s s.heap) (hbl : b < s.heap.size) (hL : L ≤ 2048) (hi : i + 4 ≤ L) (hX : XOK ev.1 X) (hR : Rel (pX X) M) (hlen : (sE (pX X)).length < 512) (hf : cells + 11 ≤ 603072 ∧ slots + 6174 ≤ 7219306)
    (hl : lv_has ls 9 (lwl b A h o od i)) (hW : qW D g (fun q => s.heap.size ≤ q) s.heap s (lwW g A h o od X M a f fd) H locs)
    (kk : LK p l e s m b below meth c D g ev A h o od i X cells slots Q) : W p l e room_1 s m #[Value.ref b] below meth c H locs cells slots Q (F0 m 1930 ls []) := by
  have hl : lv_has ls 9 [(5, .int (nI i)), (0, .ref b), (1, .ref (A 0 0)), (2, .ref h), (3, .ref o), (4, .ref od)] := hl
  have hW : qW D g (fun q => s.heap.size ≤ q) s.heap s (oL g o f ++ (oD g od fd ++ (wX g A X ++ wM g h a M))) H locs := hW
  have hM := hR.1
  have hac : mAc M < 512 := Nat.lt_of_le_of_lt hR.ac512 hlen
  have hfull : (xE X).length < 512 := by rw [← evs_len]; exact hlen
  have hL3 := hR.l3
  refine lv_aload_n C.1 C.2.1 dL_law_1930 rfl (lv_at hl 2 rfl) ?_
  refine qe_callVi (rest := []) C hE (c_X3_isCoherent l hst D g ev A X hX _) (gw_V ml_L_221 im_X3_isCoherent se_X3_X3_isCoherent ini_X3 cd_X3_isCoherent rfl) rfl rfl rfl hd_X3_isCoherent ⟨(Nat.le_of_ble_eq_true rfl), (Nat.le_of_ble_eq_true rfl)⟩ hW pm_x3 (fun (u : XS) => (oL g o f ++ (oD g od fd ++ (wX g A u ++ wM g h a M)))) (fun _ => pm_x3) rfl rfl hl.1 rfl (Nat.le_of_ble_eq_true rfl) ⟨by show cells + 0 ≤ 603072; omega, by show slots + 0 ≤ 7219306; omega⟩ dL_law_1931 (fun r u H locs hp hW => ?_)
  obtain ⟨rfl, Rv, rfl⟩ := hp
  refine lv_aload_n C.1 C.2.1 dL_law_1934 rfl (lv_at hl 3 rfl) ?_
  refine q_callVi (rest := [.int (bI (pLone (xC X) && repAll (pX X)))]) C (c_X4_isCoherent l D g h a M hM _) (gw_V ml_L_225 im_X4_isCoherent se_X4_X4_isCoherent ini_X4 cd_X4_isCoherent rfl) rfl rfl rfl hd_X4_isCoherent ⟨(Nat.le_of_ble_eq_true rfl), (Nat.le_of_ble_eq_true rfl)⟩ hW pm_l3 (fun (u2 : MdS) => (oL g o f ++ (oD g od fd ++ (wX g A (xSetR X Rv) ++ wM g h a u2)))) (fun _ => pm_l3) rfl rfl hl.1 rfl (Nat.le_of_ble_eq_true rfl) ⟨by show _ + 0 ≤ 603072; omega, by show _ + 0 ≤ 7219306; omega⟩ dL_law_1935 (fun r2 u2 H locs hp hW => ?_)
  obtain ⟨rfl, rfl⟩ := hp
  have hW : qW D g (fun q => s.heap.size ≤ q) s.heap s (oL g o f ++ (oD g od fd ++ (wX g A (xSetR X Rv) ++ wM g h a (sTh M 0)))) H _ := hW
  refine lv_icmp_eq (tgt := 1943) C.1 C.2.1 dL_law_1938 (by decide) (fun _ => ?_) (fun z9 => absurd (show bI (pLone (xC X) && repAll (pX X)) = bI true by rw [show (pLone (xC X) && repAll (pX X)) = true from sim_coh hR]) z9)
  have hR2 : Rel (pX X) (sTh M 0) := hR.th 0
  have hu := hX
  have hlen2 : (sE (pX X)).length ≤ (sE (pX X)).length + 1 := Nat.le_succ _
  refine W.widen (k := cells + 11) (n := slots + 6174) (by omega) (by omega) ?_
  exact kk (xSetR X Rv) _ a f fd _ _ ls (hX.setR Rv) hR2 hlen2 (lv_sub hl [0, 1, 2, 3, 4, 5] rfl) hW
end LAW4
