/-! The law's walk: a call of the class, the reference's, their answers side by side. -/
section LAW1
variable {p : Program} {l : Launch} {e : Env} {s : State} {m : MethodId} {below : List Frame} {meth : Method} {c : Code} {D : va_G} {g : Nat → ClassId} {ev : Nat × Nat × (Nat → Nat)} {A : Nat → Nat → Nat} {h o od b L i cells slots : Nat} {xs : Nat → Int32} {X : XS} {M : MdS} {a : Nat → Nat} {f : Nat → Int64} {fd : Nat → UInt64} {H : Heap} {locs : List Loc} {ls : Array Slot} {Q : State → Prop} {w0 : Cond}
set_option maxHeartbeats 4000000 in
set_option maxRecDepth 100000 in
theorem lw_meet (C : CallFix p m c cL_law 9 s #[Value.ref b] (w0 :: GW) RL) (hst : l.stackTraces = false) (hE : qE D g ev (fun q => s.heap.size ≤ q) s s.heap) (hN : qNC s) (hX0 : va_X b L xs s s.heap) (hbl : b < s.heap.size) (hL : L ≤ 2048) (hi : i + 4 ≤ L) (hX : XOK ev.1 X) (hR : Rel (pX X) M) (hlen : (sE (pX X)).length < 512) (hf : cells + 11 ≤ 603072 ∧ slots + 6174 ≤ 7219306)
    (hl : lv_has ls 9 (lwl b A h o od i)) (hW : qW D g (fun q => s.heap.size ≤ q) s.heap s (lwW g A h o od X M a f fd) H locs)
    (kk : LK p l e s m b below meth c D g ev A h o od i X cells slots Q) : W p l e room_1 s m #[Value.ref b] below meth c H locs cells slots Q (F0 m 540 ls []) := by
  have hl : lv_has ls 9 [(5, .int (nI i)), (0, .ref b), (1, .ref (A 0 0)), (2, .ref h), (3, .ref o), (4, .ref od)] := hl
  have hW : qW D g (fun q => s.heap.size ≤ q) s.heap s (oL g o f ++ (oD g od fd ++ (wX g A X ++ wM g h a M))) H locs := hW
  have hM := hR.1
  have hac : mAc M < 512 := Nat.lt_of_le_of_lt hR.ac512 hlen
  have hfull : (xE X).length < 512 := by rw [← evs_len]; exact hlen
  have hL3 := hR.l3
  refine lv_aload_n C.1 C.2.1 dL_law_540 rfl (lv_at hl 2 rfl) ?_
  refine lv_aload_n C.1 C.2.1 dL_law_541 rfl (lv_at hl 1 rfl) ?_
  refine lv_iload C.1 C.2.1 dL_law_542 (lv_at hl 0 rfl) ?_
  refine lv_iconst (v := nI 1) C.1 C.2.1 dL_law_544 (by decide) ?_
  refine q_iadd C dL_law_545 ?_
  refine q_sld C hX0 hbl hW (k := i + 1) (by omega) (by omega) dL_law_546 ?_
  refine lv_aload_n C.1 C.2.1 dL_law_547 rfl (lv_at hl 1 rfl) ?_
  refine lv_iload C.1 C.2.1 dL_law_548 (lv_at hl 0 rfl) ?_
  refine lv_iconst (v := nI 2) C.1 C.2.1 dL_law_550 (by decide) ?_
  refine q_iadd C dL_law_551 ?_
  refine q_sld C hX0 hbl hW (k := i + 2) (by omega) (by omega) dL_law_552 ?_
  refine lv_aload_n C.1 C.2.1 dL_law_553 rfl (lv_at hl 4 rfl) ?_
  refine qh_callS (rest := []) C hE hN (c_L_meet l hst D g ev A X hX (xs (i + 1)) (xs (i + 2)) o f _) (gw_S ml_L_146 sm_L_meet ini_L cw_L_meet rfl) rfl rfl rfl hd_L_meet ⟨(Nat.le_of_ble_eq_true rfl), (Nat.le_of_ble_eq_true rfl)⟩ hW pm_hL (fun (u : XS × (Nat → Int64)) => (oL g o u.2 ++ (oD g od fd ++ (wX g A u.1 ++ wM g h a M)))) (fun _ => pm_hL) hl.1 rfl (Nat.le_of_ble_eq_true rfl) ⟨by show cells + 3 ≤ 603072; omega, by show slots + 18 ≤ 7219306; omega⟩ dL_law_554 (fun r u H locs hp hW => ?_)
  obtain ⟨hu, k, rr, hk4, rfl, hF, hans⟩ := hp
  obtain ⟨s1, s2, s3⟩ := sim_meet hR (xs (i + 1)) (xs (i + 2))
  have hF1 := congrArg Prod.fst hF
  have hF2 := congrArg (fun q => q.2.1) hF
  have hF3 : pX X = pX u.1 := congrArg (fun q => q.2.2) hF
  have hk : mTh (mMeet M (xs (i + 1)) (xs (i + 2))).2 = k := s1.trans hF1
  have hR2 : Rel (pX u.1) (mMeet M (xs (i + 1)) (xs (i + 2))).2 := by rw [← hF3]; exact s3
  have hlen2 : (sE (pX u.1)).length ≤ (sE (pX X)).length + 1 := by rw [← hF3]; omega
  have hA : k = 0 → u.2 0 = (if (mMeet M (xs (i + 1)) (xs (i + 2))).1 = true then 1 else 0) := fun z => by rw [hans z, s2 (hF1.trans z), show (xMeet (pX X) (xs (i + 1)) (xs (i + 2))).2 = rr from hF2]
  refine lv_istore (lv' := [(6, .int (nI k)), (5, .int (nI i)), (0, .ref b), (1, .ref (A 0 0)), (2, .ref h), (3, .ref o), (4, .ref od)]) C.1 C.2.1 dL_law_557 hl (by decide) rfl (fun ls hl => ?_)
  refine lv_aload_n C.1 C.2.1 dL_law_559 rfl (lv_at hl 4 rfl) ?_
  refine lv_aload_n C.1 C.2.1 dL_law_560 rfl (lv_at hl 2 rfl) ?_
  refine lv_iload C.1 C.2.1 dL_law_561 (lv_at hl 1 rfl) ?_
  refine lv_iconst (v := nI 1) C.1 C.2.1 dL_law_563 (by decide) ?_
  refine q_iadd C dL_law_564 ?_
  refine q_sld C hX0 hbl hW (k := i + 1) (by omega) (by omega) dL_law_565 ?_
  refine lv_aload_n C.1 C.2.1 dL_law_566 rfl (lv_at hl 2 rfl) ?_
  refine lv_iload C.1 C.2.1 dL_law_567 (lv_at hl 1 rfl) ?_
  refine lv_iconst (v := nI 2) C.1 C.2.1 dL_law_569 (by decide) ?_
  refine q_iadd C dL_law_570 ?_
  refine q_sld C hX0 hbl hW (k := i + 2) (by omega) (by omega) dL_law_571 ?_
  refine q_callVi (rest := []) C (c_X4_meet l D g h a M (xs (i + 1)) (xs (i + 2)) hM _) (gw_V ml_L_148 im_X4_meet se_X4_X4_meet ini_X4 cd_X4_meet rfl) rfl rfl rfl hd_X4_meet ⟨(Nat.le_of_ble_eq_true rfl), (Nat.le_of_ble_eq_true rfl)⟩ hW pm_l3 (fun (u2 : MdS) => (oL g o u.2 ++ (oD g od fd ++ (wX g A u.1 ++ wM g h a u2)))) (fun _ => pm_l3) rfl rfl hl.1 rfl (Nat.le_of_ble_eq_true rfl) ⟨by show _ + 0 ≤ 603072; omega, by show _ + 0 ≤ 7219306; omega⟩ dL_law_572 (fun r2 u2 H locs hp hW => ?_)
  obtain ⟨rfl, rfl⟩ := hp
  have hW : qW D g (fun q => s.heap.size ≤ q) s.heap s (oL g o u.2 ++ (oD g od fd ++ (wX g A u.1 ++ wM g h a (mMeet M (xs (i + 1)) (xs (i + 2))).2))) H _ := hW
  refine lv_istore (lv' := [(7, .int (bI (mMeet M (xs (i + 1)) (xs (i + 2))).1)), (6, .int (nI k)), (5, .int (nI i)), (0, .ref b), (1, .ref (A 0 0)), (2, .ref h), (3, .ref o), (4, .ref od)]) C.1 C.2.1 dL_law_575 hl (by decide) rfl (fun ls hl => ?_)
  refine lv_aload_n C.1 C.2.1 dL_law_577 rfl (lv_at hl 5 rfl) ?_
  refine q_callVi (rest := []) C (c_X4_thrown l D g h a ((mMeet M (xs (i + 1)) (xs (i + 2))).2) (hR2.1) _) (gw_V ml_L_127 im_X4_thrown se_X4_X4_thrown ini_X4 cd_X4_thrown rfl) rfl rfl rfl hd_X4_thrown ⟨(Nat.le_of_ble_eq_true rfl), (Nat.le_of_ble_eq_true rfl)⟩ hW pm_l3 (fun u2 => (oL g o u.2 ++ (oD g od fd ++ (wX g A u.1 ++ wM g h a u2)))) (fun _ => pm_l3) rfl rfl hl.1 rfl (Nat.le_of_ble_eq_true rfl) ⟨by show _ ≤ 603072; omega, by show _ ≤ 7219306; omega⟩ dL_law_578 (fun r2 u2 H locs hp hW => ?_)
  obtain ⟨rfl, rfl⟩ := hp
  refine lv_iload C.1 C.2.1 dL_law_581 (lv_at hl 1 rfl) ?_
  refine lv_icmp_eq (tgt := 588) C.1 C.2.1 dL_law_583 (by decide) (fun _ => ?_) (fun z9 => absurd (by rw [hk]) z9)
  refine lv_iload C.1 C.2.1 dL_law_588 (lv_at hl 1 rfl) ?_
  refine lv_if_ne (tgt := 612) C.1 C.2.1 dL_law_590 (by decide) (fun _ => ?_) (fun z0 => ?_)
  · refine lv_goto (tgt := 1943) C.1 C.2.1 dL_law_612 (by decide) ?_
    refine W.widen (k := cells + 11) (n := slots + 6174) (by omega) (by omega) ?_
    exact kk u.1 _ a u.2 fd _ _ ls hu hR2 hlen2 (lv_sub hl [2, 3, 4, 5, 6, 7] rfl) hW
  have z0 : k = 0 := nI_k0 hk4 z0
  have hA := hA z0
  refine lv_aload_n C.1 C.2.1 dL_law_593 rfl (lv_at hl 6 rfl) ?_
  refine lv_iconst (v := nI 0) C.1 C.2.1 dL_law_594 (by decide) ?_
  refine q_lald (f := u.2) C hW 0 rfl (k := 0) (by decide) (by decide) dL_law_595 ?_
  refine lv_iload C.1 C.2.1 dL_law_596 (lv_at hl 0 rfl) ?_
  refine q_l01 (b := (mMeet M (xs (i + 1)) (xs (i + 2))).1) (p2 := 605) C dL_law_598 dL_law_601 dL_law_602 dL_law_605 (by decide) (by decide) ?_
  refine W.lcmp C.1 C.2.1 dL_law_606 ?_
  refine lv_if_eq (tgt := 612) C.1 C.2.1 dL_law_607 (by decide) (fun _ => ?_) (fun z9 => absurd (by rw [hA]; exact lcmp_self _) z9)
  refine lv_goto (tgt := 1943) C.1 C.2.1 dL_law_612 (by decide) ?_
  refine W.widen (k := cells + 11) (n := slots + 6174) (by omega) (by omega) ?_
  exact kk u.1 _ a u.2 fd _ _ ls hu hR2 hlen2 (lv_sub hl [2, 3, 4, 5, 6, 7] rfl) hW

set_option maxHeartbeats 4000000 in
set_option maxRecDepth 100000 in
theorem lw_read (C : CallFix p m c cL_law 9 s #[Value.ref b] (w0 :: GW) RL) (hst : l.stackTraces = false) (hE : qE D g ev (fun q => s.heap.size ≤ q) s s.heap) (hN : qNC s) (hX0 : va_X b L xs s s.heap) (hbl : b < s.heap.size) (hL : L ≤ 2048) (hi : i + 4 ≤ L) (hX : XOK ev.1 X) (hR : Rel (pX X) M) (hlen : (sE (pX X)).length < 512) (hf : cells + 11 ≤ 603072 ∧ slots + 6174 ≤ 7219306)
    (hl : lv_has ls 9 (lwl b A h o od i)) (hW : qW D g (fun q => s.heap.size ≤ q) s.heap s (lwW g A h o od X M a f fd) H locs)
    (kk : LK p l e s m b below meth c D g ev A h o od i X cells slots Q) : W p l e room_1 s m #[Value.ref b] below meth c H locs cells slots Q (F0 m 615 ls []) := by
  have hl : lv_has ls 9 [(5, .int (nI i)), (0, .ref b), (1, .ref (A 0 0)), (2, .ref h), (3, .ref o), (4, .ref od)] := hl
  have hW : qW D g (fun q => s.heap.size ≤ q) s.heap s (oL g o f ++ (oD g od fd ++ (wX g A X ++ wM g h a M))) H locs := hW
  have hM := hR.1
  have hac : mAc M < 512 := Nat.lt_of_le_of_lt hR.ac512 hlen
  have hfull : (xE X).length < 512 := by rw [← evs_len]; exact hlen
  have hL3 := hR.l3
  refine lv_aload_n C.1 C.2.1 dL_law_615 rfl (lv_at hl 2 rfl) ?_
  refine lv_aload_n C.1 C.2.1 dL_law_616 rfl (lv_at hl 1 rfl) ?_
  refine lv_iload C.1 C.2.1 dL_law_617 (lv_at hl 0 rfl) ?_
  refine lv_iconst (v := nI 1) C.1 C.2.1 dL_law_619 (by decide) ?_
  refine q_iadd C dL_law_620 ?_
  refine q_sld C hX0 hbl hW (k := i + 1) (by omega) (by omega) dL_law_621 ?_
  refine lv_aload_n C.1 C.2.1 dL_law_622 rfl (lv_at hl 1 rfl) ?_
  refine lv_iload C.1 C.2.1 dL_law_623 (lv_at hl 0 rfl) ?_
  refine lv_iconst (v := nI 2) C.1 C.2.1 dL_law_625 (by decide) ?_
  refine q_iadd C dL_law_626 ?_
  refine q_sld C hX0 hbl hW (k := i + 2) (by omega) (by omega) dL_law_627 ?_
  refine lv_aload_n C.1 C.2.1 dL_law_628 rfl (lv_at hl 1 rfl) ?_
  refine lv_iload C.1 C.2.1 dL_law_629 (lv_at hl 0 rfl) ?_
  refine lv_iconst (v := nI 3) C.1 C.2.1 dL_law_631 (by decide) ?_
  refine q_iadd C dL_law_632 ?_
  refine q_sld C hX0 hbl hW (k := i + 3) (by omega) (by omega) dL_law_633 ?_
  refine lv_aload_n C.1 C.2.1 dL_law_634 rfl (lv_at hl 4 rfl) ?_
  refine qh_callS (rest := []) C hE hN (c_L_read l hst D g ev A X hX (xs (i + 1)) (xs (i + 2)) (xs (i + 3)) hfull hL3 o f _) (gw_S ml_L_149 sm_L_read ini_L cw_L_read rfl) rfl rfl rfl hd_L_read ⟨(Nat.le_of_ble_eq_true rfl), (Nat.le_of_ble_eq_true rfl)⟩ hW pm_hL (fun (u : XS × (Nat → Int64)) => (oL g o u.2 ++ (oD g od fd ++ (wX g A u.1 ++ wM g h a M)))) (fun _ => pm_hL) hl.1 rfl (Nat.le_of_ble_eq_true rfl) ⟨by show cells + 7 ≤ 603072; omega, by show slots + 2078 ≤ 7219306; omega⟩ dL_law_635 (fun r u H locs hp hW => ?_)
  obtain ⟨hu, k, rr, hk4, rfl, hF, hans⟩ := hp
  obtain ⟨s1, s2, s3⟩ := sim_read hR hlen (xs (i + 1)) (xs (i + 2)) (xs (i + 3))
  rw [hF] at s1 s2 s3
  have hk : mTh (mRead M (xs (i + 1)) (xs (i + 2)) (xs (i + 3))).2 = k := s1
  have hR2 : Rel (pX u.1) (mRead M (xs (i + 1)) (xs (i + 2)) (xs (i + 3))).2 := s3
  have hlen2 : (sE (pX u.1)).length ≤ (sE (pX X)).length + 1 := by have h9 := len_acc (pX X) false (xs (i + 1)) (xs (i + 2)) (xs (i + 3)); rw [hF] at h9; exact h9
  have hA : k = 0 → u.2 0 = (nI (mRead M (xs (i + 1)) (xs (i + 2)) (xs (i + 3))).1).toInt64 := fun z => by rw [hans z, s2 z]
  refine lv_istore (lv' := [(6, .int (nI k)), (5, .int (nI i)), (0, .ref b), (1, .ref (A 0 0)), (2, .ref h), (3, .ref o), (4, .ref od)]) C.1 C.2.1 dL_law_638 hl (by decide) rfl (fun ls hl => ?_)
  refine lv_aload_n C.1 C.2.1 dL_law_640 rfl (lv_at hl 4 rfl) ?_
  refine lv_aload_n C.1 C.2.1 dL_law_641 rfl (lv_at hl 2 rfl) ?_
  refine lv_iload C.1 C.2.1 dL_law_642 (lv_at hl 1 rfl) ?_
  refine lv_iconst (v := nI 1) C.1 C.2.1 dL_law_644 (by decide) ?_
  refine q_iadd C dL_law_645 ?_
  refine q_sld C hX0 hbl hW (k := i + 1) (by omega) (by omega) dL_law_646 ?_
  refine lv_aload_n C.1 C.2.1 dL_law_647 rfl (lv_at hl 2 rfl) ?_
  refine lv_iload C.1 C.2.1 dL_law_648 (lv_at hl 1 rfl) ?_
  refine lv_iconst (v := nI 2) C.1 C.2.1 dL_law_650 (by decide) ?_
  refine q_iadd C dL_law_651 ?_
  refine q_sld C hX0 hbl hW (k := i + 2) (by omega) (by omega) dL_law_652 ?_
  refine lv_aload_n C.1 C.2.1 dL_law_653 rfl (lv_at hl 2 rfl) ?_
  refine lv_iload C.1 C.2.1 dL_law_654 (lv_at hl 1 rfl) ?_
  refine lv_iconst (v := nI 3) C.1 C.2.1 dL_law_656 (by decide) ?_
  refine q_iadd C dL_law_657 ?_
  refine q_sld C hX0 hbl hW (k := i + 3) (by omega) (by omega) dL_law_658 ?_
  refine q_callVi (rest := []) C (c_X4_read l D g h a M (xs (i + 1)) (xs (i + 2)) (xs (i + 3)) hM hac _) (gw_V ml_L_152 im_X4_read se_X4_X4_read ini_X4 cd_X4_read rfl) rfl rfl rfl hd_X4_read ⟨(Nat.le_of_ble_eq_true rfl), (Nat.le_of_ble_eq_true rfl)⟩ hW pm_l3 (fun (u2 : (Nat → Nat) × MdS) => (oL g o u.2 ++ (oD g od fd ++ (wX g A u.1 ++ wM g h u2.1 u2.2)))) (fun _ => pm_l3) rfl rfl hl.1 rfl (Nat.le_of_ble_eq_true rfl) ⟨by show _ + 4 ≤ 603072; omega, by show _ + 4096 ≤ 7219306; omega⟩ dL_law_659 (fun r2 u2 H locs hp hW => ?_)
  obtain ⟨a2, u2⟩ := u2
  obtain ⟨rfl, hp⟩ := hp
  have hp : (mRead M (xs (i + 1)) (xs (i + 2)) (xs (i + 3))).2 = u2 := hp
  subst hp
  have hW : qW D g (fun q => s.heap.size ≤ q) s.heap s (oL g o u.2 ++ (oD g od fd ++ (wX g A u.1 ++ wM g h a2 (mRead M (xs (i + 1)) (xs (i + 2)) (xs (i + 3))).2))) H _ := hW
  refine lv_istore (lv' := [(7, .int (nI (mRead M (xs (i + 1)) (xs (i + 2)) (xs (i + 3))).1)), (6, .int (nI k)), (5, .int (nI i)), (0, .ref b), (1, .ref (A 0 0)), (2, .ref h), (3, .ref o), (4, .ref od)]) C.1 C.2.1 dL_law_662 hl (by decide) rfl (fun ls hl => ?_)
  refine lv_aload_n C.1 C.2.1 dL_law_664 rfl (lv_at hl 5 rfl) ?_
  refine q_callVi (rest := []) C (c_X4_thrown l D g h a2 ((mRead M (xs (i + 1)) (xs (i + 2)) (xs (i + 3))).2) (hR2.1) _) (gw_V ml_L_127 im_X4_thrown se_X4_X4_thrown ini_X4 cd_X4_thrown rfl) rfl rfl rfl hd_X4_thrown ⟨(Nat.le_of_ble_eq_true rfl), (Nat.le_of_ble_eq_true rfl)⟩ hW pm_l3 (fun u2 => (oL g o u.2 ++ (oD g od fd ++ (wX g A u.1 ++ wM g h a2 u2)))) (fun _ => pm_l3) rfl rfl hl.1 rfl (Nat.le_of_ble_eq_true rfl) ⟨by show _ ≤ 603072; omega, by show _ ≤ 7219306; omega⟩ dL_law_665 (fun r2 u2 H locs hp hW => ?_)
  obtain ⟨rfl, rfl⟩ := hp
  refine lv_iload C.1 C.2.1 dL_law_668 (lv_at hl 1 rfl) ?_
  refine lv_icmp_eq (tgt := 675) C.1 C.2.1 dL_law_670 (by decide) (fun _ => ?_) (fun z9 => absurd (by rw [hk]) z9)
  refine lv_iload C.1 C.2.1 dL_law_675 (lv_at hl 1 rfl) ?_
  refine lv_if_ne (tgt := 692) C.1 C.2.1 dL_law_677 (by decide) (fun _ => ?_) (fun z0 => ?_)
  · refine lv_goto (tgt := 1943) C.1 C.2.1 dL_law_692 (by decide) ?_
    refine W.widen (k := cells + 11) (n := slots + 6174) (by omega) (by omega) ?_
    exact kk u.1 _ a2 u.2 fd _ _ ls hu hR2 hlen2 (lv_sub hl [2, 3, 4, 5, 6, 7] rfl) hW
  have z0 : k = 0 := nI_k0 hk4 z0
  have hA := hA z0
  refine lv_aload_n C.1 C.2.1 dL_law_680 rfl (lv_at hl 6 rfl) ?_
  refine lv_iconst (v := nI 0) C.1 C.2.1 dL_law_681 (by decide) ?_
  refine q_lald (f := u.2) C hW 0 rfl (k := 0) (by decide) (by decide) dL_law_682 ?_
  refine lv_iload C.1 C.2.1 dL_law_683 (lv_at hl 0 rfl) ?_
  refine lv_i2l (v := (nI (mRead M (xs (i + 1)) (xs (i + 2)) (xs (i + 3))).1).toInt64) C.1 C.2.1 dL_law_685 rfl ?_
  refine W.lcmp C.1 C.2.1 dL_law_686 ?_
  refine lv_if_eq (tgt := 692) C.1 C.2.1 dL_law_687 (by decide) (fun _ => ?_) (fun z9 => absurd (by rw [hA]; exact lcmp_self _) z9)
  refine lv_goto (tgt := 1943) C.1 C.2.1 dL_law_692 (by decide) ?_
  refine W.widen (k := cells + 11) (n := slots + 6174) (by omega) (by omega) ?_
  exact kk u.1 _ a2 u.2 fd _ _ ls hu hR2 hlen2 (lv_sub hl [2, 3, 4, 5, 6, 7] rfl) hW

set_option maxHeartbeats 4000000 in
set_option maxRecDepth 100000 in
theorem lw_write (C : CallFix p m c cL_law 9 s #[Value.ref b] (w0 :: GW) RL) (hst : l.stackTraces = false) (hE : qE D g ev (fun q => s.heap.size ≤ q) s s.heap) (hN : qNC s) (hX0 : va_X b L xs s s.heap) (hbl : b < s.heap.size) (hL : L ≤ 2048) (hi : i + 4 ≤ L) (hX : XOK ev.1 X) (hR : Rel (pX X) M) (hlen : (sE (pX X)).length < 512) (hf : cells + 11 ≤ 603072 ∧ slots + 6174 ≤ 7219306)
    (hl : lv_has ls 9 (lwl b A h o od i)) (hW : qW D g (fun q => s.heap.size ≤ q) s.heap s (lwW g A h o od X M a f fd) H locs)
    (kk : LK p l e s m b below meth c D g ev A h o od i X cells slots Q) : W p l e room_1 s m #[Value.ref b] below meth c H locs cells slots Q (F0 m 695 ls []) := by
  have hl : lv_has ls 9 [(5, .int (nI i)), (0, .ref b), (1, .ref (A 0 0)), (2, .ref h), (3, .ref o), (4, .ref od)] := hl
  have hW : qW D g (fun q => s.heap.size ≤ q) s.heap s (oL g o f ++ (oD g od fd ++ (wX g A X ++ wM g h a M))) H locs := hW
  have hM := hR.1
  have hac : mAc M < 512 := Nat.lt_of_le_of_lt hR.ac512 hlen
  have hfull : (xE X).length < 512 := by rw [← evs_len]; exact hlen
  have hL3 := hR.l3
  refine lv_aload_n C.1 C.2.1 dL_law_695 rfl (lv_at hl 2 rfl) ?_
  refine lv_aload_n C.1 C.2.1 dL_law_696 rfl (lv_at hl 1 rfl) ?_
  refine lv_iload C.1 C.2.1 dL_law_697 (lv_at hl 0 rfl) ?_
  refine lv_iconst (v := nI 1) C.1 C.2.1 dL_law_699 (by decide) ?_
  refine q_iadd C dL_law_700 ?_
  refine q_sld C hX0 hbl hW (k := i + 1) (by omega) (by omega) dL_law_701 ?_
  refine lv_aload_n C.1 C.2.1 dL_law_702 rfl (lv_at hl 1 rfl) ?_
  refine lv_iload C.1 C.2.1 dL_law_703 (lv_at hl 0 rfl) ?_
  refine lv_iconst (v := nI 2) C.1 C.2.1 dL_law_705 (by decide) ?_
  refine q_iadd C dL_law_706 ?_
  refine q_sld C hX0 hbl hW (k := i + 2) (by omega) (by omega) dL_law_707 ?_
  refine lv_aload_n C.1 C.2.1 dL_law_708 rfl (lv_at hl 1 rfl) ?_
  refine lv_iload C.1 C.2.1 dL_law_709 (lv_at hl 0 rfl) ?_
  refine lv_iconst (v := nI 3) C.1 C.2.1 dL_law_711 (by decide) ?_
  refine q_iadd C dL_law_712 ?_
  refine q_sld C hX0 hbl hW (k := i + 3) (by omega) (by omega) dL_law_713 ?_
  refine lv_aload_n C.1 C.2.1 dL_law_714 rfl (lv_at hl 4 rfl) ?_
  refine qh_callS (rest := []) C hE hN (c_L_write l hst D g ev A X hX (xs (i + 1)) (xs (i + 2)) (xs (i + 3)) hfull hL3 o f _) (gw_S ml_L_153 sm_L_write ini_L cw_L_write rfl) rfl rfl rfl hd_L_write ⟨(Nat.le_of_ble_eq_true rfl), (Nat.le_of_ble_eq_true rfl)⟩ hW pm_hL (fun (u : XS × (Nat → Int64)) => (oL g o u.2 ++ (oD g od fd ++ (wX g A u.1 ++ wM g h a M)))) (fun _ => pm_hL) hl.1 rfl (Nat.le_of_ble_eq_true rfl) ⟨by show cells + 7 ≤ 603072; omega, by show slots + 2078 ≤ 7219306; omega⟩ dL_law_715 (fun r u H locs hp hW => ?_)
  obtain ⟨hu, k, rr, hk4, rfl, hF, hans⟩ := hp
  obtain ⟨s1, s2, s3⟩ := sim_write hR hlen (xs (i + 1)) (xs (i + 2)) (xs (i + 3))
  rw [hF] at s1 s2 s3
  have hk : mTh (mWrite M (xs (i + 1)) (xs (i + 2)) (xs (i + 3))).2 = k := s1
  have hR2 : Rel (pX u.1) (mWrite M (xs (i + 1)) (xs (i + 2)) (xs (i + 3))).2 := s3
  have hlen2 : (sE (pX u.1)).length ≤ (sE (pX X)).length + 1 := by have h9 := len_acc (pX X) true (xs (i + 1)) (xs (i + 2)) (xs (i + 3)); rw [hF] at h9; exact h9
  have hA : k = 0 → u.2 0 = (nI (mWrite M (xs (i + 1)) (xs (i + 2)) (xs (i + 3))).1).toInt64 := fun z => by rw [hans z, s2 z]
  refine lv_istore (lv' := [(6, .int (nI k)), (5, .int (nI i)), (0, .ref b), (1, .ref (A 0 0)), (2, .ref h), (3, .ref o), (4, .ref od)]) C.1 C.2.1 dL_law_718 hl (by decide) rfl (fun ls hl => ?_)
  refine lv_aload_n C.1 C.2.1 dL_law_720 rfl (lv_at hl 4 rfl) ?_
  refine lv_aload_n C.1 C.2.1 dL_law_721 rfl (lv_at hl 2 rfl) ?_
  refine lv_iload C.1 C.2.1 dL_law_722 (lv_at hl 1 rfl) ?_
  refine lv_iconst (v := nI 1) C.1 C.2.1 dL_law_724 (by decide) ?_
  refine q_iadd C dL_law_725 ?_
  refine q_sld C hX0 hbl hW (k := i + 1) (by omega) (by omega) dL_law_726 ?_
  refine lv_aload_n C.1 C.2.1 dL_law_727 rfl (lv_at hl 2 rfl) ?_
  refine lv_iload C.1 C.2.1 dL_law_728 (lv_at hl 1 rfl) ?_
  refine lv_iconst (v := nI 2) C.1 C.2.1 dL_law_730 (by decide) ?_
  refine q_iadd C dL_law_731 ?_
  refine q_sld C hX0 hbl hW (k := i + 2) (by omega) (by omega) dL_law_732 ?_
  refine lv_aload_n C.1 C.2.1 dL_law_733 rfl (lv_at hl 2 rfl) ?_
  refine lv_iload C.1 C.2.1 dL_law_734 (lv_at hl 1 rfl) ?_
  refine lv_iconst (v := nI 3) C.1 C.2.1 dL_law_736 (by decide) ?_
  refine q_iadd C dL_law_737 ?_
  refine q_sld C hX0 hbl hW (k := i + 3) (by omega) (by omega) dL_law_738 ?_
  refine q_callVi (rest := []) C (c_X4_write l D g h a M (xs (i + 1)) (xs (i + 2)) (xs (i + 3)) hM hac _) (gw_V ml_L_155 im_X4_write se_X4_X4_write ini_X4 cd_X4_write rfl) rfl rfl rfl hd_X4_write ⟨(Nat.le_of_ble_eq_true rfl), (Nat.le_of_ble_eq_true rfl)⟩ hW pm_l3 (fun (u2 : (Nat → Nat) × MdS) => (oL g o u.2 ++ (oD g od fd ++ (wX g A u.1 ++ wM g h u2.1 u2.2)))) (fun _ => pm_l3) rfl rfl hl.1 rfl (Nat.le_of_ble_eq_true rfl) ⟨by show _ + 4 ≤ 603072; omega, by show _ + 4096 ≤ 7219306; omega⟩ dL_law_739 (fun r2 u2 H locs hp hW => ?_)
  obtain ⟨a2, u2⟩ := u2
  obtain ⟨rfl, hp⟩ := hp
  have hp : (mWrite M (xs (i + 1)) (xs (i + 2)) (xs (i + 3))).2 = u2 := hp
  subst hp
  have hW : qW D g (fun q => s.heap.size ≤ q) s.heap s (oL g o u.2 ++ (oD g od fd ++ (wX g A u.1 ++ wM g h a2 (mWrite M (xs (i + 1)) (xs (i + 2)) (xs (i + 3))).2))) H _ := hW
  refine lv_istore (lv' := [(7, .int (nI (mWrite M (xs (i + 1)) (xs (i + 2)) (xs (i + 3))).1)), (6, .int (nI k)), (5, .int (nI i)), (0, .ref b), (1, .ref (A 0 0)), (2, .ref h), (3, .ref o), (4, .ref od)]) C.1 C.2.1 dL_law_742 hl (by decide) rfl (fun ls hl => ?_)
  refine lv_aload_n C.1 C.2.1 dL_law_744 rfl (lv_at hl 5 rfl) ?_
  refine q_callVi (rest := []) C (c_X4_thrown l D g h a2 ((mWrite M (xs (i + 1)) (xs (i + 2)) (xs (i + 3))).2) (hR2.1) _) (gw_V ml_L_127 im_X4_thrown se_X4_X4_thrown ini_X4 cd_X4_thrown rfl) rfl rfl rfl hd_X4_thrown ⟨(Nat.le_of_ble_eq_true rfl), (Nat.le_of_ble_eq_true rfl)⟩ hW pm_l3 (fun u2 => (oL g o u.2 ++ (oD g od fd ++ (wX g A u.1 ++ wM g h a2 u2)))) (fun _ => pm_l3) rfl rfl hl.1 rfl (Nat.le_of_ble_eq_true rfl) ⟨by show _ ≤ 603072; omega, by show _ ≤ 7219306; omega⟩ dL_law_745 (fun r2 u2 H locs hp hW => ?_)
  obtain ⟨rfl, rfl⟩ := hp
  refine lv_iload C.1 C.2.1 dL_law_748 (lv_at hl 1 rfl) ?_
  refine lv_icmp_eq (tgt := 755) C.1 C.2.1 dL_law_750 (by decide) (fun _ => ?_) (fun z9 => absurd (by rw [hk]) z9)
  refine lv_iload C.1 C.2.1 dL_law_755 (lv_at hl 1 rfl) ?_
  refine lv_if_ne (tgt := 772) C.1 C.2.1 dL_law_757 (by decide) (fun _ => ?_) (fun z0 => ?_)
  · refine lv_goto (tgt := 1943) C.1 C.2.1 dL_law_772 (by decide) ?_
    refine W.widen (k := cells + 11) (n := slots + 6174) (by omega) (by omega) ?_
    exact kk u.1 _ a2 u.2 fd _ _ ls hu hR2 hlen2 (lv_sub hl [2, 3, 4, 5, 6, 7] rfl) hW
  have z0 : k = 0 := nI_k0 hk4 z0
  have hA := hA z0
  refine lv_aload_n C.1 C.2.1 dL_law_760 rfl (lv_at hl 6 rfl) ?_
  refine lv_iconst (v := nI 0) C.1 C.2.1 dL_law_761 (by decide) ?_
  refine q_lald (f := u.2) C hW 0 rfl (k := 0) (by decide) (by decide) dL_law_762 ?_
  refine lv_iload C.1 C.2.1 dL_law_763 (lv_at hl 0 rfl) ?_
  refine lv_i2l (v := (nI (mWrite M (xs (i + 1)) (xs (i + 2)) (xs (i + 3))).1).toInt64) C.1 C.2.1 dL_law_765 rfl ?_
  refine W.lcmp C.1 C.2.1 dL_law_766 ?_
  refine lv_if_eq (tgt := 772) C.1 C.2.1 dL_law_767 (by decide) (fun _ => ?_) (fun z9 => absurd (by rw [hA]; exact lcmp_self _) z9)
  refine lv_goto (tgt := 1943) C.1 C.2.1 dL_law_772 (by decide) ?_
  refine W.widen (k := cells + 11) (n := slots + 6174) (by omega) (by omega) ?_
  exact kk u.1 _ a2 u.2 fd _ _ ls hu hR2 hlen2 (lv_sub hl [2, 3, 4, 5, 6, 7] rfl) hW

set_option maxHeartbeats 4000000 in
set_option maxRecDepth 100000 in
theorem lw_empty (C : CallFix p m c cL_law 9 s #[Value.ref b] (w0 :: GW) RL) (hst : l.stackTraces = false) (hE : qE D g ev (fun q => s.heap.size ≤ q) s s.heap) (hN : qNC s) (hX0 : va_X b L xs s s.heap) (hbl : b < s.heap.size) (hL : L ≤ 2048) (hi : i + 4 ≤ L) (hX : XOK ev.1 X) (hR : Rel (pX X) M) (hlen : (sE (pX X)).length < 512) (hf : cells + 11 ≤ 603072 ∧ slots + 6174 ≤ 7219306)
    (hl : lv_has ls 9 (lwl b A h o od i)) (hW : qW D g (fun q => s.heap.size ≤ q) s.heap s (lwW g A h o od X M a f fd) H locs)
    (kk : LK p l e s m b below meth c D g ev A h o od i X cells slots Q) : W p l e room_1 s m #[Value.ref b] below meth c H locs cells slots Q (F0 m 775 ls []) := by
  have hl : lv_has ls 9 [(5, .int (nI i)), (0, .ref b), (1, .ref (A 0 0)), (2, .ref h), (3, .ref o), (4, .ref od)] := hl
  have hW : qW D g (fun q => s.heap.size ≤ q) s.heap s (oL g o f ++ (oD g od fd ++ (wX g A X ++ wM g h a M))) H locs := hW
  have hM := hR.1
  have hac : mAc M < 512 := Nat.lt_of_le_of_lt hR.ac512 hlen
  have hfull : (xE X).length < 512 := by rw [← evs_len]; exact hlen
  have hL3 := hR.l3
  refine lv_aload_n C.1 C.2.1 dL_law_775 rfl (lv_at hl 2 rfl) ?_
  refine lv_aload_n C.1 C.2.1 dL_law_776 rfl (lv_at hl 1 rfl) ?_
  refine lv_iload C.1 C.2.1 dL_law_777 (lv_at hl 0 rfl) ?_
  refine lv_iconst (v := nI 1) C.1 C.2.1 dL_law_779 (by decide) ?_
  refine q_iadd C dL_law_780 ?_
  refine q_sld C hX0 hbl hW (k := i + 1) (by omega) (by omega) dL_law_781 ?_
  refine lv_aload_n C.1 C.2.1 dL_law_782 rfl (lv_at hl 4 rfl) ?_
  refine qh_callS (rest := []) C hE hN (c_L_empty l hst D g ev A X hX (xs (i + 1)) hfull o f _) (gw_S ml_L_156 sm_L_empty ini_L cw_L_empty rfl) rfl rfl rfl hd_L_empty ⟨(Nat.le_of_ble_eq_true rfl), (Nat.le_of_ble_eq_true rfl)⟩ hW pm_hL (fun (u : XS × (Nat → Int64)) => (oL g o u.2 ++ (oD g od fd ++ (wX g A u.1 ++ wM g h a M)))) (fun _ => pm_hL) hl.1 rfl (Nat.le_of_ble_eq_true rfl) ⟨by show cells + 3 ≤ 603072; omega, by show slots + 1036 ≤ 7219306; omega⟩ dL_law_783 (fun r u H locs hp hW => ?_)
  obtain ⟨hu, k, rr, hk4, rfl, hF, hans⟩ := hp
  obtain ⟨s1, s2, s3⟩ := sim_empty hR hlen (xs (i + 1))
  rw [hF] at s1 s2 s3
  have hk : mTh (mEmpty M (xs (i + 1))).2 = k := s1
  have hR2 : Rel (pX u.1) (mEmpty M (xs (i + 1))).2 := s3
  have hlen2 : (sE (pX u.1)).length ≤ (sE (pX X)).length + 1 := by have h9 := len_empty (pX X) (xs (i + 1)); rw [hF] at h9; exact h9
  have hA : k = 0 → u.2 0 = (nI (mEmpty M (xs (i + 1))).1).toInt64 := fun z => by rw [hans z, s2 z]
  refine lv_istore (lv' := [(6, .int (nI k)), (5, .int (nI i)), (0, .ref b), (1, .ref (A 0 0)), (2, .ref h), (3, .ref o), (4, .ref od)]) C.1 C.2.1 dL_law_786 hl (by decide) rfl (fun ls hl => ?_)
  refine lv_aload_n C.1 C.2.1 dL_law_788 rfl (lv_at hl 4 rfl) ?_
  refine lv_aload_n C.1 C.2.1 dL_law_789 rfl (lv_at hl 2 rfl) ?_
  refine lv_iload C.1 C.2.1 dL_law_790 (lv_at hl 1 rfl) ?_
  refine lv_iconst (v := nI 1) C.1 C.2.1 dL_law_792 (by decide) ?_
  refine q_iadd C dL_law_793 ?_
  refine q_sld C hX0 hbl hW (k := i + 1) (by omega) (by omega) dL_law_794 ?_
  refine q_callVi (rest := []) C (c_X4_empty l D g h a M (xs (i + 1)) hM _) (gw_V ml_L_158 im_X4_empty se_X4_X4_empty ini_X4 cd_X4_empty rfl) rfl rfl rfl hd_X4_empty ⟨(Nat.le_of_ble_eq_true rfl), (Nat.le_of_ble_eq_true rfl)⟩ hW pm_l3 (fun (u2 : MdS) => (oL g o u.2 ++ (oD g od fd ++ (wX g A u.1 ++ wM g h a u2)))) (fun _ => pm_l3) rfl rfl hl.1 rfl (Nat.le_of_ble_eq_true rfl) ⟨by show _ + 0 ≤ 603072; omega, by show _ + 0 ≤ 7219306; omega⟩ dL_law_795 (fun r2 u2 H locs hp hW => ?_)
  obtain ⟨rfl, rfl⟩ := hp
  have hW : qW D g (fun q => s.heap.size ≤ q) s.heap s (oL g o u.2 ++ (oD g od fd ++ (wX g A u.1 ++ wM g h a (mEmpty M (xs (i + 1))).2))) H _ := hW
  refine lv_istore (lv' := [(7, .int (nI (mEmpty M (xs (i + 1))).1)), (6, .int (nI k)), (5, .int (nI i)), (0, .ref b), (1, .ref (A 0 0)), (2, .ref h), (3, .ref o), (4, .ref od)]) C.1 C.2.1 dL_law_798 hl (by decide) rfl (fun ls hl => ?_)
  refine lv_aload_n C.1 C.2.1 dL_law_800 rfl (lv_at hl 5 rfl) ?_
  refine q_callVi (rest := []) C (c_X4_thrown l D g h a ((mEmpty M (xs (i + 1))).2) (hR2.1) _) (gw_V ml_L_127 im_X4_thrown se_X4_X4_thrown ini_X4 cd_X4_thrown rfl) rfl rfl rfl hd_X4_thrown ⟨(Nat.le_of_ble_eq_true rfl), (Nat.le_of_ble_eq_true rfl)⟩ hW pm_l3 (fun u2 => (oL g o u.2 ++ (oD g od fd ++ (wX g A u.1 ++ wM g h a u2)))) (fun _ => pm_l3) rfl rfl hl.1 rfl (Nat.le_of_ble_eq_true rfl) ⟨by show _ ≤ 603072; omega, by show _ ≤ 7219306; omega⟩ dL_law_801 (fun r2 u2 H locs hp hW => ?_)
  obtain ⟨rfl, rfl⟩ := hp
  refine lv_iload C.1 C.2.1 dL_law_804 (lv_at hl 1 rfl) ?_
  refine lv_icmp_eq (tgt := 811) C.1 C.2.1 dL_law_806 (by decide) (fun _ => ?_) (fun z9 => absurd (by rw [hk]) z9)
  refine lv_iload C.1 C.2.1 dL_law_811 (lv_at hl 1 rfl) ?_
  refine lv_if_ne (tgt := 828) C.1 C.2.1 dL_law_813 (by decide) (fun _ => ?_) (fun z0 => ?_)
  · refine lv_goto (tgt := 1943) C.1 C.2.1 dL_law_828 (by decide) ?_
    refine W.widen (k := cells + 11) (n := slots + 6174) (by omega) (by omega) ?_
    exact kk u.1 _ a u.2 fd _ _ ls hu hR2 hlen2 (lv_sub hl [2, 3, 4, 5, 6, 7] rfl) hW
  have z0 : k = 0 := nI_k0 hk4 z0
  have hA := hA z0
  refine lv_aload_n C.1 C.2.1 dL_law_816 rfl (lv_at hl 6 rfl) ?_
  refine lv_iconst (v := nI 0) C.1 C.2.1 dL_law_817 (by decide) ?_
  refine q_lald (f := u.2) C hW 0 rfl (k := 0) (by decide) (by decide) dL_law_818 ?_
  refine lv_iload C.1 C.2.1 dL_law_819 (lv_at hl 0 rfl) ?_
  refine lv_i2l (v := (nI (mEmpty M (xs (i + 1))).1).toInt64) C.1 C.2.1 dL_law_821 rfl ?_
  refine W.lcmp C.1 C.2.1 dL_law_822 ?_
  refine lv_if_eq (tgt := 828) C.1 C.2.1 dL_law_823 (by decide) (fun _ => ?_) (fun z9 => absurd (by rw [hA]; exact lcmp_self _) z9)
  refine lv_goto (tgt := 1943) C.1 C.2.1 dL_law_828 (by decide) ?_
  refine W.widen (k := cells + 11) (n := slots + 6174) (by omega) (by omega) ?_
  exact kk u.1 _ a u.2 fd _ _ ls hu hR2 hlen2 (lv_sub hl [2, 3, 4, 5, 6, 7] rfl) hW

set_option maxHeartbeats 4000000 in
set_option maxRecDepth 100000 in
theorem lw_setAhead (C : CallFix p m c cL_law 9 s #[Value.ref b] (w0 :: GW) RL) (hst : l.stackTraces = false) (hE : qE D g ev (fun q => s.heap.size ≤ q) s s.heap) (hN : qNC s) (hX0 : va_X b L xs s s.heap) (hbl : b < s.heap.size) (hL : L ≤ 2048) (hi : i + 4 ≤ L) (hX : XOK ev.1 X) (hR : Rel (pX X) M) (hlen : (sE (pX X)).length < 512) (hf : cells + 11 ≤ 603072 ∧ slots + 6174 ≤ 7219306)
    (hl : lv_has ls 9 (lwl b A h o od i)) (hW : qW D g (fun q => s.heap.size ≤ q) s.heap s (lwW g A h o od X M a f fd) H locs)
    (kk : LK p l e s m b below meth c D g ev A h o od i X cells slots Q) : W p l e room_1 s m #[Value.ref b] below meth c H locs cells slots Q (F0 m 831 ls []) := by
  have hl : lv_has ls 9 [(5, .int (nI i)), (0, .ref b), (1, .ref (A 0 0)), (2, .ref h), (3, .ref o), (4, .ref od)] := hl
  have hW : qW D g (fun q => s.heap.size ≤ q) s.heap s (oL g o f ++ (oD g od fd ++ (wX g A X ++ wM g h a M))) H locs := hW
  have hM := hR.1
  have hac : mAc M < 512 := Nat.lt_of_le_of_lt hR.ac512 hlen
  have hfull : (xE X).length < 512 := by rw [← evs_len]; exact hlen
  have hL3 := hR.l3
  refine lv_aload_n C.1 C.2.1 dL_law_831 rfl (lv_at hl 2 rfl) ?_
  refine lv_aload_n C.1 C.2.1 dL_law_832 rfl (lv_at hl 1 rfl) ?_
  refine lv_iload C.1 C.2.1 dL_law_833 (lv_at hl 0 rfl) ?_
  refine lv_iconst (v := nI 1) C.1 C.2.1 dL_law_835 (by decide) ?_
  refine q_iadd C dL_law_836 ?_
  refine q_sld C hX0 hbl hW (k := i + 1) (by omega) (by omega) dL_law_837 ?_
  refine lv_aload_n C.1 C.2.1 dL_law_838 rfl (lv_at hl 1 rfl) ?_
  refine lv_iload C.1 C.2.1 dL_law_839 (lv_at hl 0 rfl) ?_
  refine lv_iconst (v := nI 2) C.1 C.2.1 dL_law_841 (by decide) ?_
  refine q_iadd C dL_law_842 ?_
  refine q_sld C hX0 hbl hW (k := i + 2) (by omega) (by omega) dL_law_843 ?_
  refine q_b01 (b := decide (¬ xs (i + 2) = 0)) (p2 := 851) C dL_law_844 dL_law_847 dL_law_848 dL_law_851 (by decide) (by decide) (fun z => decide_eq_false (fun q => q z)) (fun z => decide_eq_true z) ?_
  refine lv_aload_n C.1 C.2.1 dL_law_852 rfl (lv_at hl 4 rfl) ?_
  refine qh_callS (rest := []) C hE hN (c_L_setAhead l hst D g ev A X hX (xs (i + 1)) (decide (¬ xs (i + 2) = 0)) hfull o f _) (gw_S ml_L_159 sm_L_setAhead ini_L cw_L_setAhead rfl) rfl rfl rfl hd_L_setAhead ⟨(Nat.le_of_ble_eq_true rfl), (Nat.le_of_ble_eq_true rfl)⟩ hW pm_hL (fun (u : XS × (Nat → Int64)) => (oL g o u.2 ++ (oD g od fd ++ (wX g A u.1 ++ wM g h a M)))) (fun _ => pm_hL) hl.1 rfl (Nat.le_of_ble_eq_true rfl) ⟨by show cells + 3 ≤ 603072; omega, by show slots + 1036 ≤ 7219306; omega⟩ dL_law_853 (fun r u H locs hp hW => ?_)
  obtain ⟨hu, k, rr, hk4, rfl, hF, hans⟩ := hp
  obtain ⟨s1, s2, s3⟩ := sim_ahead hR hlen (xs (i + 1)) (decide (¬ xs (i + 2) = 0))
  rw [hF] at s1 s2 s3
  have hk : mTh (mAhead M (xs (i + 1)) (decide (¬ xs (i + 2) = 0))).2 = k := s1
  have hR2 : Rel (pX u.1) (mAhead M (xs (i + 1)) (decide (¬ xs (i + 2) = 0))).2 := s3
  have hlen2 : (sE (pX u.1)).length ≤ (sE (pX X)).length + 1 := by have h9 := len_ahead (pX X) (xs (i + 1)) (decide (¬ xs (i + 2) = 0)); rw [hF] at h9; exact h9
  have hA : k = 0 → u.2 0 = (if (mAhead M (xs (i + 1)) (decide (¬ xs (i + 2) = 0))).1 = true then 1 else 0) := fun z => by rw [hans z, s2 z]
  refine lv_istore (lv' := [(6, .int (nI k)), (5, .int (nI i)), (0, .ref b), (1, .ref (A 0 0)), (2, .ref h), (3, .ref o), (4, .ref od)]) C.1 C.2.1 dL_law_856 hl (by decide) rfl (fun ls hl => ?_)
  refine lv_aload_n C.1 C.2.1 dL_law_858 rfl (lv_at hl 4 rfl) ?_
  refine lv_aload_n C.1 C.2.1 dL_law_859 rfl (lv_at hl 2 rfl) ?_
  refine lv_iload C.1 C.2.1 dL_law_860 (lv_at hl 1 rfl) ?_
  refine lv_iconst (v := nI 1) C.1 C.2.1 dL_law_862 (by decide) ?_
  refine q_iadd C dL_law_863 ?_
  refine q_sld C hX0 hbl hW (k := i + 1) (by omega) (by omega) dL_law_864 ?_
  refine lv_aload_n C.1 C.2.1 dL_law_865 rfl (lv_at hl 2 rfl) ?_
  refine lv_iload C.1 C.2.1 dL_law_866 (lv_at hl 1 rfl) ?_
  refine lv_iconst (v := nI 2) C.1 C.2.1 dL_law_868 (by decide) ?_
  refine q_iadd C dL_law_869 ?_
  refine q_sld C hX0 hbl hW (k := i + 2) (by omega) (by omega) dL_law_870 ?_
  refine q_b01 (b := decide (¬ xs (i + 2) = 0)) (p2 := 878) C dL_law_871 dL_law_874 dL_law_875 dL_law_878 (by decide) (by decide) (fun z => decide_eq_false (fun q => q z)) (fun z => decide_eq_true z) ?_
  refine q_callVi (rest := []) C (c_X4_setAhead l D g h a M (xs (i + 1)) (decide (¬ xs (i + 2) = 0)) hM _) (gw_V ml_L_162 im_X4_setAhead se_X4_X4_setAhead ini_X4 cd_X4_setAhead rfl) rfl rfl rfl hd_X4_setAhead ⟨(Nat.le_of_ble_eq_true rfl), (Nat.le_of_ble_eq_true rfl)⟩ hW pm_l3 (fun (u2 : MdS) => (oL g o u.2 ++ (oD g od fd ++ (wX g A u.1 ++ wM g h a u2)))) (fun _ => pm_l3) rfl rfl hl.1 rfl (Nat.le_of_ble_eq_true rfl) ⟨by show _ + 0 ≤ 603072; omega, by show _ + 0 ≤ 7219306; omega⟩ dL_law_879 (fun r2 u2 H locs hp hW => ?_)
  obtain ⟨rfl, rfl⟩ := hp
  have hW : qW D g (fun q => s.heap.size ≤ q) s.heap s (oL g o u.2 ++ (oD g od fd ++ (wX g A u.1 ++ wM g h a (mAhead M (xs (i + 1)) (decide (¬ xs (i + 2) = 0))).2))) H _ := hW
  refine lv_istore (lv' := [(7, .int (bI (mAhead M (xs (i + 1)) (decide (¬ xs (i + 2) = 0))).1)), (6, .int (nI k)), (5, .int (nI i)), (0, .ref b), (1, .ref (A 0 0)), (2, .ref h), (3, .ref o), (4, .ref od)]) C.1 C.2.1 dL_law_882 hl (by decide) rfl (fun ls hl => ?_)
  refine lv_aload_n C.1 C.2.1 dL_law_884 rfl (lv_at hl 5 rfl) ?_
  refine q_callVi (rest := []) C (c_X4_thrown l D g h a ((mAhead M (xs (i + 1)) (decide (¬ xs (i + 2) = 0))).2) (hR2.1) _) (gw_V ml_L_127 im_X4_thrown se_X4_X4_thrown ini_X4 cd_X4_thrown rfl) rfl rfl rfl hd_X4_thrown ⟨(Nat.le_of_ble_eq_true rfl), (Nat.le_of_ble_eq_true rfl)⟩ hW pm_l3 (fun u2 => (oL g o u.2 ++ (oD g od fd ++ (wX g A u.1 ++ wM g h a u2)))) (fun _ => pm_l3) rfl rfl hl.1 rfl (Nat.le_of_ble_eq_true rfl) ⟨by show _ ≤ 603072; omega, by show _ ≤ 7219306; omega⟩ dL_law_885 (fun r2 u2 H locs hp hW => ?_)
  obtain ⟨rfl, rfl⟩ := hp
  refine lv_iload C.1 C.2.1 dL_law_888 (lv_at hl 1 rfl) ?_
  refine lv_icmp_eq (tgt := 895) C.1 C.2.1 dL_law_890 (by decide) (fun _ => ?_) (fun z9 => absurd (by rw [hk]) z9)
  refine lv_iload C.1 C.2.1 dL_law_895 (lv_at hl 1 rfl) ?_
  refine lv_if_ne (tgt := 919) C.1 C.2.1 dL_law_897 (by decide) (fun _ => ?_) (fun z0 => ?_)
  · refine lv_goto (tgt := 1943) C.1 C.2.1 dL_law_919 (by decide) ?_
    refine W.widen (k := cells + 11) (n := slots + 6174) (by omega) (by omega) ?_
    exact kk u.1 _ a u.2 fd _ _ ls hu hR2 hlen2 (lv_sub hl [2, 3, 4, 5, 6, 7] rfl) hW
  have z0 : k = 0 := nI_k0 hk4 z0
  have hA := hA z0
  refine lv_aload_n C.1 C.2.1 dL_law_900 rfl (lv_at hl 6 rfl) ?_
  refine lv_iconst (v := nI 0) C.1 C.2.1 dL_law_901 (by decide) ?_
  refine q_lald (f := u.2) C hW 0 rfl (k := 0) (by decide) (by decide) dL_law_902 ?_
  refine lv_iload C.1 C.2.1 dL_law_903 (lv_at hl 0 rfl) ?_
  refine q_l01 (b := (mAhead M (xs (i + 1)) (decide (¬ xs (i + 2) = 0))).1) (p2 := 912) C dL_law_905 dL_law_908 dL_law_909 dL_law_912 (by decide) (by decide) ?_
  refine W.lcmp C.1 C.2.1 dL_law_913 ?_
  refine lv_if_eq (tgt := 919) C.1 C.2.1 dL_law_914 (by decide) (fun _ => ?_) (fun z9 => absurd (by rw [hA]; exact lcmp_self _) z9)
  refine lv_goto (tgt := 1943) C.1 C.2.1 dL_law_919 (by decide) ?_
  refine W.widen (k := cells + 11) (n := slots + 6174) (by omega) (by omega) ?_
  exact kk u.1 _ a u.2 fd _ _ ls hu hR2 hlen2 (lv_sub hl [2, 3, 4, 5, 6, 7] rfl) hW

set_option maxHeartbeats 4000000 in
set_option maxRecDepth 100000 in
theorem lw_accesses (C : CallFix p m c cL_law 9 s #[Value.ref b] (w0 :: GW) RL) (hst : l.stackTraces = false) (hE : qE D g ev (fun q => s.heap.size ≤ q) s s.heap) (hN : qNC s) (hX0 : va_X b L xs s s.heap) (hbl : b < s.heap.size) (hL : L ≤ 2048) (hi : i + 4 ≤ L) (hX : XOK ev.1 X) (hR : Rel (pX X) M) (hlen : (sE (pX X)).length < 512) (hf : cells + 11 ≤ 603072 ∧ slots + 6174 ≤ 7219306)
    (hl : lv_has ls 9 (lwl b A h o od i)) (hW : qW D g (fun q => s.heap.size ≤ q) s.heap s (lwW g A h o od X M a f fd) H locs)
    (kk : LK p l e s m b below meth c D g ev A h o od i X cells slots Q) : W p l e room_1 s m #[Value.ref b] below meth c H locs cells slots Q (F0 m 922 ls []) := by
  have hl : lv_has ls 9 [(5, .int (nI i)), (0, .ref b), (1, .ref (A 0 0)), (2, .ref h), (3, .ref o), (4, .ref od)] := hl
  have hW : qW D g (fun q => s.heap.size ≤ q) s.heap s (oL g o f ++ (oD g od fd ++ (wX g A X ++ wM g h a M))) H locs := hW
  have hM := hR.1
  have hac : mAc M < 512 := Nat.lt_of_le_of_lt hR.ac512 hlen
  have hfull : (xE X).length < 512 := by rw [← evs_len]; exact hlen
  have hL3 := hR.l3
  refine lv_aload_n C.1 C.2.1 dL_law_922 rfl (lv_at hl 2 rfl) ?_
  refine qe_callVi (rest := []) C hE (c_X3_accesses l hst D g ev A X hX _) (gw_V ml_L_163 im_X3_accesses se_X3_X3_accesses ini_X3 cd_X3_accesses rfl) rfl rfl rfl hd_X3_accesses ⟨(Nat.le_of_ble_eq_true rfl), (Nat.le_of_ble_eq_true rfl)⟩ hW pm_x3 (fun (_ : Unit) => (oL g o f ++ (oD g od fd ++ (wX g A X ++ wM g h a M)))) (fun _ => pm_x3) rfl rfl hl.1 rfl (Nat.le_of_ble_eq_true rfl) ⟨by show cells + 0 ≤ 603072; omega, by show slots + 0 ≤ 7219306; omega⟩ dL_law_923 (fun r u H locs hp hW => ?_)
  subst hp
  refine lv_aload_n C.1 C.2.1 dL_law_926 rfl (lv_at hl 3 rfl) ?_
  refine q_callVi (rest := [.int (nI (sA (pX X)).length)]) C (c_X4_accesses l D g h a M hM _) (gw_V ml_L_166 im_X4_accesses se_X4_X4_accesses ini_X4 cd_X4_accesses rfl) rfl rfl rfl hd_X4_accesses ⟨(Nat.le_of_ble_eq_true rfl), (Nat.le_of_ble_eq_true rfl)⟩ hW pm_l3 (fun (u2 : MdS) => (oL g o f ++ (oD g od fd ++ (wX g A X ++ wM g h a u2)))) (fun _ => pm_l3) rfl rfl hl.1 rfl (Nat.le_of_ble_eq_true rfl) ⟨by show _ + 0 ≤ 603072; omega, by show _ + 0 ≤ 7219306; omega⟩ dL_law_927 (fun r2 u2 H locs hp hW => ?_)
  obtain ⟨rfl, rfl⟩ := hp
  have hW : qW D g (fun q => s.heap.size ≤ q) s.heap s (oL g o f ++ (oD g od fd ++ (wX g A X ++ wM g h a (sTh M 0)))) H _ := hW
  refine lv_icmp_eq (tgt := 1943) C.1 C.2.1 dL_law_930 (by decide) (fun _ => ?_) (fun z9 => absurd (show nI (sA (pX X)).length = nI (mAc M) by rw [hR.ac]) z9)
  have hR2 : Rel (pX X) (sTh M 0) := hR.th 0
  have hu := hX
  have hlen2 : (sE (pX X)).length ≤ (sE (pX X)).length + 1 := Nat.le_succ _
  refine W.widen (k := cells + 11) (n := slots + 6174) (by omega) (by omega) ?_
  exact kk X _ a f fd _ _ ls hX hR2 hlen2 (lv_sub hl [0, 1, 2, 3, 4, 5] rfl) hW
end LAW1
