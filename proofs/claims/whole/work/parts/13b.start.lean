/-! The law: what the premise gives, the loop, the start. -/
theorem mem_nc : ∀ E ∈ xN6, ∀ T ∈ xN6, E ≠ T → (Cond.not (.castable E T) : Cond) ∈ flatC (Jvm.Cond.and given_1 narrow_1) := by decide +kernel
theorem mem_ex : ∀ q ∈ qSs, (Cond.exactly (.string RX3 q.1) "java/lang/String" : Cond) ∈ flatC (Jvm.Cond.and given_1 narrow_1) := by decide +kernel
theorem lw_E {b : Nat} {s : State} (hts : ∀ w ∈ lw_tbl, w.before #[Value.ref b] s = true) (hgv : (Jvm.Cond.and given_1 narrow_1).before #[Value.ref b] s = true) (D : va_G) (g : Nat → ClassId) : ∃ ev, qE D g ev (fun q => s.heap.size ≤ q) s s.heap ∧ qNC s := by
  have hs := flat_of_before _ hgv
  have hA : ∀ a : Nat, a < s.heap.size → ¬ (fun q : Nat => s.heap.size ≤ q) a := fun a ha h => absurd ha (Nat.not_lt.mpr h)
  obtain ⟨z, c, cell, k, e1, e2, e3, e4, e5, e6, -⟩ := Cond.exactly_spec (hs (Cond.exactly (.static RJx4a65c "DEFAULTCAPACITY_EMPTY_ELEMENTDATA" "[Ljava/lang/Object;") "[Ljava/lang/Object;") (by decide +kernel))
  obtain ⟨mi, hmi⟩ := va_Mi.of (hs (Cond.isRef (.mirror "[Ljava/lang/Object;")) (by decide +kernel))
  refine ⟨(z, mi, fun k => match (Term.string RX3 k).eval #[Value.ref b] s none [] s with
    | some (.ref a) => a
    | _ => 0), ⟨vx_Zqof (hts _ n_314) (hts (.initialized Bundle.tN) (by decide +kernel)) (hs (Cond.isRef (.static Bundle.tN "UNASSIGNED_STACK" Bundle.steD)) (by decide +kernel)) hA,
    vx_Zqof (hts _ n_316) (hts (.initialized Bundle.tN) (by decide +kernel)) (hs (Cond.isRef (.static Bundle.tN "SUPPRESSED_SENTINEL" Bundle.listD)) (by decide +kernel)) hA,
    va_Zof (hts _ n_117) (hts (.initialized RJx4a65c) (by decide +kernel)) e1 hA,
    ⟨em_of e1 e3 (hs (Cond.arrayOf (.static RJx4a65c "DEFAULTCAPACITY_EMPTY_ELEMENTDATA" "[Ljava/lang/Object;") (.object "java/lang/Object")) (by decide +kernel)) (hs (Cond.eq (.length (.static RJx4a65c "DEFAULTCAPACITY_EMPTY_ELEMENTDATA" "[Ljava/lang/Object;")) (.int 0)) (by decide +kernel)), hA _ (Array.getElem?_eq_some_iff.mp e3).1⟩,
    hmi, va_AO.of (hts _ n_677), fun w hw ht => tw_moved ht (Vm.Alike.refl s.vm) (hts w hw), lw_FS hts, fun q hq => ?_⟩, fun E hE T hT hn => va_Nc.of (hs _ (mem_nc E hE T hT hn))⟩
  obtain ⟨a, c2, cell2, k2, f1, -⟩ := Cond.exactly_spec (hs _ (mem_ex q hq))
  refine vk_R.of (A := #[Value.ref b]) (hts _ (mem_str q hq)) ?_
  dsimp only
  rw [f1]
theorem x3_def : ∀ j, j < 5 → defaultValue (tyX3 j) = vp_V [.null, .null, .null, .null, .null] j := by
  intro j hj
  match j, hj with
  | 0, _ => rfl
  | 1, _ => rfl
  | 2, _ => rfl
  | 3, _ => rfl
  | 4, _ => rfl
  | j + 5, hj => exact absurd hj (by omega)
theorem x4_def : ∀ j, j < 21 → defaultValue (tyX4 j) = vp_V [.null, .null, .null, .null, .null, .null, .null, .null, .null, .null, .null, .null, .null, .null, .null, .null, .null, .int (nI 0), .int (nI 0), .int (nI 0), .int (nI 0)] j := by
  intro j hj
  match j, hj with
  | 0, _ => rfl
  | 1, _ => rfl
  | 2, _ => rfl
  | 3, _ => rfl
  | 4, _ => rfl
  | 5, _ => rfl
  | 6, _ => rfl
  | 7, _ => rfl
  | 8, _ => rfl
  | 9, _ => rfl
  | 10, _ => rfl
  | 11, _ => rfl
  | 12, _ => rfl
  | 13, _ => rfl
  | 14, _ => rfl
  | 15, _ => rfl
  | 16, _ => rfl
  | 17, _ => rfl
  | 18, _ => rfl
  | 19, _ => rfl
  | 20, _ => rfl
  | j + 21, hj => exact absurd hj (by omega)
theorem pm_st {b0 b1 b2 b3 : va_W} : (b0 ++ (b1 ++ (b2 ++ b3))).Perm (((b2 ++ b3) ++ b0) ++ b1) := by
  rw [List.append_assoc]
  rw [show b0 ++ (b1 ++ (b2 ++ b3)) = (b0 ++ b1) ++ (b2 ++ b3) by simp only [List.append_assoc]]
  exact List.perm_append_comm
theorem lw_gt {n L : Nat} (h1 : L < 4 * n + 4) (h2 : L ≤ 2048) (h3 : n ≤ 513) : nI L - nI 4 < nI (4 * n) := by
  rw [Int32.lt_iff_toInt_lt, pk_sub_toInt (by omega) (by omega), nI_toInt (by omega)]
  omega
theorem lw_ngt {n L : Nat} (h2 : L ≤ 2048) (h3 : n ≤ 513) (z : ¬ nI L - nI 4 < nI (4 * n)) : 4 * n + 4 ≤ L := by
  rw [Int32.lt_iff_toInt_lt, pk_sub_toInt (by omega) (by omega), nI_toInt (by omega)] at z
  omega
section LWM
variable {p : Program} {l : Launch} {e : Env} {s : State} {m : MethodId} {below : List Frame} {meth : Method} {c : Code} {D : va_G} {g : Nat → ClassId} {ev : Nat × Nat × (Nat → Nat)} {A : Nat → Nat → Nat} {h o od b L : Nat} {xs : Nat → Int32} {Q : State → Prop} {w0 : Cond}
set_option maxHeartbeats 4000000 in
set_option maxRecDepth 100000 in
theorem lw_loop (C : CallFix p m c cL_law 9 s #[Value.ref b] (w0 :: GW) RL) (hst : l.stackTraces = false) (hE : qE D g ev (fun q => s.heap.size ≤ q) s s.heap) (hN : qNC s) (hX0 : va_X b L xs s s.heap) (hbl : b < s.heap.size) (hL : L ≤ 2048)
    (kend : ∀ (H : Heap) (locs : List Loc) (ls : Array Slot), (∀ q ∈ locs, s.heap.size ≤ q.base) → W p l e room_1 s m #[Value.ref b] below meth c H locs 603072 7219306 Q (F0 m 1949 ls [])) :
    ∀ (k n : Nat) (X : XS) (M : MdS) (a : Nat → Nat) (f : Nat → Int64) (fd : Nat → UInt64) (H : Heap) (locs : List Loc) (cells slots : Nat) (ls : Array Slot), n + k = 513 → (sE (pX X)).length ≤ n → cells ≤ 60 + 11 * n → slots ≤ 4000 + 6174 * n → XOK ev.1 X → Rel (pX X) M → lv_has ls 9 (lwl b A h o od (4 * n)) → qW D g (fun q => s.heap.size ≤ q) s.heap s (lwW g A h o od X M a f fd) H locs →
      W p l e room_1 s m #[Value.ref b] below meth c H locs cells slots Q (F0 m 28 ls []) := by
  intro k
  induction k with
  | zero =>
    intro n X M a f fd H locs cells slots ls hn hlen hc hs hX hR hl hW
    have hl : lv_has ls 9 [(5, .int (nI (4 * n))), (0, .ref b), (1, .ref (A 0 0)), (2, .ref h), (3, .ref o), (4, .ref od)] := hl
    refine lv_iload C.1 C.2.1 dL_law_28 (lv_at hl 0 rfl) ?_
    refine lv_aload_n C.1 C.2.1 dL_law_30 rfl (lv_at hl 1 rfl) ?_
    refine va_slen C.1 C.2.1 hX0 hbl (Nat.not_le.mpr hbl) hW.2.2.2.1 dL_law_31 ?_
    refine lv_iconst (v := nI 4) C.1 C.2.1 dL_law_32 (by decide) ?_
    refine lv_isub C.1 C.2.1 dL_law_33 ?_
    refine lv_icmp_gt (tgt := 1949) C.1 C.2.1 dL_law_34 (by decide) (fun _ => ?_) (fun z => absurd (lw_gt (by omega) (by omega) (by omega)) z)
    refine W.widen (k := 603072) (n := 7219306) (by omega) (by omega) ?_
    exact kend H locs ls hW.2.2.2.1.2.2
  | succ k ih =>
    intro n X M a f fd H locs cells slots ls hn hlen hc hs hX hR hl hW
    have hl : lv_has ls 9 [(5, .int (nI (4 * n))), (0, .ref b), (1, .ref (A 0 0)), (2, .ref h), (3, .ref o), (4, .ref od)] := hl
    refine lv_iload C.1 C.2.1 dL_law_28 (lv_at hl 0 rfl) ?_
    refine lv_aload_n C.1 C.2.1 dL_law_30 rfl (lv_at hl 1 rfl) ?_
    refine va_slen C.1 C.2.1 hX0 hbl (Nat.not_le.mpr hbl) hW.2.2.2.1 dL_law_31 ?_
    refine lv_iconst (v := nI 4) C.1 C.2.1 dL_law_32 (by decide) ?_
    refine lv_isub C.1 C.2.1 dL_law_33 ?_
    refine lv_icmp_gt (tgt := 1949) C.1 C.2.1 dL_law_34 (by decide) (fun _ => ?_) (fun z => ?_)
    · refine W.widen (k := 603072) (n := 7219306) (by omega) (by omega) ?_
      exact kend H locs ls hW.2.2.2.1.2.2
    have hi : 4 * n + 4 ≤ L := lw_ngt (by omega) (by omega) z
    have hf : cells + 11 ≤ 603072 ∧ slots + 6174 ≤ 7219306 := ⟨by omega, by omega⟩
    have hlen9 : (sE (pX X)).length < 512 := by omega
    have kk : LK p l e s m b below meth c D g ev A h o od (4 * n) X cells slots Q := by
      intro X' M' a' f' fd' H1 locs1 ls1 q1 q2 q3 q4 q5
      have q4 : lv_has ls1 9 [(5, .int (nI (4 * n))), (0, .ref b), (1, .ref (A 0 0)), (2, .ref h), (3, .ref o), (4, .ref od)] := q4
      refine q_iinc (d := 4) (lv' := [(5, .int (nI (4 * n + 4))), (0, .ref b), (1, .ref (A 0 0)), (2, .ref h), (3, .ref o), (4, .ref od)]) C dL_law_1943 (by decide) q4 (k := 0) rfl (by decide) rfl (fun ls2 q4 => ?_)
      refine lv_goto (tgt := 28) C.1 C.2.1 dL_law_1946 (by decide) ?_
      exact ih (n + 1) X' M' a' f' fd' H1 locs1 _ _ ls2 (by omega) (by omega) (by omega) (by omega) q1 q2 q4 q5
    refine lv_aload_n C.1 C.2.1 dL_law_37 rfl (lv_at hl 1 rfl) ?_
    refine lv_iload C.1 C.2.1 dL_law_38 (lv_at hl 0 rfl) ?_
    refine q_sld C hX0 hbl hW (k := 4 * n) (by omega) (by omega) dL_law_40 ?_
    refine lv_bipush (v := nI 31) C.1 C.2.1 dL_law_41 (by decide) ?_
    refine lv_iand C.1 C.2.1 dL_law_43 ?_
    obtain ⟨j, hj, ej⟩ := pk_andE (xs (4 * n)) (m := nI 31) 5 (by decide)
    refine q_to ej ?_
    by_cases h30 : j < 30
    · match j, h30 with
      | 0, _ =>
        refine lv_tableIn (off := 136) (tgt := 180) C.1 C.2.1 dL_law_44 (by decide) (by decide) (by decide) (by decide) ?_
        exact lw_addName C hst hE hN hX0 hbl hL hi hX hR hlen9 hf hl hW kk
      | 1, _ =>
        refine lv_tableIn (off := 192) (tgt := 236) C.1 C.2.1 dL_law_44 (by decide) (by decide) (by decide) (by decide) ?_
        exact lw_place C hst hE hN hX0 hbl hL hi hX hR hlen9 hf hl hW kk
      | 2, _ =>
        refine lv_tableIn (off := 260) (tgt := 304) C.1 C.2.1 dL_law_44 (by decide) (by decide) (by decide) (by decide) ?_
        exact lw_link C hst hE hN hX0 hbl hL hi hX hR hlen9 hf hl hW kk
      | 3, _ =>
        refine lv_tableIn (off := 316) (tgt := 360) C.1 C.2.1 dL_law_44 (by decide) (by decide) (by decide) (by decide) ?_
        exact lw_take C hst hE hN hX0 hbl hL hi hX hR hlen9 hf hl hW kk
      | 4, _ =>
        refine lv_tableIn (off := 372) (tgt := 416) C.1 C.2.1 dL_law_44 (by decide) (by decide) (by decide) (by decide) ?_
        exact lw_addressOf C hst hE hN hX0 hbl hL hi hX hR hlen9 hf hl hW kk
      | 5, _ =>
        refine lv_tableIn (off := 440) (tgt := 484) C.1 C.2.1 dL_law_44 (by decide) (by decide) (by decide) (by decide) ?_
        exact lw_nameAt C hst hE hN hX0 hbl hL hi hX hR hlen9 hf hl hW kk
      | 6, _ =>
        refine lv_tableIn (off := 496) (tgt := 540) C.1 C.2.1 dL_law_44 (by decide) (by decide) (by decide) (by decide) ?_
        exact lw_meet C hst hE hN hX0 hbl hL hi hX hR hlen9 hf hl hW kk
      | 7, _ =>
        refine lv_tableIn (off := 571) (tgt := 615) C.1 C.2.1 dL_law_44 (by decide) (by decide) (by decide) (by decide) ?_
        exact lw_read C hst hE hN hX0 hbl hL hi hX hR hlen9 hf hl hW kk
      | 8, _ =>
        refine lv_tableIn (off := 651) (tgt := 695) C.1 C.2.1 dL_law_44 (by decide) (by decide) (by decide) (by decide) ?_
        exact lw_write C hst hE hN hX0 hbl hL hi hX hR hlen9 hf hl hW kk
      | 9, _ =>
        refine lv_tableIn (off := 731) (tgt := 775) C.1 C.2.1 dL_law_44 (by decide) (by decide) (by decide) (by decide) ?_
        exact lw_empty C hst hE hN hX0 hbl hL hi hX hR hlen9 hf hl hW kk
      | 10, _ =>
        refine lv_tableIn (off := 787) (tgt := 831) C.1 C.2.1 dL_law_44 (by decide) (by decide) (by decide) (by decide) ?_
        exact lw_setAhead C hst hE hN hX0 hbl hL hi hX hR hlen9 hf hl hW kk
      | 11, _ =>
        refine lv_tableIn (off := 878) (tgt := 922) C.1 C.2.1 dL_law_44 (by decide) (by decide) (by decide) (by decide) ?_
        exact lw_accesses C hst hE hN hX0 hbl hL hi hX hR hlen9 hf hl hW kk
      | 12, _ =>
        refine lv_tableIn (off := 891) (tgt := 935) C.1 C.2.1 dL_law_44 (by decide) (by decide) (by decide) (by decide) ?_
        exact lw_costOf C hst hE hN hX0 hbl hL hi hX hR hlen9 hf hl hW kk
      | 13, _ =>
        refine lv_tableIn (off := 947) (tgt := 991) C.1 C.2.1 dL_law_44 (by decide) (by decide) (by decide) (by decide) ?_
        exact lw_costByReplay C hst hE hN hX0 hbl hL hi hX hR hlen9 hf hl hW kk
      | 14, _ =>
        refine lv_tableIn (off := 1003) (tgt := 1047) C.1 C.2.1 dL_law_44 (by decide) (by decide) (by decide) (by decide) ?_
        exact lw_causeOf C hst hE hN hX0 hbl hL hi hX hR hlen9 hf hl hW kk
      | 15, _ =>
        refine lv_tableIn (off := 1059) (tgt := 1103) C.1 C.2.1 dL_law_44 (by decide) (by decide) (by decide) (by decide) ?_
        exact lw_state C hst hE hN hX0 hbl hL hi hX hR hlen9 hf hl hW kk
      | 16, _ =>
        refine lv_tableIn (off := 1127) (tgt := 1171) C.1 C.2.1 dL_law_44 (by decide) (by decide) (by decide) (by decide) ?_
        exact lw_owner C hst hE hN hX0 hbl hL hi hX hR hlen9 hf hl hW kk
      | 17, _ =>
        refine lv_tableIn (off := 1183) (tgt := 1227) C.1 C.2.1 dL_law_44 (by decide) (by decide) (by decide) (by decide) ?_
        exact lw_holders C hst hE hN hX0 hbl hL hi hX hR hlen9 hf hl hW kk
      | 18, _ =>
        refine lv_tableIn (off := 1239) (tgt := 1283) C.1 C.2.1 dL_law_44 (by decide) (by decide) (by decide) (by decide) ?_
        exact lw_lines C hst hE hN hX0 hbl hL hi hX hR hlen9 hf hl hW kk
      | 19, _ =>
        refine lv_tableIn (off := 1295) (tgt := 1339) C.1 C.2.1 dL_law_44 (by decide) (by decide) (by decide) (by decide) ?_
        exact lw_oldest C hst hE hN hX0 hbl hL hi hX hR hlen9 hf hl hW kk
      | 20, _ =>
        refine lv_tableIn (off := 1363) (tgt := 1407) C.1 C.2.1 dL_law_44 (by decide) (by decide) (by decide) (by decide) ?_
        exact lw_count C hst hE hN hX0 hbl hL hi hX hR hlen9 hf hl hW kk
      | 21, _ =>
        refine lv_tableIn (off := 1433) (tgt := 1477) C.1 C.2.1 dL_law_44 (by decide) (by decide) (by decide) (by decide) ?_
        exact lw_bill C hst hE hN hX0 hbl hL hi hX hR hlen9 hf hl hW kk
      | 22, _ =>
        refine lv_tableIn (off := 1488) (tgt := 1532) C.1 C.2.1 dL_law_44 (by decide) (by decide) (by decide) (by decide) ?_
        exact lw_worst C hst hE hN hX0 hbl hL hi hX hR hlen9 hf hl hW kk
      | 23, _ =>
        refine lv_tableIn (off := 1532) (tgt := 1576) C.1 C.2.1 dL_law_44 (by decide) (by decide) (by decide) (by decide) ?_
        exact lw_cycles C hst hE hN hX0 hbl hL hi hX hR hlen9 hf hl hW kk
      | 24, _ =>
        refine lv_tableIn (off := 1587) (tgt := 1631) C.1 C.2.1 dL_law_44 (by decide) (by decide) (by decide) (by decide) ?_
        exact lw_fetched C hst hE hN hX0 hbl hL hi hX hR hlen9 hf hl hW kk
      | 25, _ =>
        refine lv_tableIn (off := 1643) (tgt := 1687) C.1 C.2.1 dL_law_44 (by decide) (by decide) (by decide) (by decide) ?_
        exact lw_useful C hst hE hN hX0 hbl hL hi hX hR hlen9 hf hl hW kk
      | 26, _ =>
        refine lv_tableIn (off := 1699) (tgt := 1743) C.1 C.2.1 dL_law_44 (by decide) (by decide) (by decide) (by decide) ?_
        exact lw_wrong C hst hE hN hX0 hbl hL hi hX hR hlen9 hf hl hW kk
      | 27, _ =>
        refine lv_tableIn (off := 1755) (tgt := 1799) C.1 C.2.1 dL_law_44 (by decide) (by decide) (by decide) (by decide) ?_
        exact lw_missShare C hst hE hN hX0 hbl hL hi hX hR hlen9 hf hl hW kk
      | 28, _ =>
        refine lv_tableIn (off := 1821) (tgt := 1865) C.1 C.2.1 dL_law_44 (by decide) (by decide) (by decide) (by decide) ?_
        exact lw_meanCost C hst hE hN hX0 hbl hL hi hX hR hlen9 hf hl hW kk
      | 29, _ =>
        refine lv_tableIn (off := 1886) (tgt := 1930) C.1 C.2.1 dL_law_44 (by decide) (by decide) (by decide) (by decide) ?_
        exact lw_isCoherent C hst hE hN hX0 hbl hL hi hX hR hlen9 hf hl hW kk
      | j + 30, h30 => exact absurd h30 (by omega)
    · refine lv_tableOut (tgt := 1943) C.1 C.2.1 dL_law_44 (Or.inr (by rw [nI_toInt (by omega)]; omega)) (by decide) ?_
      refine W.widen (k := cells + 11) (n := slots + 6174) (by omega) (by omega) ?_
      exact kk X M a f fd H locs ls hX hR (Nat.le_succ _) hl hW
set_option maxHeartbeats 4000000 in
set_option maxRecDepth 100000 in
theorem lw_main (C : CallFix p m c cL_law 9 s #[Value.ref b] (w0 :: GW) RL) (hst : l.stackTraces = false) (hK : va_K D vwCl (tyA g) s) (hE : qE D g ev (fun q => s.heap.size ≤ q) s s.heap) (hN : qNC s) (hX0 : va_X b L xs s s.heap) (hbl : b < s.heap.size) (hL : L ≤ 2048)
    (kend : ∀ (H : Heap) (locs : List Loc) (ls : Array Slot), (∀ q ∈ locs, s.heap.size ≤ q.base) → W p l e room_1 s m #[Value.ref b] below meth c H locs 603072 7219306 Q (F0 m 1949 ls [])) {ls : Array Slot} (hl : lv_has ls 9 [(0, .ref b)]) : W p l e room_1 s m #[Value.ref b] below meth c s.heap [] 0 0 Q (F0 m 0 ls []) := by
  have hW : qW D g (fun q => s.heap.size ≤ q) s.heap s [] s.heap [] := ⟨fun k q h => (nomatch h), hK, ⟨fun i j p q h => (nomatch h), fun k q h => (nomatch h)⟩, va_S.rf, fun _ h => h⟩
  refine q_new C hW (ci := 6) rfl gu_X3 tyX3_ok (C.2.2.2.2 _ cl_L_8) (C.2.2.2.2 _ inst_X3) (C.2.2.2.2 _ ini_X3) [.null, .null, .null, .null, .null] x3_def (Nat.le_of_ble_eq_true rfl) (Nat.le_of_ble_eq_true rfl) dL_law_0 (fun q0 H hW => ?_)
  have hW : qW D g (fun q => s.heap.size ≤ q) s.heap s [(q0, .inr (6, [.null, .null, .null, .null, .null]))] H _ := hW
  refine lv_dup C.1 C.2.1 dL_law_3 rfl ?_
  refine qe_callIv (rest := [.ref q0]) C hE (c_X3_init l D g ev q0 _) (gw_self cd_X3_init rfl) (C.2.2.2.2 _ ini_X3) (C.2.2.2.2 _ ml_L_117) (C.2.2.2.2 _ im_X3_init) rfl rfl rfl rfl hd_X3_init ⟨(Nat.le_of_ble_eq_true rfl), (Nat.le_of_ble_eq_true rfl)⟩ hW pm_all (fun (A : Nat → Nat → Nat) => wX g A (xInit ev.1)) (fun _ => pm_all) hl.1 rfl (Nat.le_of_ble_eq_true rfl) ⟨(Nat.le_of_ble_eq_true rfl), (Nat.le_of_ble_eq_true rfl)⟩ dL_law_4 (fun A H locs hA hW2 => ?_)
  subst hA
  have hW := hW2
  refine lv_astore_n (lv' := [(1, .ref (A 0 0)), (0, .ref b)]) C.1 C.2.1 dL_law_7 rfl hl (by decide) rfl (fun ls hl => ?_)
  refine q_new C hW (ci := 7) rfl gu_X4 tyX4_ok (C.2.2.2.2 _ cl_L_118) (C.2.2.2.2 _ inst_X4) (C.2.2.2.2 _ ini_X4) [.null, .null, .null, .null, .null, .null, .null, .null, .null, .null, .null, .null, .null, .null, .null, .null, .null, .int (nI 0), .int (nI 0), .int (nI 0), .int (nI 0)] x4_def (Nat.le_of_ble_eq_true rfl) (Nat.le_of_ble_eq_true rfl) dL_law_8 (fun h H hW => ?_)
  refine lv_dup C.1 C.2.1 dL_law_11 rfl ?_
  refine q_callIv (rest := [.ref h]) C (c_X4_init l D g h _) (gw_self cd_X4_init rfl) (C.2.2.2.2 _ ini_X4) (C.2.2.2.2 _ ml_L_120) (C.2.2.2.2 _ im_X4_init) rfl rfl rfl rfl hd_X4_init ⟨(Nat.le_of_ble_eq_true rfl), (Nat.le_of_ble_eq_true rfl)⟩ hW List.perm_append_comm (fun a => wX g A (xInit ev.1) ++ wM g h a mInit) (fun _ => List.perm_append_comm) hl.1 rfl (Nat.le_of_ble_eq_true rfl) ⟨(Nat.le_of_ble_eq_true rfl), (Nat.le_of_ble_eq_true rfl)⟩ dL_law_12 (fun a H locs _ hW => ?_)
  refine lv_astore_n (lv' := [(2, .ref h), (1, .ref (A 0 0)), (0, .ref b)]) C.1 C.2.1 dL_law_15 rfl hl (by decide) rfl (fun ls hl => ?_)
  refine lv_iconst (v := nI 1) C.1 C.2.1 dL_law_16 (by decide) ?_
  refine q_newa (atype := .long) C hW rfl 4 rfl (fun _ _ h9 => h9) (C.2.2.2.2 _ ac_1201) (1, .inr (.inl (fun _ => 0))) (fun _ => rfl) (by decide) (by decide) (Nat.le_of_ble_eq_true rfl) (Nat.le_of_ble_eq_true rfl) dL_law_17 (fun o H hW => ?_)
  refine lv_astore_n (lv' := [(3, .ref o), (2, .ref h), (1, .ref (A 0 0)), (0, .ref b)]) C.1 C.2.1 dL_law_19 rfl hl (by decide) rfl (fun ls hl => ?_)
  refine lv_iconst (v := nI 1) C.1 C.2.1 dL_law_20 (by decide) ?_
  refine q_newa (atype := .double) C hW rfl 5 rfl (fun _ _ h9 => h9) (C.2.2.2.2 _ ac_1202) (1, .inr (.inr (.inr (.inl (fun _ => 0))))) (fun _ => rfl) (by decide) (by decide) (Nat.le_of_ble_eq_true rfl) (Nat.le_of_ble_eq_true rfl) dL_law_21 (fun od H hW => ?_)
  refine lv_astore (lv' := [(4, .ref od), (3, .ref o), (2, .ref h), (1, .ref (A 0 0)), (0, .ref b)]) C.1 C.2.1 dL_law_23 hl (by decide) rfl (fun ls hl => ?_)
  refine lv_iconst (v := nI 0) C.1 C.2.1 dL_law_25 (by decide) ?_
  refine lv_istore (lv' := [(5, .int (nI 0)), (4, .ref od), (3, .ref o), (2, .ref h), (1, .ref (A 0 0)), (0, .ref b)]) C.1 C.2.1 dL_law_26 hl (by decide) rfl (fun ls hl => ?_)
  exact lw_loop C hst hE hN hX0 hbl hL kend 513 0 (xInit ev.1) mInit a (fun _ => 0) (fun _ => 0) H _ _ _ ls rfl (Nat.zero_le _) (by decide) (by decide) (xInit_ok ev.1) (rel_init ev.1) (lv_sub hl [0, 5, 4, 3, 2, 1] rfl) (hW.perm pm_st)
end LWM
