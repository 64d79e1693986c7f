/-! ArrayList's methods that the class calls: adding. -/
section ALR2
variable {p : Program} {l : Launch} {e : Env} {R : Room} {s : State} {m : MethodId} {args : Array Value} {below : List Frame} {meth : Method} {c : Code} {H : Heap} {locs : List Loc} {cells slots : Nat} {Q : State → Prop}
variable {cc : ByteArray} {nL : Nat} {Ts : List Cond} {own : String} {D : va_G} {g : Nat → ClassId} {ev : Nat × Nat × (Nat → Nat)} {A : Nat → Prop} {H0 : Heap} {w w0 : va_W} {pc : Nat} {ls : Array Slot} {rest st : List Value} {a : Nat}
/-- y is an event of P -/
def inP4 (P : va_W) (y : Nat) : Prop := ∃ (k : Nat) (fs : List Value), P[k]? = some (y, .inr (4, fs))
theorem qW.subl {w' : va_W} (h : qW D g A H0 s w H locs) (hs : w'.Sublist w) : qW D g A H0 s w' H locs := by
  obtain ⟨h1, h2⟩ := q_Dmem.mp h.2.2.1
  exact ⟨q_Pmem.mpr fun q hq => q_Pmem.mp h.1 q (hs.subset hq), h.2.1, q_Dmem.mpr ⟨(hs.map Prod.fst).nodup h1, fun q hq => h2 q (hs.subset hq)⟩, h.2.2.2⟩
theorem q_copyq (C : CallFix p m c cc nL s args Ts own) (hT : qTW s) (hls : ls.size = nL) {r n n' : Nat} {f : Nat → Option Nat} {P : va_W} (hW : qW D g A H0 s ((r, .inl (g 3, n', .inr (.inr (.inr (.inr (fun _ => none)))))) :: (a, .inl (g 3, n, .inr (.inr (.inr (.inr f))))) :: P) H locs) {index : Nat} (hlink : (Cond.methodLink own index arraycopyName).before args s = true) (hnat : (Cond.native arraycopyName).before args s = true) (hstat : (Cond.static arraycopyName).before args s = true) (hini : (Cond.initialized "java/lang/System").before args s = true)
    (hn : n ≤ n') (hn' : n' < 2 ^ 20) (hP : ∀ i y, i < n → f i = some y → inP4 P y) (hframes : 1 ≤ R.frames) (hlocals : (rest.map fun v => v.category).sum + 64 ≤ R.locals) (hdg : decode cc pc = .ok (.invokestatic index, 3))
    (kk : ∀ (H1 : Heap) (locs1 : List Loc), qW D g A H0 s ((r, .inl (g 3, n', .inr (.inr (.inr (.inr (va_cpy f (fun _ => none) 0 0 n)))))) :: (a, .inl (g 3, n, .inr (.inr (.inr (.inr f))))) :: P) H1 locs1 → W p l e R s m args below meth c H1 locs1 cells slots Q (F0 m (pc + 3) ls rest)) : W p l e R s m args below meth c H locs cells slots Q (F0 m pc ls (.int (nI n) :: .int (nI 0) :: .ref r :: .int (nI 0) :: .ref a :: rest)) := by
  have e0 : (nI 0).toNatClampNeg = 0 := rfl
  have en : (nI n).toNatClampNeg = n := nI_clamp (by omega)
  have hw9 : nativeFrameWords "java/lang/System" "arraycopy" 5 + 11 ≤ 64 := by decide
  refine va_copyq C.1 C.2.1 (C.2.2.1.trans hls.symm) C.2.2.2.1 hlink hnat hstat hini hW.2.1 hW.1 hW.2.2.1 hW.2.2.2.1 1 0 3 3 (C := RX1) rfl rfl rfl rfl (nI_pos (by decide)) (nI_pos (by decide)) (nI_pos (by omega)) (by rw [e0, en]; omega) (by rw [e0, en]; omega) (fun i hi y hy => ?_) (asg_ev hT) hframes (Nat.le_trans (Nat.add_le_add_left hw9 _) hlocals) hdg (fun H1 locs1 h1 h2 h3 => ?_)
  · rw [en] at hi
    rw [e0, Nat.zero_add] at hy
    obtain ⟨k, fs, hk⟩ := hP i y hi hy
    exact va_recv hW.2.1 hW.1 (q := (RX1, TX1, 6)) (ci := 4) rfl (show _ = _ from (by rw [List.getElem?_cons_succ, List.getElem?_cons_succ]; exact hk : ((r, .inl (g 3, n', .inr (.inr (.inr (.inr (fun _ => none)))))) :: (a, .inl (g 3, n, .inr (.inr (.inr (.inr f))))) :: P)[k + 2]? = some (y, .inr (4, fs))))
  · rw [e0, en] at h1 h2
    exact kk H1 locs1 ⟨h1, hW.2.1, h2, h3, hW.2.2.2.2⟩
end ALR2
theorem hd_copyOf3 : yJ7_copyOf_6403c.cls ≠ "java/lang/invoke/MethodHandle" ∧ yJ7_copyOf_6403c.cls ≠ "java/lang/invoke/VarHandle" ∧ (parseMethodDescriptor yJ7_copyOf_6403c.desc).map (fun d => d.parameters.length) = some 3 := by decide +kernel
set_option maxHeartbeats 4000000 in
set_option maxRecDepth 100000 in
theorem c_copyOf3 (l : Launch) (D : va_G) (g : Nat → ClassId) (ev : Nat × Nat × (Nat → Nat)) (q n n2 : Nat) (f : Nat → Option Nat) (P : va_W) (hn : n ≤ n2) (hn2 : n2 ≤ 1024) (hP : ∀ i y, i < n → f i = some y → inP4 P y) (sz : Nat) : qNr l yJ7_copyOf_6403c (.code yJ7_copyOf_6403c cJ7_copyOf_6403c 4 (some (.array (.object "java/lang/Object"))) :: GW) ({ frames := 1, cells := 1, slots := 1024, locals := 64 } : Room) D g ev [.ref q, .int (nI n2), .ref ev.2.1] ((q, .inl (g 3, n, .inr (.inr (.inr (.inr f))))) :: P) sz (fun (_ : Unit) => True) (fun _ r => (r, .inl (g 3, n2, .inr (.inr (.inr (.inr (va_cpy f (fun _ => none) 0 0 n)))))) :: (q, .inl (g 3, n, .inr (.inr (.inr (.inr f))))) :: P) 1 1024 := by
  refine qe_entry (cc := cJ7_copyOf_6403c) (nL := 4) (ret := (some (.array (.object "java/lang/Object")))) rfl (by decide) (Nat.le_of_ble_eq_true rfl) (fun pp ee ss mm bb mt kc ls C hRt hLk hin hsz hW hE hl => ?_)
  have hl : lv_has ls 4 [(0, .ref q), (1, .int (nI n2)), (2, .ref ev.2.1)] := hl
  refine lv_aload_n C.1 C.2.1 dJ7_copyOf_6403c_0 rfl (lv_at hl 2 rfl) ?_
  refine va_ldcM C.1 C.2.1 C.2.2.2.1 (C.2.2.2.2 _ cl_J7_110) hE.2.2.2.2.1 dJ7_copyOf_6403c_1 ?_
  refine lv_acmp_ne (rx := some ev.2.1) (ry := some ev.2.1) (tgt := 13) C.1 C.2.1 dJ7_copyOf_6403c_3 (by decide) (fun h9 => absurd rfl h9) (fun _ => ?_)
  refine lv_iload_n C.1 C.2.1 dJ7_copyOf_6403c_6 rfl (lv_at hl 1 rfl) ?_
  refine q_newq C hW (C.2.2.2.2 _ cl_J7_2) hE.2.2.2.2.2.1 (by omega) (Nat.le_of_ble_eq_true rfl) (by show 0 + n2 ≤ 1024; omega) dJ7_copyOf_6403c_7 (fun r H hW => ?_)
  have hW := hW.perm (List.perm_append_singleton _ _).symm
  refine lv_goto (tgt := 24) C.1 C.2.1 dJ7_copyOf_6403c_10 (by decide) ?_
  refine lv_astore_n (lv' := [(3, .ref r), (0, .ref q), (1, .int (nI n2)), (2, .ref ev.2.1)]) C.1 C.2.1 dJ7_copyOf_6403c_24 rfl hl (by decide) rfl (fun ls hl => ?_)
  refine lv_aload_n C.1 C.2.1 dJ7_copyOf_6403c_25 rfl (lv_at hl 1 rfl) ?_
  refine lv_iconst (v := nI 0) C.1 C.2.1 dJ7_copyOf_6403c_26 (by decide) ?_
  refine lv_aload_n C.1 C.2.1 dJ7_copyOf_6403c_27 rfl (lv_at hl 0 rfl) ?_
  refine lv_iconst (v := nI 0) C.1 C.2.1 dJ7_copyOf_6403c_28 (by decide) ?_
  refine lv_aload_n C.1 C.2.1 dJ7_copyOf_6403c_29 rfl (lv_at hl 1 rfl) ?_
  refine q_alen C hW 1 3 rfl rfl dJ7_copyOf_6403c_30 ?_
  refine lv_iload_n C.1 C.2.1 dJ7_copyOf_6403c_31 rfl (lv_at hl 2 rfl) ?_
  refine va_mmin (x := nI n) (y := nI n2) C.1 C.2.1 (by rw [C.2.2.1]; exact hl.1.symm) C.2.2.2.1 (C.2.2.2.2 _ ml_J7_304) (C.2.2.2.2 _ sm_J9_min_7cf53) (C.2.2.2.2 _ ini_J9) (C.2.2.2.2 _ cd_J9_min_7cf53) (Nat.le_of_ble_eq_true rfl) (Nat.le_of_ble_eq_true rfl) (Nat.le_of_ble_eq_true rfl) (by show 0 + n2 ≤ 1024; omega) dJ7_copyOf_6403c_32 ?_
  refine q_to (if_neg (nI_nlt hn (by omega))) ?_
  refine q_copyq C hE.2.2.2.2.2.2.1 hl.1 hW (C.2.2.2.2 _ ml_J7_150) (C.2.2.2.2 _ nt_J10_arraycopy_4416) (C.2.2.2.2 _ sm_J10_arraycopy_4416) (C.2.2.2.2 _ ini_J10) hn (by omega) hP (Nat.le_of_ble_eq_true rfl) (Nat.le_of_ble_eq_true rfl) dJ7_copyOf_6403c_35 (fun H locs hW => ?_)
  refine lv_aload_n C.1 C.2.1 dJ7_copyOf_6403c_38 rfl (lv_at hl 0 rfl) ?_
  exact q_rret C hRt (Or.inr ⟨_, rfl⟩) hLk hW () trivial rfl (Nat.le_of_ble_eq_true rfl) (by omega) dJ7_copyOf_6403c_39
theorem hd_copyOf2 : yJ7_copyOf_1904c.cls ≠ "java/lang/invoke/MethodHandle" ∧ yJ7_copyOf_1904c.cls ≠ "java/lang/invoke/VarHandle" ∧ (parseMethodDescriptor yJ7_copyOf_1904c.desc).map (fun d => d.parameters.length) = some 2 := by decide +kernel
set_option maxHeartbeats 4000000 in
set_option maxRecDepth 100000 in
theorem c_copyOf2 (l : Launch) (D : va_G) (g : Nat → ClassId) (ev : Nat × Nat × (Nat → Nat)) (q n n2 : Nat) (f : Nat → Option Nat) (P : va_W) (hn : n ≤ n2) (hn2 : n2 ≤ 1024) (hP : ∀ i y, i < n → f i = some y → inP4 P y) (sz : Nat) : qNr l yJ7_copyOf_1904c (.code yJ7_copyOf_1904c cJ7_copyOf_1904c 2 (some (.array (.object "java/lang/Object"))) :: GW) ({ frames := 2, cells := 1, slots := 1024, locals := 90 } : Room) D g ev [.ref q, .int (nI n2)] ((q, .inl (g 3, n, .inr (.inr (.inr (.inr f))))) :: P) sz (fun (_ : Unit) => True) (fun _ r => (r, .inl (g 3, n2, .inr (.inr (.inr (.inr (va_cpy f (fun _ => none) 0 0 n)))))) :: (q, .inl (g 3, n, .inr (.inr (.inr (.inr f))))) :: P) 1 1024 := by
  refine qe_entry (cc := cJ7_copyOf_1904c) (nL := 2) (ret := (some (.array (.object "java/lang/Object")))) rfl (by decide) (Nat.le_of_ble_eq_true rfl) (fun pp ee ss mm bb mt kc ls C hRt hLk hin hsz hW hE hl => ?_)
  have hl : lv_has ls 2 [(0, .ref q), (1, .int (nI n2))] := hl
  refine lv_aload_n C.1 C.2.1 dJ7_copyOf_1904c_0 rfl (lv_at hl 0 rfl) ?_
  refine lv_iload_n C.1 C.2.1 dJ7_copyOf_1904c_1 rfl (lv_at hl 1 rfl) ?_
  refine lv_aload_n C.1 C.2.1 dJ7_copyOf_1904c_2 rfl (lv_at hl 0 rfl) ?_
  refine va_getC C.1 C.2.1 (by rw [C.2.2.1]; exact hl.1.symm) C.2.2.2.1 (C.2.2.2.2 _ ml_J7_86) (hE.2.2.2.2.2.2.1.use n_1222 rfl) (C.2.2.2.2 _ se_Object__Object_getClass_9700) (C.2.2.2.2 _ im_Object_getClass_9700) (C.2.2.2.2 _ nt_Object_getClass_9700) hE.2.2.2.2.1 ⟨_, hW.1 0 _ rfl, rfl, va_nmO (q_ra hW) rfl⟩ (Nat.le_of_ble_eq_true rfl) (Nat.le_of_ble_eq_true rfl) dJ7_copyOf_1904c_3 ?_
  refine qe_callSr (rest := []) C hE (c_copyOf3 l D g ev q n n2 f P hn hn2 hP _) (gw_S ml_J7_300 sm_J7_copyOf_6403c ini_J7 cd_J7_copyOf_6403c rfl) rfl rfl rfl hd_copyOf3 ⟨(Nat.le_of_ble_eq_true rfl), (Nat.le_of_ble_eq_true rfl)⟩ hW pm_all (fun _ r => (r, .inl (g 3, n2, .inr (.inr (.inr (.inr (va_cpy f (fun _ => none) 0 0 n)))))) :: (q, .inl (g 3, n, .inr (.inr (.inr (.inr f))))) :: P) (fun _ _ => pm_all) hl.1 rfl (Nat.le_of_ble_eq_true rfl) ⟨(Nat.le_of_ble_eq_true rfl), (Nat.le_of_ble_eq_true rfl)⟩ dJ7_copyOf_1904c_6 (fun _ r H locs _ hW => ?_)
  exact q_rret C hRt (Or.inr ⟨_, rfl⟩) hLk hW () trivial rfl (Nat.le_of_ble_eq_true rfl) (Nat.le_of_ble_eq_true rfl) dJ7_copyOf_1904c_9
theorem hd_grow1 : yJx4a65c_grow_92f84.cls = RJx4a65c ∧ yJx4a65c_grow_92f84.cls ≠ "java/lang/invoke/MethodHandle" ∧ yJx4a65c_grow_92f84.cls ≠ "java/lang/invoke/VarHandle" ∧ (parseMethodDescriptor yJx4a65c_grow_92f84.desc).map (fun d => d.parameters.length) = some 1 := by decide +kernel
set_option maxHeartbeats 4000000 in
set_option maxRecDepth 100000 in
theorem c_grow1E (l : Launch) (D : va_G) (g : Nat → ClassId) (ev : Nat × Nat × (Nat → Nat)) (h : Nat) (m : Int32) (sz : Nat) : qNr l yJx4a65c_grow_92f84 (.code yJx4a65c_grow_92f84 cJx4a65c_grow_92f84 4 (some (.array (.object "java/lang/Object"))) :: GW) ({ frames := 3, cells := 1, slots := 1024, locals := 120 } : Room) D g ev [.ref h, .int (nI 1)] [(h, .inr (2, [.int m, .ref ev.1, .int (nI 0)]))] sz (fun (_ : Unit) => True) (fun _ r => [(h, .inr (2, [.int m, .ref r, .int (nI 0)])), (r, .inl (g 3, 10, .inr (.inr (.inr (.inr (fun _ => none))))))]) 1 1024 := by
  refine qe_entry (cc := cJx4a65c_grow_92f84) (nL := 4) (ret := (some (.array (.object "java/lang/Object")))) rfl (by decide) (Nat.le_of_ble_eq_true rfl) (fun pp ee ss mm bb mt kc ls C hRt hLk hin hsz hW hE hl => ?_)
  have hl : lv_has ls 4 [(0, .ref h), (1, .int (nI 1))] := hl
  refine lv_aload_n C.1 C.2.1 dJx4a65c_grow_92f84_0 rfl (lv_at hl 0 rfl) ?_
  refine q_get (v := .ref ev.1) C hW 0 rfl rfl 1 (by decide) gu_Jx4a65c (C.2.2.2.2 _ fl_Jx4a65c_9) rfl rfl dJx4a65c_grow_92f84_1 ?_
  refine qe_alen C hE hW dJx4a65c_grow_92f84_4 ?_
  refine lv_istore_n (lv' := [(2, .int (nI 0)), (0, .ref h), (1, .int (nI 1))]) C.1 C.2.1 dJx4a65c_grow_92f84_5 rfl hl (by decide) rfl (fun ls hl => ?_)
  refine lv_iload_n C.1 C.2.1 dJx4a65c_grow_92f84_6 rfl (lv_at hl 0 rfl) ?_
  refine q_zgt (tgt := 20) C (by decide) dJx4a65c_grow_92f84_7 (by decide) (fun h9 => absurd h9 (by decide)) (fun _ => ?_)
  refine lv_aload_n C.1 C.2.1 dJx4a65c_grow_92f84_10 rfl (lv_at hl 1 rfl) ?_
  refine q_get (v := .ref ev.1) C hW 0 rfl rfl 1 (by decide) gu_Jx4a65c (C.2.2.2.2 _ fl_Jx4a65c_9) rfl rfl dJx4a65c_grow_92f84_11 ?_
  refine va_gets C.1 C.2.1 hE.2.2.1 hW.2.2.2.1 C.2.2.2.1 (C.2.2.2.2 _ fl_Jx4a65c_39) (fun _ h9 => h9) dJx4a65c_grow_92f84_14 ?_
  refine lv_acmp_eq (rx := some ev.1) (ry := some ev.1) (tgt := 45) C.1 C.2.1 dJx4a65c_grow_92f84_17 (by decide) (fun _ => ?_) (fun h9 => absurd rfl h9)
  refine lv_aload_n C.1 C.2.1 dJx4a65c_grow_92f84_45 rfl (lv_at hl 1 rfl) ?_
  refine lv_bipush (v := nI 10) C.1 C.2.1 dJx4a65c_grow_92f84_46 (by decide) ?_
  refine lv_iload_n C.1 C.2.1 dJx4a65c_grow_92f84_48 rfl (lv_at hl 2 rfl) ?_
  refine va_mmax (x := nI 10) (y := nI 1) C.1 C.2.1 (by rw [C.2.2.1]; exact hl.1.symm) C.2.2.2.1 (C.2.2.2.2 _ ml_Jx4a65c_79) (C.2.2.2.2 _ sm_J9_max_7cf53) (C.2.2.2.2 _ ini_J9) (C.2.2.2.2 _ cd_J9_max_7cf53) (Nat.le_of_ble_eq_true rfl) (Nat.le_of_ble_eq_true rfl) (Nat.le_of_ble_eq_true rfl) (Nat.le_of_ble_eq_true rfl) dJx4a65c_grow_92f84_49 ?_
  refine q_to (y := nI 10) (by decide) ?_
  refine q_newq C hW (C.2.2.2.2 _ cl_Jx4a65c_7) hE.2.2.2.2.2.1 (by decide) (Nat.le_of_ble_eq_true rfl) (Nat.le_of_ble_eq_true rfl) dJx4a65c_grow_92f84_52 (fun r H hW => ?_)
  refine lv_dup_x1 C.1 C.2.1 dJx4a65c_grow_92f84_55 rfl rfl ?_
  refine q_put C hW 0 rfl rfl 1 (by decide) gu_Jx4a65c tyJx4a65c_ok nmJx4a65c (C.2.2.2.2 _ fl_Jx4a65c_9) rfl rfl rfl rfl (Nat.le_of_ble_eq_true rfl) [(h, .inr (2, [.int m, .ref r, .int (nI 0)])), (r, .inl (g 3, 10, .inr (.inr (.inr (.inr (fun _ => none))))))] rfl dJx4a65c_grow_92f84_56 (fun H locs hW => ?_)
  exact q_rret C hRt (Or.inr ⟨_, rfl⟩) hLk hW () trivial rfl (Nat.le_of_ble_eq_true rfl) (Nat.le_of_ble_eq_true rfl) dJx4a65c_grow_92f84_59
set_option maxHeartbeats 4000000 in
set_option maxRecDepth 100000 in
theorem c_grow1G (l : Launch) (D : va_G) (g : Nat → ClassId) (ev : Nat × Nat × (Nat → Nat)) (h q n : Nat) (f : Nat → Option Nat) (m : Int32) (c : Nat) (P : va_W) (h2 : 2 ≤ n) (hn : n < 512) (hP : ∀ i y, i < n → f i = some y → inP4 P y) (sz : Nat) : qNr l yJx4a65c_grow_92f84 (.code yJx4a65c_grow_92f84 cJx4a65c_grow_92f84 4 (some (.array (.object "java/lang/Object"))) :: GW) ({ frames := 3, cells := 1, slots := 1024, locals := 120 } : Room) D g ev [.ref h, .int (nI (n + 1))] ((h, .inr (2, [.int m, .ref q, .int (nI c)])) :: (q, .inl (g 3, n, .inr (.inr (.inr (.inr f))))) :: P) sz (fun (_ : Unit) => True) (fun _ r => (h, .inr (2, [.int m, .ref r, .int (nI c)])) :: (r, .inl (g 3, (n + n / 2), .inr (.inr (.inr (.inr (va_cpy f (fun _ => none) 0 0 n)))))) :: P) 1 1024 := by
  refine qe_entry (cc := cJx4a65c_grow_92f84) (nL := 4) (ret := (some (.array (.object "java/lang/Object")))) rfl (by decide) (Nat.le_of_ble_eq_true rfl) (fun pp ee ss mm bb mt kc ls C hRt hLk hin hsz hW hE hl => ?_)
  have hl : lv_has ls 4 [(0, .ref h), (1, .int (nI (n + 1)))] := hl
  refine lv_aload_n C.1 C.2.1 dJx4a65c_grow_92f84_0 rfl (lv_at hl 0 rfl) ?_
  refine q_get (v := .ref q) C hW 0 rfl rfl 1 (by decide) gu_Jx4a65c (C.2.2.2.2 _ fl_Jx4a65c_9) rfl rfl dJx4a65c_grow_92f84_1 ?_
  refine q_alen C hW 1 3 rfl rfl dJx4a65c_grow_92f84_4 ?_
  refine lv_istore_n (lv' := [(2, .int (nI n)), (0, .ref h), (1, .int (nI (n + 1)))]) C.1 C.2.1 dJx4a65c_grow_92f84_5 rfl hl (by decide) rfl (fun ls hl => ?_)
  refine lv_iload_n C.1 C.2.1 dJx4a65c_grow_92f84_6 rfl (lv_at hl 0 rfl) ?_
  refine q_zgt (tgt := 20) C (by omega) dJx4a65c_grow_92f84_7 (by decide) (fun _ => ?_) (fun h9 => absurd h9 (by omega))
  refine lv_iload_n C.1 C.2.1 dJx4a65c_grow_92f84_20 rfl (lv_at hl 0 rfl) ?_
  refine lv_iload_n C.1 C.2.1 dJx4a65c_grow_92f84_21 rfl (lv_at hl 2 rfl) ?_
  refine lv_iload_n C.1 C.2.1 dJx4a65c_grow_92f84_22 rfl (lv_at hl 0 rfl) ?_
  refine q_isub C (by omega) dJx4a65c_grow_92f84_23 ?_
  refine q_to (y := nI 1) (by rw [Nat.add_sub_cancel_left]) ?_
  refine lv_iload_n C.1 C.2.1 dJx4a65c_grow_92f84_24 rfl (lv_at hl 0 rfl) ?_
  refine lv_iconst (v := nI 1) C.1 C.2.1 dJx4a65c_grow_92f84_25 (by decide) ?_
  refine lv_ishr C.1 C.2.1 dJx4a65c_grow_92f84_26 ?_
  refine q_to (y := nI (n / 2)) (by rw [pk_shrN (by omega) _ 1 (by decide), Nat.pow_one]) ?_
  refine q_callSi (rest := []) C (c_newLen l D g n (n / 2) (by omega) (by omega) _) (gw_S ml_Jx4a65c_73 sm_J8_newLength_cabcc ini_J8 cd_J8_newLength_cabcc rfl) rfl rfl rfl hd_newLen ⟨(Nat.le_of_ble_eq_true rfl), (Nat.le_of_ble_eq_true rfl)⟩ hW (wc := []) (List.Perm.refl _) (fun _ => (h, .inr (2, [.int m, .ref q, .int (nI c)])) :: (q, .inl (g 3, n, .inr (.inr (.inr (.inr f))))) :: P) (fun _ => List.Perm.refl _) hl.1 rfl (Nat.le_of_ble_eq_true rfl) ⟨(Nat.le_of_ble_eq_true rfl), (Nat.le_of_ble_eq_true rfl)⟩ dJx4a65c_grow_92f84_27 (fun r0 _ H locs e hW => ?_)
  subst e
  refine lv_istore_n (lv' := [(3, .int (nI (n + n / 2))), (2, .int (nI n)), (0, .ref h), (1, .int (nI (n + 1)))]) C.1 C.2.1 dJx4a65c_grow_92f84_30 rfl hl (by decide) rfl (fun ls hl => ?_)
  refine lv_aload_n C.1 C.2.1 dJx4a65c_grow_92f84_31 rfl (lv_at hl 2 rfl) ?_
  refine lv_aload_n C.1 C.2.1 dJx4a65c_grow_92f84_32 rfl (lv_at hl 2 rfl) ?_
  refine q_get (v := .ref q) C hW 0 rfl rfl 1 (by decide) gu_Jx4a65c (C.2.2.2.2 _ fl_Jx4a65c_9) rfl rfl dJx4a65c_grow_92f84_33 ?_
  refine lv_iload_n C.1 C.2.1 dJx4a65c_grow_92f84_36 rfl (lv_at hl 0 rfl) ?_
  refine qe_callSr (rest := [.ref h]) C hE (c_copyOf2 l D g ev q n (n + n / 2) f P (by omega) (by omega) hP _) (gw_S ml_Jx4a65c_66 sm_J7_copyOf_1904c ini_J7 cd_J7_copyOf_1904c rfl) rfl rfl rfl hd_copyOf2 ⟨(Nat.le_of_ble_eq_true rfl), (Nat.le_of_ble_eq_true rfl)⟩ hW (wr := [(h, .inr (2, [.int m, .ref q, .int (nI c)]))]) (List.perm_append_singleton _ _).symm (fun _ r => (h, .inr (2, [.int m, .ref q, .int (nI c)])) :: (r, .inl (g 3, (n + n / 2), .inr (.inr (.inr (.inr (va_cpy f (fun _ => none) 0 0 n)))))) :: (q, .inl (g 3, n, .inr (.inr (.inr (.inr f))))) :: P) (fun _ _ => (List.perm_append_singleton _ _).symm) hl.1 rfl (Nat.le_of_ble_eq_true rfl) ⟨(Nat.le_of_ble_eq_true rfl), (Nat.le_of_ble_eq_true rfl)⟩ dJx4a65c_grow_92f84_37 (fun _ r H locs _ hW => ?_)
  refine lv_dup_x1 C.1 C.2.1 dJx4a65c_grow_92f84_40 rfl rfl ?_
  refine q_put C hW 0 rfl rfl 1 (by decide) gu_Jx4a65c tyJx4a65c_ok nmJx4a65c (C.2.2.2.2 _ fl_Jx4a65c_9) rfl rfl rfl rfl (Nat.le_of_ble_eq_true rfl) ((h, .inr (2, [.int m, .ref r, .int (nI c)])) :: (r, .inl (g 3, (n + n / 2), .inr (.inr (.inr (.inr (va_cpy f (fun _ => none) 0 0 n)))))) :: (q, .inl (g 3, n, .inr (.inr (.inr (.inr f))))) :: P) rfl dJx4a65c_grow_92f84_41 (fun H locs hW => ?_)
  have hW := hW.subl (w' := (h, .inr (2, [.int m, .ref r, .int (nI c)])) :: (r, .inl (g 3, (n + n / 2), .inr (.inr (.inr (.inr (va_cpy f (fun _ => none) 0 0 n)))))) :: P) (((List.sublist_cons_self _ _).cons₂ _).cons₂ _)
  exact q_rret C hRt (Or.inr ⟨_, rfl⟩) hLk hW () trivial rfl (Nat.le_of_ble_eq_true rfl) (Nat.le_of_ble_eq_true rfl) dJx4a65c_grow_92f84_44
theorem hd_grow0 : yJx4a65c_grow_d5877.cls = RJx4a65c ∧ yJx4a65c_grow_d5877.cls ≠ "java/lang/invoke/MethodHandle" ∧ yJx4a65c_grow_d5877.cls ≠ "java/lang/invoke/VarHandle" ∧ (parseMethodDescriptor yJx4a65c_grow_d5877.desc).map (fun d => d.parameters.length) = some 0 := by decide +kernel
set_option maxHeartbeats 4000000 in
set_option maxRecDepth 100000 in
theorem c_grow0E (l : Launch) (D : va_G) (g : Nat → ClassId) (ev : Nat × Nat × (Nat → Nat)) (h : Nat) (m : Int32) (sz : Nat) : qNr l yJx4a65c_grow_d5877 (.code yJx4a65c_grow_d5877 cJx4a65c_grow_d5877 1 (some (.array (.object "java/lang/Object"))) :: GW) ({ frames := 4, cells := 1, slots := 1024, locals := 150 } : Room) D g ev [.ref h] [(h, .inr (2, [.int m, .ref ev.1, .int (nI 0)]))] sz (fun (_ : Unit) => True) (fun _ r => [(h, .inr (2, [.int m, .ref r, .int (nI 0)])), (r, .inl (g 3, 10, .inr (.inr (.inr (.inr (fun _ => none))))))]) 1 1024 := by
  refine qe_entry (cc := cJx4a65c_grow_d5877) (nL := 1) (ret := (some (.array (.object "java/lang/Object")))) rfl (by decide) (Nat.le_of_ble_eq_true rfl) (fun pp ee ss mm bb mt kc ls C hRt hLk hin hsz hW hE hl => ?_)
  have hl : lv_has ls 1 [(0, .ref h)] := hl
  refine lv_aload_n C.1 C.2.1 dJx4a65c_grow_d5877_0 rfl (lv_at hl 0 rfl) ?_
  refine lv_aload_n C.1 C.2.1 dJx4a65c_grow_d5877_1 rfl (lv_at hl 0 rfl) ?_
  refine q_get (v := .int (nI 0)) C hW 0 rfl rfl 2 (by decide) gu_Jx4a65c (C.2.2.2.2 _ fl_Jx4a65c_48) rfl rfl dJx4a65c_grow_d5877_2 ?_
  refine lv_iconst (v := nI 1) C.1 C.2.1 dJx4a65c_grow_d5877_5 (by decide) ?_
  refine q_iadd C dJx4a65c_grow_d5877_6 ?_
  refine qe_callVr (rest := []) C hE (c_grow1E l D g ev h m _) (gw_V ml_Jx4a65c_69 im_Jx4a65c_grow_92f84 se_Jx4a65c_Jx4a65c_grow_92f84 ini_Jx4a65c cd_Jx4a65c_grow_92f84 rfl) rfl rfl rfl hd_grow1 ⟨(Nat.le_of_ble_eq_true rfl), (Nat.le_of_ble_eq_true rfl)⟩ hW pm_all (fun _ r => [(h, .inr (2, [.int m, .ref r, .int (nI 0)])), (r, .inl (g 3, 10, .inr (.inr (.inr (.inr (fun _ => none))))))]) (fun _ _ => pm_all) rfl rfl hl.1 rfl (Nat.le_of_ble_eq_true rfl) ⟨(Nat.le_of_ble_eq_true rfl), (Nat.le_of_ble_eq_true rfl)⟩ dJx4a65c_grow_d5877_7 (fun _ r H locs _ hW => ?_)
  exact q_rret C hRt (Or.inr ⟨_, rfl⟩) hLk hW () trivial rfl (Nat.le_of_ble_eq_true rfl) (Nat.le_of_ble_eq_true rfl) dJx4a65c_grow_d5877_10
set_option maxHeartbeats 4000000 in
set_option maxRecDepth 100000 in
theorem c_grow0G (l : Launch) (D : va_G) (g : Nat → ClassId) (ev : Nat × Nat × (Nat → Nat)) (h q n : Nat) (f : Nat → Option Nat) (m : Int32) (P : va_W) (h2 : 2 ≤ n) (hn : n < 512) (hP : ∀ i y, i < n → f i = some y → inP4 P y) (sz : Nat) : qNr l yJx4a65c_grow_d5877 (.code yJx4a65c_grow_d5877 cJx4a65c_grow_d5877 1 (some (.array (.object "java/lang/Object"))) :: GW) ({ frames := 4, cells := 1, slots := 1024, locals := 150 } : Room) D g ev [.ref h] ((h, .inr (2, [.int m, .ref q, .int (nI n)])) :: (q, .inl (g 3, n, .inr (.inr (.inr (.inr f))))) :: P) sz (fun (_ : Unit) => True) (fun _ r => (h, .inr (2, [.int m, .ref r, .int (nI n)])) :: (r, .inl (g 3, (n + n / 2), .inr (.inr (.inr (.inr (va_cpy f (fun _ => none) 0 0 n)))))) :: P) 1 1024 := by
  refine qe_entry (cc := cJx4a65c_grow_d5877) (nL := 1) (ret := (some (.array (.object "java/lang/Object")))) rfl (by decide) (Nat.le_of_ble_eq_true rfl) (fun pp ee ss mm bb mt kc ls C hRt hLk hin hsz hW hE hl => ?_)
  have hl : lv_has ls 1 [(0, .ref h)] := hl
  refine lv_aload_n C.1 C.2.1 dJx4a65c_grow_d5877_0 rfl (lv_at hl 0 rfl) ?_
  refine lv_aload_n C.1 C.2.1 dJx4a65c_grow_d5877_1 rfl (lv_at hl 0 rfl) ?_
  refine q_get (v := .int (nI n)) C hW 0 rfl rfl 2 (by decide) gu_Jx4a65c (C.2.2.2.2 _ fl_Jx4a65c_48) rfl rfl dJx4a65c_grow_d5877_2 ?_
  refine lv_iconst (v := nI 1) C.1 C.2.1 dJx4a65c_grow_d5877_5 (by decide) ?_
  refine q_iadd C dJx4a65c_grow_d5877_6 ?_
  refine qe_callVr (rest := []) C hE (c_grow1G l D g ev h q n f m n P h2 hn hP _) (gw_V ml_Jx4a65c_69 im_Jx4a65c_grow_92f84 se_Jx4a65c_Jx4a65c_grow_92f84 ini_Jx4a65c cd_Jx4a65c_grow_92f84 rfl) rfl rfl rfl hd_grow1 ⟨(Nat.le_of_ble_eq_true rfl), (Nat.le_of_ble_eq_true rfl)⟩ hW pm_all (fun _ r => (h, .inr (2, [.int m, .ref r, .int (nI n)])) :: (r, .inl (g 3, (n + n / 2), .inr (.inr (.inr (.inr (va_cpy f (fun _ => none) 0 0 n)))))) :: P) (fun _ _ => pm_all) rfl rfl hl.1 rfl (Nat.le_of_ble_eq_true rfl) ⟨(Nat.le_of_ble_eq_true rfl), (Nat.le_of_ble_eq_true rfl)⟩ dJx4a65c_grow_d5877_7 (fun _ r H locs _ hW => ?_)
  exact q_rret C hRt (Or.inr ⟨_, rfl⟩) hLk hW () trivial rfl (Nat.le_of_ble_eq_true rfl) (Nat.le_of_ble_eq_true rfl) dJx4a65c_grow_d5877_10
theorem hd_add3 : yJx4a65c_add_72be8.cls = RJx4a65c ∧ yJx4a65c_add_72be8.cls ≠ "java/lang/invoke/MethodHandle" ∧ yJx4a65c_add_72be8.cls ≠ "java/lang/invoke/VarHandle" ∧ (parseMethodDescriptor yJx4a65c_add_72be8.desc).map (fun d => d.parameters.length) = some 3 := by decide +kernel
set_option maxHeartbeats 4000000 in
set_option maxRecDepth 100000 in
theorem c_add3N (l : Launch) (D : va_G) (g : Nat → ClassId) (ev : Nat × Nat × (Nat → Nat)) (h q n : Nat) (f : Nat → Option Nat) (m : Int32) (c : Nat) (hc : c < n) (hn : n < 2 ^ 20) (P : va_W) (v kv : Nat) (fs : List Value) (hv : P[kv]? = some (v, .inr (4, fs))) (sz : Nat) : qNv l yJx4a65c_add_72be8 (.code yJx4a65c_add_72be8 cJx4a65c_add_72be8 4 none :: GW) ({ frames := 5, cells := 1, slots := 1024, locals := 180 } : Room) D g ev [.ref h, .ref v, .ref q, .int (nI c)] ((h, .inr (2, [.int m, .ref q, .int (nI c)])) :: (q, .inl (g 3, n, .inr (.inr (.inr (.inr f))))) :: P) sz (fun (_ : Unit) => True) (fun _ => (h, .inr (2, [.int m, .ref q, .int (nI (c + 1))])) :: (q, .inl (g 3, n, .inr (.inr (.inr (.inr (va_up f c (some v))))))) :: P) 1 1024 := by
  refine qe_entry (cc := cJx4a65c_add_72be8) (nL := 4) (ret := none) rfl (by decide) (Nat.le_of_ble_eq_true rfl) (fun pp ee ss mm bb mt kc ls C hRt hLk hin hsz hW hE hl => ?_)
  have hl : lv_has ls 4 [(0, .ref h), (1, .ref v), (2, .ref q), (3, .int (nI c))] := hl
  refine lv_iload_n C.1 C.2.1 dJx4a65c_add_72be8_0 rfl (lv_at hl 3 rfl) ?_
  refine lv_aload_n C.1 C.2.1 dJx4a65c_add_72be8_1 rfl (lv_at hl 2 rfl) ?_
  refine q_alen C hW 1 3 rfl rfl dJx4a65c_add_72be8_2 ?_
  refine q_ne (tgt := 11) C (by omega) (by omega) dJx4a65c_add_72be8_3 (by decide) (fun _ => ?_) (fun h9 => absurd h9 (by omega))
  refine lv_aload_n C.1 C.2.1 dJx4a65c_add_72be8_11 rfl (lv_at hl 2 rfl) ?_
  refine lv_iload_n C.1 C.2.1 dJx4a65c_add_72be8_12 rfl (lv_at hl 3 rfl) ?_
  refine lv_aload_n C.1 C.2.1 dJx4a65c_add_72be8_13 rfl (lv_at hl 1 rfl) ?_
  refine q_astq C hE.2.2.2.2.2.2.1 hW 1 rfl (kv + 2) (by rw [List.getElem?_cons_succ, List.getElem?_cons_succ]; exact hv) (k := c) (by omega) (by omega) ((h, .inr (2, [.int m, .ref q, .int (nI c)])) :: (q, .inl (g 3, n, .inr (.inr (.inr (.inr (va_up f c (some v))))))) :: P) rfl dJx4a65c_add_72be8_14 (fun H locs hW => ?_)
  refine lv_aload_n C.1 C.2.1 dJx4a65c_add_72be8_15 rfl (lv_at hl 0 rfl) ?_
  refine lv_iload_n C.1 C.2.1 dJx4a65c_add_72be8_16 rfl (lv_at hl 3 rfl) ?_
  refine lv_iconst (v := nI 1) C.1 C.2.1 dJx4a65c_add_72be8_17 (by decide) ?_
  refine q_iadd C dJx4a65c_add_72be8_18 ?_
  refine q_put C hW 0 rfl rfl 2 (by decide) gu_Jx4a65c tyJx4a65c_ok nmJx4a65c (C.2.2.2.2 _ fl_Jx4a65c_48) rfl rfl rfl rfl (Nat.le_of_ble_eq_true rfl) ((h, .inr (2, [.int m, .ref q, .int (nI (c + 1))])) :: (q, .inl (g 3, n, .inr (.inr (.inr (.inr (va_up f c (some v))))))) :: P) rfl dJx4a65c_add_72be8_19 (fun H locs hW => ?_)
  exact q_vret C hRt hLk hW () trivial rfl (Nat.le_of_ble_eq_true rfl) (Nat.le_of_ble_eq_true rfl) dJx4a65c_add_72be8_22
set_option maxHeartbeats 4000000 in
set_option maxRecDepth 100000 in
theorem c_add3E (l : Launch) (D : va_G) (g : Nat → ClassId) (ev : Nat × Nat × (Nat → Nat)) (h : Nat) (m : Int32) (P : va_W) (v kv : Nat) (fs : List Value) (hv : P[kv]? = some (v, .inr (4, fs))) (sz : Nat) : qNv l yJx4a65c_add_72be8 (.code yJx4a65c_add_72be8 cJx4a65c_add_72be8 4 none :: GW) ({ frames := 5, cells := 1, slots := 1024, locals := 180 } : Room) D g ev [.ref h, .ref v, .ref ev.1, .int (nI 0)] ((h, .inr (2, [.int m, .ref ev.1, .int (nI 0)])) :: P) sz (fun (r : Nat) => True) (fun (r : Nat) => (h, .inr (2, [.int m, .ref r, .int (nI (0 + 1))])) :: (r, .inl (g 3, 10, .inr (.inr (.inr (.inr (va_up (fun _ => none) 0 (some v))))))) :: P) 1 1024 := by
  refine qe_entry (cc := cJx4a65c_add_72be8) (nL := 4) (ret := none) rfl (by decide) (Nat.le_of_ble_eq_true rfl) (fun pp ee ss mm bb mt kc ls C hRt hLk hin hsz hW hE hl => ?_)
  have hl : lv_has ls 4 [(0, .ref h), (1, .ref v), (2, .ref ev.1), (3, .int (nI 0))] := hl
  refine lv_iload_n C.1 C.2.1 dJx4a65c_add_72be8_0 rfl (lv_at hl 3 rfl) ?_
  refine lv_aload_n C.1 C.2.1 dJx4a65c_add_72be8_1 rfl (lv_at hl 2 rfl) ?_
  refine qe_alen C hE hW dJx4a65c_add_72be8_2 ?_
  refine q_ne (tgt := 11) C (by omega) (by omega) dJx4a65c_add_72be8_3 (by decide) (fun h9 => absurd rfl h9) (fun _ => ?_)
  refine lv_aload_n C.1 C.2.1 dJx4a65c_add_72be8_6 rfl (lv_at hl 0 rfl) ?_
  refine qe_callVr (rest := []) C hE (c_grow0E l D g ev h m _) (gw_V ml_Jx4a65c_129 im_Jx4a65c_grow_d5877 se_Jx4a65c_Jx4a65c_grow_d5877 ini_Jx4a65c cd_Jx4a65c_grow_d5877 rfl) rfl rfl rfl hd_grow0 ⟨(Nat.le_of_ble_eq_true rfl), (Nat.le_of_ble_eq_true rfl)⟩ hW (wr := P) (List.Perm.refl _) (fun _ r => (h, .inr (2, [.int m, .ref r, .int (nI 0)])) :: (r, .inl (g 3, 10, .inr (.inr (.inr (.inr (fun _ => none)))))) :: P) (fun _ _ => List.Perm.refl _) rfl rfl hl.1 rfl (Nat.le_of_ble_eq_true rfl) ⟨(Nat.le_of_ble_eq_true rfl), (Nat.le_of_ble_eq_true rfl)⟩ dJx4a65c_add_72be8_7 (fun _ r H locs _ hW => ?_)
  refine lv_astore_n (lv' := [(2, .ref r), (0, .ref h), (1, .ref v), (3, .int (nI 0))]) C.1 C.2.1 dJx4a65c_add_72be8_10 rfl hl (by decide) rfl (fun ls hl => ?_)
  refine lv_aload_n C.1 C.2.1 dJx4a65c_add_72be8_11 rfl (lv_at hl 0 rfl) ?_
  refine lv_iload_n C.1 C.2.1 dJx4a65c_add_72be8_12 rfl (lv_at hl 3 rfl) ?_
  refine lv_aload_n C.1 C.2.1 dJx4a65c_add_72be8_13 rfl (lv_at hl 2 rfl) ?_
  refine q_astq C hE.2.2.2.2.2.2.1 hW 1 rfl (kv + 2) (by rw [List.getElem?_cons_succ, List.getElem?_cons_succ]; exact hv) (k := 0) (by omega) (by omega) ((h, .inr (2, [.int m, .ref r, .int (nI 0)])) :: (r, .inl (g 3, 10, .inr (.inr (.inr (.inr (va_up (fun _ => none) 0 (some v))))))) :: P) rfl dJx4a65c_add_72be8_14 (fun H locs hW => ?_)
  refine lv_aload_n C.1 C.2.1 dJx4a65c_add_72be8_15 rfl (lv_at hl 1 rfl) ?_
  refine lv_iload_n C.1 C.2.1 dJx4a65c_add_72be8_16 rfl (lv_at hl 3 rfl) ?_
  refine lv_iconst (v := nI 1) C.1 C.2.1 dJx4a65c_add_72be8_17 (by decide) ?_
  refine q_iadd C dJx4a65c_add_72be8_18 ?_
  refine q_put C hW 0 rfl rfl 2 (by decide) gu_Jx4a65c tyJx4a65c_ok nmJx4a65c (C.2.2.2.2 _ fl_Jx4a65c_48) rfl rfl rfl rfl (Nat.le_of_ble_eq_true rfl) ((h, .inr (2, [.int m, .ref r, .int (nI (0 + 1))])) :: (r, .inl (g 3, 10, .inr (.inr (.inr (.inr (va_up (fun _ => none) 0 (some v))))))) :: P) rfl dJx4a65c_add_72be8_19 (fun H locs hW => ?_)
  exact q_vret C hRt hLk hW r trivial rfl (Nat.le_of_ble_eq_true rfl) (Nat.le_of_ble_eq_true rfl) dJx4a65c_add_72be8_22
set_option maxHeartbeats 4000000 in
set_option maxRecDepth 100000 in
theorem c_add3G (l : Launch) (D : va_G) (g : Nat → ClassId) (ev : Nat × Nat × (Nat → Nat)) (h q n : Nat) (f : Nat → Option Nat) (m : Int32) (h2 : 2 ≤ n) (hn : n < 512) (P : va_W) (v kv : Nat) (fs : List Value) (hv : P[kv]? = some (v, .inr (4, fs))) (hP : ∀ i y, i < n → f i = some y → inP4 P y) (sz : Nat) : qNv l yJx4a65c_add_72be8 (.code yJx4a65c_add_72be8 cJx4a65c_add_72be8 4 none :: GW) ({ frames := 5, cells := 1, slots := 1024, locals := 180 } : Room) D g ev [.ref h, .ref v, .ref q, .int (nI n)] ((h, .inr (2, [.int m, .ref q, .int (nI n)])) :: (q, .inl (g 3, n, .inr (.inr (.inr (.inr f))))) :: P) sz (fun (r : Nat) => True) (fun (r : Nat) => (h, .inr (2, [.int m, .ref r, .int (nI (n + 1))])) :: (r, .inl (g 3, (n + n / 2), .inr (.inr (.inr (.inr (va_up (va_cpy f (fun _ => none) 0 0 n) n (some v))))))) :: P) 1 1024 := by
  refine qe_entry (cc := cJx4a65c_add_72be8) (nL := 4) (ret := none) rfl (by decide) (Nat.le_of_ble_eq_true rfl) (fun pp ee ss mm bb mt kc ls C hRt hLk hin hsz hW hE hl => ?_)
  have hl : lv_has ls 4 [(0, .ref h), (1, .ref v), (2, .ref q), (3, .int (nI n))] := hl
  refine lv_iload_n C.1 C.2.1 dJx4a65c_add_72be8_0 rfl (lv_at hl 3 rfl) ?_
  refine lv_aload_n C.1 C.2.1 dJx4a65c_add_72be8_1 rfl (lv_at hl 2 rfl) ?_
  refine q_alen C hW 1 3 rfl rfl dJx4a65c_add_72be8_2 ?_
  refine q_ne (tgt := 11) C (by omega) (by omega) dJx4a65c_add_72be8_3 (by decide) (fun h9 => absurd rfl h9) (fun _ => ?_)
  refine lv_aload_n C.1 C.2.1 dJx4a65c_add_72be8_6 rfl (lv_at hl 0 rfl) ?_
  refine qe_callVr (rest := []) C hE (c_grow0G l D g ev h q n f m P h2 hn hP _) (gw_V ml_Jx4a65c_129 im_Jx4a65c_grow_d5877 se_Jx4a65c_Jx4a65c_grow_d5877 ini_Jx4a65c cd_Jx4a65c_grow_d5877 rfl) rfl rfl rfl hd_grow0 ⟨(Nat.le_of_ble_eq_true rfl), (Nat.le_of_ble_eq_true rfl)⟩ hW pm_all (fun _ r => (h, .inr (2, [.int m, .ref r, .int (nI n)])) :: (r, .inl (g 3, (n + n / 2), .inr (.inr (.inr (.inr (va_cpy f (fun _ => none) 0 0 n)))))) :: P) (fun _ _ => pm_all) rfl rfl hl.1 rfl (Nat.le_of_ble_eq_true rfl) ⟨(Nat.le_of_ble_eq_true rfl), (Nat.le_of_ble_eq_true rfl)⟩ dJx4a65c_add_72be8_7 (fun _ r H locs _ hW => ?_)
  refine lv_astore_n (lv' := [(2, .ref r), (0, .ref h), (1, .ref v), (3, .int (nI n))]) C.1 C.2.1 dJx4a65c_add_72be8_10 rfl hl (by decide) rfl (fun ls hl => ?_)
  refine lv_aload_n C.1 C.2.1 dJx4a65c_add_72be8_11 rfl (lv_at hl 0 rfl) ?_
  refine lv_iload_n C.1 C.2.1 dJx4a65c_add_72be8_12 rfl (lv_at hl 3 rfl) ?_
  refine lv_aload_n C.1 C.2.1 dJx4a65c_add_72be8_13 rfl (lv_at hl 2 rfl) ?_
  refine q_astq C hE.2.2.2.2.2.2.1 hW 1 rfl (kv + 2) (by rw [List.getElem?_cons_succ, List.getElem?_cons_succ]; exact hv) (k := n) (by omega) (by omega) ((h, .inr (2, [.int m, .ref r, .int (nI n)])) :: (r, .inl (g 3, (n + n / 2), .inr (.inr (.inr (.inr (va_up (va_cpy f (fun _ => none) 0 0 n) n (some v))))))) :: P) rfl dJx4a65c_add_72be8_14 (fun H locs hW => ?_)
  refine lv_aload_n C.1 C.2.1 dJx4a65c_add_72be8_15 rfl (lv_at hl 1 rfl) ?_
  refine lv_iload_n C.1 C.2.1 dJx4a65c_add_72be8_16 rfl (lv_at hl 3 rfl) ?_
  refine lv_iconst (v := nI 1) C.1 C.2.1 dJx4a65c_add_72be8_17 (by decide) ?_
  refine q_iadd C dJx4a65c_add_72be8_18 ?_
  refine q_put C hW 0 rfl rfl 2 (by decide) gu_Jx4a65c tyJx4a65c_ok nmJx4a65c (C.2.2.2.2 _ fl_Jx4a65c_48) rfl rfl rfl rfl (Nat.le_of_ble_eq_true rfl) ((h, .inr (2, [.int m, .ref r, .int (nI (n + 1))])) :: (r, .inl (g 3, (n + n / 2), .inr (.inr (.inr (.inr (va_up (va_cpy f (fun _ => none) 0 0 n) n (some v))))))) :: P) rfl dJx4a65c_add_72be8_19 (fun H locs hW => ?_)
  exact q_vret C hRt hLk hW r trivial rfl (Nat.le_of_ble_eq_true rfl) (Nat.le_of_ble_eq_true rfl) dJx4a65c_add_72be8_22
/-- a list as it is: its first array is the common empty one -/
def ALOK (z : Nat) (a : ALs) : Prop := (alN a = 0 → alQ a = z ∧ alC a = 0) ∧ alC a ≤ alN a ∧ (¬ alN a = 0 → 10 ≤ alN a) ∧ alN a ≤ 1000
/-- an element put behind the others -/
def ALadd (z : Nat) (a u : ALs) (v : Nat) : Prop := ALOK z u ∧ alC u = alC a + 1 ∧ (∀ i, i < alC a → alF u i = alF a i) ∧ alF u (alC a) = some v
theorem hd_ALadd : yJx4a65c_add_9ea2d.cls = RJx4a65c ∧ yJx4a65c_add_9ea2d.cls ≠ "java/lang/invoke/MethodHandle" ∧ yJx4a65c_add_9ea2d.cls ≠ "java/lang/invoke/VarHandle" ∧ (parseMethodDescriptor yJx4a65c_add_9ea2d.desc).map (fun d => d.parameters.length) = some 1 := by decide +kernel
theorem hd_xLadd : xLadd.cls ≠ "java/lang/invoke/MethodHandle" ∧ xLadd.cls ≠ "java/lang/invoke/VarHandle" ∧ (parseMethodDescriptor xLadd.desc).map (fun d => d.parameters.length) = some 1 := by decide +kernel
theorem hd_xLget : xLget.cls ≠ "java/lang/invoke/MethodHandle" ∧ xLget.cls ≠ "java/lang/invoke/VarHandle" ∧ (parseMethodDescriptor xLget.desc).map (fun d => d.parameters.length) = some 1 := by decide +kernel
theorem hd_xLsize : xLsize.cls ≠ "java/lang/invoke/MethodHandle" ∧ xLsize.cls ≠ "java/lang/invoke/VarHandle" ∧ (parseMethodDescriptor xLsize.desc).map (fun d => d.parameters.length) = some 0 := by decide +kernel
theorem hd_xLemp : xLemp.cls ≠ "java/lang/invoke/MethodHandle" ∧ xLemp.cls ≠ "java/lang/invoke/VarHandle" ∧ (parseMethodDescriptor xLemp.desc).map (fun d => d.parameters.length) = some 0 := by decide +kernel
set_option maxHeartbeats 4000000 in
set_option maxRecDepth 100000 in
theorem c_AL_add (l : Launch) (D : va_G) (g : Nat → ClassId) (ev : Nat × Nat × (Nat → Nat)) (h : Nat) (a : ALs) (P : va_W) (v kv : Nat) (fs : List Value) (hv : P[kv]? = some (v, .inr (4, fs))) (hA : ALOK ev.1 a) (hc : alC a < 512) (hP : ∀ i y, i < alC a → alF a i = some y → inP4 P y) (sz : Nat) : qNi l yJx4a65c_add_9ea2d (.code yJx4a65c_add_9ea2d cJx4a65c_add_9ea2d 2 (some .boolean) :: GW) ({ frames := 6, cells := 1, slots := 1024, locals := 210 } : Room) D g ev [.ref h, .ref v] (wAL g h a ++ P) sz (fun (r : Int32) (u : ALs) => nI 1 = r ∧ ALadd ev.1 a u v) (fun u => wAL g h u ++ P) 1 1024 := by
  refine qe_entry (cc := cJx4a65c_add_9ea2d) (nL := 2) (ret := (some .boolean)) rfl (by decide) (Nat.le_of_ble_eq_true rfl) (fun pp ee ss mm bb mt kc ls C hRt hLk hin hsz hW hE hl => ?_)
  have hl : lv_has ls 2 [(0, .ref h), (1, .ref v)] := hl
  by_cases hz : alN a = 0
  · obtain ⟨hq, hc0⟩ := hA.1 hz
    have hW : qW D g (va_A (wAL g h a ++ P) sz) ss.heap ss ((h, .inr (2, [.int (alM a), .ref (alQ a), .int (nI (alC a))])) :: P) ss.heap [] := by have h9 := hW; rw [show wAL g h a ++ P = (h, .inr (2, [.int (alM a), .ref (alQ a), .int (nI (alC a))])) :: P by rw [wAL_0 hz]; rfl] at h9 ⊢; exact h9
    refine lv_aload_n C.1 C.2.1 dJx4a65c_add_9ea2d_0 rfl (lv_at hl 0 rfl) ?_
    refine lv_dup C.1 C.2.1 dJx4a65c_add_9ea2d_1 rfl ?_
    refine q_getS (v := .int (alM a)) C hW 0 rfl rfl 0 (by decide) gu_Jx4a65c (C.2.2.2.2 _ fl_Jx4a65c_63) (u_same (C.2.2.2.2 _ w_122)) rfl dJx4a65c_add_9ea2d_2 ?_
    refine lv_iconst (v := nI 1) C.1 C.2.1 dJx4a65c_add_9ea2d_5 (by decide) ?_
    refine lv_iadd C.1 C.2.1 dJx4a65c_add_9ea2d_6 ?_
    refine q_putS C hW 0 rfl rfl 0 (by decide) gu_Jx4a65c tyJx4a65c_ok nmJx4a65c (C.2.2.2.2 _ fl_Jx4a65c_63) (u_same (C.2.2.2.2 _ w_122)) rfl rfl rfl (Nat.le_of_ble_eq_true rfl) ((h, .inr (2, [.int (alM a + nI 1), .ref (alQ a), .int (nI (alC a))])) :: P) rfl dJx4a65c_add_9ea2d_7 (fun H locs hW => ?_)
    refine lv_aload_n C.1 C.2.1 dJx4a65c_add_9ea2d_10 rfl (lv_at hl 0 rfl) ?_
    refine lv_aload_n C.1 C.2.1 dJx4a65c_add_9ea2d_11 rfl (lv_at hl 1 rfl) ?_
    refine lv_aload_n C.1 C.2.1 dJx4a65c_add_9ea2d_12 rfl (lv_at hl 0 rfl) ?_
    refine q_get (v := .ref (alQ a)) C hW 0 rfl rfl 1 (by decide) gu_Jx4a65c (C.2.2.2.2 _ fl_Jx4a65c_9) rfl rfl dJx4a65c_add_9ea2d_13 ?_
    refine lv_aload_n C.1 C.2.1 dJx4a65c_add_9ea2d_16 rfl (lv_at hl 0 rfl) ?_
    refine q_get (v := .int (nI (alC a))) C hW 0 rfl rfl 2 (by decide) gu_Jx4a65c (C.2.2.2.2 _ fl_Jx4a65c_48) rfl rfl dJx4a65c_add_9ea2d_17 ?_
    rw [hq, hc0] at hW
    rw [hq, hc0]
    refine qe_callVv (rest := []) C hE (c_add3E l D g ev h (alM a + nI 1) P v kv fs hv _) (gw_V ml_Jx4a65c_131 im_Jx4a65c_add_72be8 se_Jx4a65c_Jx4a65c_add_72be8 ini_Jx4a65c cd_Jx4a65c_add_72be8 rfl) rfl rfl rfl hd_add3 ⟨(Nat.le_of_ble_eq_true rfl), (Nat.le_of_ble_eq_true rfl)⟩ hW pm_all (fun r => (h, .inr (2, [.int (alM a + nI 1), .ref r, .int (nI (0 + 1))])) :: (r, .inl (g 3, 10, .inr (.inr (.inr (.inr (va_up (fun _ => none) 0 (some v))))))) :: P) (fun _ => pm_all) rfl rfl hl.1 rfl (Nat.le_of_ble_eq_true rfl) ⟨(Nat.le_of_ble_eq_true rfl), (Nat.le_of_ble_eq_true rfl)⟩ dJx4a65c_add_9ea2d_20 (fun r H locs _ hW => ?_)
    refine lv_iconst (v := nI 1) C.1 C.2.1 dJx4a65c_add_9ea2d_23 (by decide) ?_
    refine q_iret C hRt hLk hW (by decide) (r, 10, va_up (fun _ => none) 0 (some v), alM a + nI 1, 0 + 1) ⟨rfl, ?_⟩ (by rw [wAL_mk (by omega)]; rfl) (Nat.le_of_ble_eq_true rfl) (Nat.le_of_ble_eq_true rfl) dJx4a65c_add_9ea2d_24
    exact ⟨⟨fun h9 => absurd (show (10 : Nat) = 0 from h9) (by decide), show 1 ≤ 10 by decide, fun _ => show 10 ≤ 10 by decide, show 10 ≤ 1000 by decide⟩, show 0 + 1 = alC a + 1 by omega, fun i hi => absurd hi (by omega), by rw [hc0]; rfl⟩
  have hW : qW D g (va_A (wAL g h a ++ P) sz) ss.heap ss ((h, .inr (2, [.int (alM a), .ref (alQ a), .int (nI (alC a))])) :: (alQ a, .inl (g 3, alN a, .inr (.inr (.inr (.inr (alF a)))))) :: P) ss.heap [] := by have h9 := hW; rw [show wAL g h a ++ P = (h, .inr (2, [.int (alM a), .ref (alQ a), .int (nI (alC a))])) :: (alQ a, .inl (g 3, alN a, .inr (.inr (.inr (.inr (alF a)))))) :: P by rw [wAL_1 hz]; rfl] at h9 ⊢; exact h9
  have hA1 := hA.2.1
  have hA2 := hA.2.2.1 hz
  have hA3 := hA.2.2.2
  refine lv_aload_n C.1 C.2.1 dJx4a65c_add_9ea2d_0 rfl (lv_at hl 0 rfl) ?_
  refine lv_dup C.1 C.2.1 dJx4a65c_add_9ea2d_1 rfl ?_
  refine q_getS (v := .int (alM a)) C hW 0 rfl rfl 0 (by decide) gu_Jx4a65c (C.2.2.2.2 _ fl_Jx4a65c_63) (u_same (C.2.2.2.2 _ w_122)) rfl dJx4a65c_add_9ea2d_2 ?_
  refine lv_iconst (v := nI 1) C.1 C.2.1 dJx4a65c_add_9ea2d_5 (by decide) ?_
  refine lv_iadd C.1 C.2.1 dJx4a65c_add_9ea2d_6 ?_
  refine q_putS C hW 0 rfl rfl 0 (by decide) gu_Jx4a65c tyJx4a65c_ok nmJx4a65c (C.2.2.2.2 _ fl_Jx4a65c_63) (u_same (C.2.2.2.2 _ w_122)) rfl rfl rfl (Nat.le_of_ble_eq_true rfl) ((h, .inr (2, [.int (alM a + nI 1), .ref (alQ a), .int (nI (alC a))])) :: (alQ a, .inl (g 3, alN a, .inr (.inr (.inr (.inr (alF a)))))) :: P) rfl dJx4a65c_add_9ea2d_7 (fun H locs hW => ?_)
  refine lv_aload_n C.1 C.2.1 dJx4a65c_add_9ea2d_10 rfl (lv_at hl 0 rfl) ?_
  refine lv_aload_n C.1 C.2.1 dJx4a65c_add_9ea2d_11 rfl (lv_at hl 1 rfl) ?_
  refine lv_aload_n C.1 C.2.1 dJx4a65c_add_9ea2d_12 rfl (lv_at hl 0 rfl) ?_
  refine q_get (v := .ref (alQ a)) C hW 0 rfl rfl 1 (by decide) gu_Jx4a65c (C.2.2.2.2 _ fl_Jx4a65c_9) rfl rfl dJx4a65c_add_9ea2d_13 ?_
  refine lv_aload_n C.1 C.2.1 dJx4a65c_add_9ea2d_16 rfl (lv_at hl 0 rfl) ?_
  refine q_get (v := .int (nI (alC a))) C hW 0 rfl rfl 2 (by decide) gu_Jx4a65c (C.2.2.2.2 _ fl_Jx4a65c_48) rfl rfl dJx4a65c_add_9ea2d_17 ?_
  by_cases hcn : alC a < alN a
  · refine qe_callVv (rest := []) C hE (c_add3N l D g ev h (alQ a) (alN a) (alF a) (alM a + nI 1) (alC a) hcn (by omega) P v kv fs hv _) (gw_V ml_Jx4a65c_131 im_Jx4a65c_add_72be8 se_Jx4a65c_Jx4a65c_add_72be8 ini_Jx4a65c cd_Jx4a65c_add_72be8 rfl) rfl rfl rfl hd_add3 ⟨(Nat.le_of_ble_eq_true rfl), (Nat.le_of_ble_eq_true rfl)⟩ hW pm_all (fun _ => (h, .inr (2, [.int (alM a + nI 1), .ref (alQ a), .int (nI (alC a + 1))])) :: (alQ a, .inl (g 3, alN a, .inr (.inr (.inr (.inr (va_up (alF a) (alC a) (some v))))))) :: P) (fun _ => pm_all) rfl rfl hl.1 rfl (Nat.le_of_ble_eq_true rfl) ⟨(Nat.le_of_ble_eq_true rfl), (Nat.le_of_ble_eq_true rfl)⟩ dJx4a65c_add_9ea2d_20 (fun r H locs _ hW => ?_)
    refine lv_iconst (v := nI 1) C.1 C.2.1 dJx4a65c_add_9ea2d_23 (by decide) ?_
    refine q_iret C hRt hLk hW (by decide) (alQ a, alN a, va_up (alF a) (alC a) (some v), alM a + nI 1, alC a + 1) ⟨rfl, ?_⟩ (by rw [wAL_mk (by omega)]; rfl) (Nat.le_of_ble_eq_true rfl) (Nat.le_of_ble_eq_true rfl) dJx4a65c_add_9ea2d_24
    exact ⟨⟨fun h9 => absurd h9 hz, hcn, fun _ => hA2, hA3⟩, rfl, fun i hi => va_up_ne _ _ (by omega), va_up_self _ _ _⟩
  have hcn2 : alC a = alN a := by omega
  rw [hcn2] at hW
  rw [hcn2]
  refine qe_callVv (rest := []) C hE (c_add3G l D g ev h (alQ a) (alN a) (alF a) (alM a + nI 1) (by omega) (by omega) P v kv fs hv (by rw [← hcn2]; exact hP) _) (gw_V ml_Jx4a65c_131 im_Jx4a65c_add_72be8 se_Jx4a65c_Jx4a65c_add_72be8 ini_Jx4a65c cd_Jx4a65c_add_72be8 rfl) rfl rfl rfl hd_add3 ⟨(Nat.le_of_ble_eq_true rfl), (Nat.le_of_ble_eq_true rfl)⟩ hW pm_all (fun r => (h, .inr (2, [.int (alM a + nI 1), .ref r, .int (nI (alN a + 1))])) :: (r, .inl (g 3, (alN a + alN a / 2), .inr (.inr (.inr (.inr (va_up (va_cpy (alF a) (fun _ => none) 0 0 (alN a)) (alN a) (some v))))))) :: P) (fun _ => pm_all) rfl rfl hl.1 rfl (Nat.le_of_ble_eq_true rfl) ⟨(Nat.le_of_ble_eq_true rfl), (Nat.le_of_ble_eq_true rfl)⟩ dJx4a65c_add_9ea2d_20 (fun r H locs _ hW => ?_)
  refine lv_iconst (v := nI 1) C.1 C.2.1 dJx4a65c_add_9ea2d_23 (by decide) ?_
  refine q_iret C hRt hLk hW (by decide) (r, alN a + alN a / 2, va_up (va_cpy (alF a) (fun _ => none) 0 0 (alN a)) (alN a) (some v), alM a + nI 1, alN a + 1) ⟨rfl, ?_⟩ (by rw [wAL_mk (by omega)]; rfl) (Nat.le_of_ble_eq_true rfl) (Nat.le_of_ble_eq_true rfl) dJx4a65c_add_9ea2d_24
  refine ⟨⟨fun h9 => absurd (show alN a + alN a / 2 = 0 from h9) (by omega), show alN a + 1 ≤ alN a + alN a / 2 by omega, fun _ => show 10 ≤ alN a + alN a / 2 by omega, show alN a + alN a / 2 ≤ 1000 by omega⟩, show alN a + 1 = alC a + 1 by omega, fun i hi => ?_, by rw [hcn2]; exact va_up_self _ _ _⟩
  show va_up (va_cpy (alF a) (fun _ => none) 0 0 (alN a)) (alN a) (some v) i = alF a i
  rw [va_up_ne _ _ (by omega), pk_cpy_in (by omega) (by omega)]
  rw [Nat.sub_zero, Nat.zero_add]
