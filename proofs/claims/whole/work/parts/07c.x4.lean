theorem hd_X4_longer : yX4_longer.cls ≠ "java/lang/invoke/MethodHandle" ∧ yX4_longer.cls ≠ "java/lang/invoke/VarHandle" ∧ (parseMethodDescriptor yX4_longer.desc).map (fun d => d.parameters.length) = some 1 := by decide +kernel
set_option maxHeartbeats 4000000 in
set_option maxRecDepth 100000 in
theorem c_X4_longer (l : Launch) (D : va_G) (g : Nat → ClassId) (b : Nat) (n : Nat) (f : Nat → Nat) (hn : n ≤ 512) (sz : Nat) : qMr l yX4_longer (.code yX4_longer cX4_longer 3 (some (.array .int)) :: GW) ({ frames := 0, cells := 1, slots := 1024, locals := 0 } : Room) D g [.ref b] [(b, .inl (g 1, n, .inl (aN f)))] sz (fun (_ : Unit) => True) (fun (_ : Unit) (q : Nat) => [(b, .inl (g 1, n, .inl (aN f))), (q, .inl (g 1, 2 * n, .inl (aN (growN f n))))]) 1 1024 := by
  refine q_entry (cc := cX4_longer) (nL := 3) (ret := (some (.array .int))) rfl (by decide) (Nat.le_of_ble_eq_true rfl) (fun pp ee ss mm bb mt kc ls C hRt hLk hin hsz hW hl => ?_)
  have hl : lv_has ls 3 [(0, .ref b)] := hl
  refine lv_iconst (v := nI 2) C.1 C.2.1 dX4_longer_0 (by decide) ?_
  refine lv_aload_n C.1 C.2.1 dX4_longer_1 rfl (lv_at hl 0 rfl) ?_
  refine q_alen C hW 0 1 rfl rfl dX4_longer_2 ?_
  refine q_imul C dX4_longer_3 ?_
  refine q_newaV (atype := .int) C hW rfl 1 rfl (fun _ _ h9 => h9) (C.2.2.2.2 _ ac_53) 1 1024 (2 * n, .inl (aN (fun _ => 0))) (fun _ => rfl) (by omega) (by decide) (Nat.le_of_ble_eq_true rfl) (by first | (show _ ≤ 1024; omega) | omega) (Nat.le_of_ble_eq_true rfl) (by omega) dX4_longer_4 (fun q_4 H hW => ?_)
  have hW : qW D g (va_A [(b, .inl (g 1, n, .inl (aN f)))] sz) ss.heap ss [(b, .inl (g 1, n, .inl (aN f))), (q_4, .inl (g 1, 2 * n, .inl (aN (fun _ => 0))))] H _ := hW
  refine lv_astore_n (lv' := [(1, .ref q_4), (0, .ref b)]) C.1 C.2.1 dX4_longer_6 rfl hl (by decide) rfl (fun ls hl => ?_)
  refine lv_iconst (v := nI 0) C.1 C.2.1 dX4_longer_7 (by decide) ?_
  refine lv_istore_n (lv' := [(2, .int (nI 0)), (1, .ref q_4), (0, .ref b)]) C.1 C.2.1 dX4_longer_8 rfl hl (by decide) rfl (fun ls hl => ?_)
  have L_9 : ∀ (nf : Nat) (i : Nat) (hi : i ≤ n) (x2 : Int32) (e2 : x2 = nI i) (hmu : n - i < nf) (ls : Array Slot) (H : Heap) (locs : List Loc), lv_has ls 3 [(1, .ref q_4), (0, .ref b), (2, .int x2)] → qW D g (va_A [(b, .inl (g 1, n, .inl (aN f)))] sz) ss.heap ss [(b, .inl (g 1, n, .inl (aN f))), (q_4, .inl (g 1, 2 * n, .inl (aN (growN f i))))] H locs → W pp l ee ({ frames := 0, cells := 1, slots := 1024, locals := 0 } : Room) ss mm [.ref b].toArray bb mt kc H locs 1 1024 (MQ bb (va_Qr (fun (_ : Unit) => True) (fun u a t => qB D g [(b, .inl (g 1, n, .inl (aN f)))] sz (fun v => (fun (_ : Unit) (q : Nat) => [(b, .inl (g 1, n, .inl (aN f))), (q, .inl (g 1, 2 * n, .inl (aN (growN f n))))]) v a) u t) (va_A [(b, .inl (g 1, n, .inl (aN f)))] sz)) [.ref b].toArray ss 1 1024 (va_A [(b, .inl (g 1, n, .inl (aN f)))] sz)) (F0 mm 9 ls []) := by
    intro nf
    induction nf with
    | zero =>
      intro i hi x2 e2 hmu ls H locs hl hW
      exact absurd hmu (by omega)
    | succ nf ih =>
      intro i hi x2 e2 hmu ls H locs hl hW
      subst e2
      refine lv_iload_n C.1 C.2.1 dX4_longer_9 rfl (lv_at hl 2 rfl) ?_
      refine lv_aload_n C.1 C.2.1 dX4_longer_10 rfl (lv_at hl 1 rfl) ?_
      refine q_alen C hW 0 1 rfl rfl dX4_longer_11 ?_
      refine q_ge (tgt := 27) C (by omega) (by omega) dX4_longer_12 (by decide) (fun c_12 => ?_) (fun c_12 => ?_)
      · refine lv_aload_n C.1 C.2.1 dX4_longer_27 rfl (lv_at hl 0 rfl) ?_
        obtain rfl : i = n := (by omega)
        exact q_rret C hRt (Or.inr ⟨_, rfl⟩) hLk hW () trivial rfl (Nat.le_of_ble_eq_true rfl) (Nat.le_of_ble_eq_true rfl) dX4_longer_28
      refine lv_aload_n C.1 C.2.1 dX4_longer_15 rfl (lv_at hl 0 rfl) ?_
      refine lv_iload_n C.1 C.2.1 dX4_longer_16 rfl (lv_at hl 2 rfl) ?_
      refine lv_aload_n C.1 C.2.1 dX4_longer_17 rfl (lv_at hl 1 rfl) ?_
      refine lv_iload_n C.1 C.2.1 dX4_longer_18 rfl (lv_at hl 2 rfl) ?_
      refine q_ialdN (f := f) C hW 0 rfl (k := i) (by omega) (by omega) dX4_longer_19 ?_
      refine q_iastN C hW 1 rfl (k := i) (by omega) (by omega) (v := (f i)) [(b, .inl (g 1, n, .inl (aN f))), (q_4, .inl (g 1, 2 * n, .inl (aN (va_up (growN f i) i (f i)))))] rfl dX4_longer_20 (fun H locs hW => ?_)
      refine q_iinc (d := 1) (lv' := [(2, .int (nI (i + 1))), (1, .ref q_4), (0, .ref b)]) C dX4_longer_21 (by decide) hl (k := 2) rfl (by decide) rfl (fun ls hl => ?_)
      refine lv_goto (tgt := 9) C.1 C.2.1 dX4_longer_24 (by decide) ?_
      exact ih (i + 1) (by omega) _ rfl (by omega) ls _ _ (lv_sub hl [1, 2, 0] rfl) (by rw [← growN_s f i]; exact hW)
  exact L_9 (n - 0 + 1) 0 (by omega) _ rfl (by omega) ls _ _ (lv_sub hl [1, 2, 0] rfl) (by rw [← growN_0 f]; exact hW)
