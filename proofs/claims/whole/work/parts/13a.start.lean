/-! The law: its start, its loop. -/
theorem gu_J0 : ∀ z ∈ u_ws RJ0 TJ0 2, z ∈ lw_tbl := by decide +kernel
theorem gu_Jx00060 : ∀ z ∈ u_ws RJx00060 TJx00060 6, z ∈ lw_tbl := by decide +kernel
theorem mem_str : ∀ q ∈ qSs, (Cond.stringRef RX3 q.1 q.2 : Cond) ∈ lw_tbl := by decide +kernel
abbrev w00 : Cond := .laysStatic "java/util/ArrayList" "DEFAULTCAPACITY_EMPTY_ELEMENTDATA" "[Ljava/lang/Object;"
theorem arr_of {A : Array Value} {s : State} {ty : FieldType} (h : (Cond.arrayClass ty).before A s = true) : ∃ cA, ArrOfT s cA ty ∧ s.vm.findClass ("[" ++ ty.toString) = some cA := by
  obtain ⟨c, k, comp, h1, h2, h3⟩ := Cond.arrayClass_spec h
  exact ⟨c, fun n z => ⟨fun k h => (by cases h), k, h2, comp, h3⟩, h1⟩
theorem arr_ob {A : Array Value} {s : State} (h : (Cond.arrayOver (.object "java/lang/Object")).before A s = true) : ∃ cA, ArrOfT s cA (.object "java/lang/Object") ∧ va_RA s cA (.object "java/lang/Object") := by
  obtain ⟨comp, c, k, h1, -, h2, h3, h4⟩ := Cond.arrayOver_spec h
  exact ⟨c, fun n z => ⟨fun k h => (by cases h), k, h2, comp, h3⟩, k, comp, h2, h3, h1, h4⟩
theorem em_of {A : Array Value} {s : State} {t : Term} {z : Nat} {ty : FieldType} {cell : Cell} (ht : t.eval A s none [] s = some (.ref z)) (hc : s.heap[z]? = some cell) (h1 : (Cond.arrayOf t ty).before A s = true) (h2 : (Cond.eq (.length t) (.int 0)).before A s = true) : q_em z s s.heap := by
  obtain ⟨g1, -⟩ := Cond.arrayOf_spec h1 ht hc
  refine ⟨cell, ty, hc, g1, ?_⟩
  cases hv : (Term.length t).eval A s none [] s with
  | none => simp [Cond.before, Cond.holds, Cond.value, hv] at h2
  | some v =>
    obtain ⟨a, cell2, e1, e2, rfl⟩ := Term.length_spec hv
    cases ht.symm.trans e1
    cases hc.symm.trans (State.arrayAt?_spec e2).1
    have h3 := Cond.eq_ints (first := s) (o := none) (idx := []) hv (show (Term.int 0).eval A s none [] s = some (.int 0) from rfl)
    simp only [Cond.before, Cond.holds, h3] at h2
    have h4 : cell.slots.size.toInt32 = 0 := by simpa using h2
    rw [nI_0]
    exact h4
/-- what the law's walk stands on, out of the tables and the premise -/
theorem lw_K {b : Nat} {s : State} (hts : ∀ w ∈ lw_tbl, w.before #[Value.ref b] s = true) : ∃ (D : va_G) (g : Nat → ClassId), va_K D vwCl (tyA g) s := by
  have hT : ∀ w ∈ w00 :: GW, w.before #[Value.ref b] s = true := fun w hw => (List.mem_cons.mp hw).elim (fun e => by rw [e]; exact hts _ n_117) (fun h => hts w (List.mem_filter.mp h).1)
  obtain ⟨c0, i0, k0⟩ := u_known (C := RJ0) (T := TJ0) (N := 2) (n := 4) hts gu_J0 (hT _ inst_J0)
  obtain ⟨c1, i1, k1⟩ := u_known (C := RJx00060) (T := TJx00060) (N := 6) (n := 6) hts gu_Jx00060 (hT _ inst_Jx00060)
  obtain ⟨c2, i2, k2⟩ := u_known (C := RJx4a65c) (T := TJx4a65c) (N := 3) (n := 3) hT gu_Jx4a65c (hT _ inst_Jx4a65c)
  obtain ⟨c3, i3, k3⟩ := u_known (C := RX0) (T := TX0) (N := 11) (n := 11) hT gu_X0 (hT _ inst_X0)
  obtain ⟨c4, i4, k4⟩ := u_known (C := RX1) (T := TX1) (N := 6) (n := 6) hT gu_X1 (hT _ inst_X1)
  obtain ⟨c5, i5, k5⟩ := u_known (C := RX2) (T := TX2) (N := 4) (n := 4) hT gu_X2 (hT _ inst_X2)
  obtain ⟨c6, i6, k6⟩ := u_known (C := RX3) (T := TX3) (N := 5) (n := 5) hT gu_X3 (hT _ inst_X3)
  obtain ⟨c7, i7, k7⟩ := u_known (C := RX4) (T := TX4) (N := 21) (n := 21) hT gu_X4 (hT _ inst_X4)
  obtain ⟨a0, p0, q0⟩ := arr_of (hT _ ac_102)
  obtain ⟨a1, p1, q1⟩ := arr_of (hT _ ac_53)
  obtain ⟨a2, p2, q2⟩ := arr_of (hT _ ac_103)
  obtain ⟨a3, p3, q3⟩ := arr_ob (hts _ n_677)
  obtain ⟨a4, p4, q4⟩ := arr_of (hT _ ac_1201)
  obtain ⟨a5, p5, q5⟩ := arr_of (hT _ ac_1202)
  refine ⟨(fun k => match k with | 0 => c0 | 1 => c1 | 2 => c2 | 3 => c3 | 4 => c4 | 5 => c5 | 6 => c6 | _ => c7, fun k => match k with | 0 => i0 | 1 => i1 | 2 => i2 | 3 => i3 | 4 => i4 | 5 => i5 | 6 => i6 | _ => i7), fun k => match k with | 0 => a0 | 1 => a1 | 2 => a2 | 3 => a3 | 4 => a4 | _ => a5, ?_, ?_⟩
  · intro k q hq
    match k, hq with
    | 0, hq => cases hq; exact k0
    | 1, hq => cases hq; exact k1
    | 2, hq => cases hq; exact k2
    | 3, hq => cases hq; exact k3
    | 4, hq => cases hq; exact k4
    | 5, hq => cases hq; exact k5
    | 6, hq => cases hq; exact k6
    | 7, hq => cases hq; exact k7
    | k + 8, hq => cases hq
  · intro k q hq
    match k, hq with
    | 0, hq => cases hq; exact ⟨p0, q0⟩
    | 1, hq => cases hq; exact ⟨p1, q1⟩
    | 2, hq => cases hq; exact ⟨p2, q2⟩
    | 3, hq => cases hq; exact ⟨p3, q3⟩
    | 4, hq => cases hq; exact ⟨p4, q4⟩
    | 5, hq => cases hq; exact ⟨p5, q5⟩
    | k + 6, hq => cases hq
theorem lw_FS {b : Nat} {s : State} (hts : ∀ w ∈ lw_tbl, w.before #[Value.ref b] s = true) : qFS s :=
  ⟨va_Fw.of (hts (.declares xLsize) (by decide +kernel)) (hts (.interfaceMethod xLsize.cls xLsize.cls xLsize.name xLsize.desc) (by decide +kernel)) (hts (.publicMethod yJx4a65c_size_8abf5) (by decide +kernel)) (hts (.unhidden RJx4a65c xLsize.name xLsize.desc) (by decide +kernel)) (hts (.castable RJx4a65c xLsize.cls) (by decide +kernel)),
   va_Fw.of (hts (.declares xLget) (by decide +kernel)) (hts (.interfaceMethod xLget.cls xLget.cls xLget.name xLget.desc) (by decide +kernel)) (hts (.publicMethod yJx4a65c_get_915e3) (by decide +kernel)) (hts (.unhidden RJx4a65c xLget.name xLget.desc) (by decide +kernel)) (hts (.castable RJx4a65c xLget.cls) (by decide +kernel)),
   va_Fw.of (hts (.declares xLadd) (by decide +kernel)) (hts (.interfaceMethod xLadd.cls xLadd.cls xLadd.name xLadd.desc) (by decide +kernel)) (hts (.publicMethod yJx4a65c_add_9ea2d) (by decide +kernel)) (hts (.unhidden RJx4a65c xLadd.name xLadd.desc) (by decide +kernel)) (hts (.castable RJx4a65c xLadd.cls) (by decide +kernel)),
   va_Fw.of (hts (.declares xLemp) (by decide +kernel)) (hts (.interfaceMethod xLemp.cls xLemp.cls xLemp.name xLemp.desc) (by decide +kernel)) (hts (.publicMethod yJx4a65c_isEmpty_aae02) (by decide +kernel)) (hts (.unhidden RJx4a65c xLemp.name xLemp.desc) (by decide +kernel)) (hts (.castable RJx4a65c xLemp.cls) (by decide +kernel))⟩
