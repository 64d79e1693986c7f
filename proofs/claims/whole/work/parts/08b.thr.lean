abbrev nsN : String := "java/util/NoSuchElementException"
abbrev rtN : String := "java/lang/RuntimeException"
abbrev exN : String := "java/lang/Exception"
abbrev nsCode : ByteArray := prog_28_method_4_code
theorem nsd_0 : decode nsCode 0 = .ok (.aload_n 0, 1) := by decide +kernel
theorem nsd_1 : decode nsCode 1 = .ok (.aload_n 1, 1) := by decide +kernel
theorem nsd_2 : decode nsCode 2 = .ok (.invokespecial 13, 3) := by decide +kernel
theorem nsd_5 : decode nsCode 5 = .ok (.return_, 1) := by decide +kernel
/-- the words of the class alone -/
def nsOwn : List Cond := [.methodLink RX3 107 (Bundle.initS nsN), .instantiable nsN 6, .castable nsN nsN, .selects nsN Bundle.tFill0 Bundle.tFill0, .selects nsN Bundle.tFill Bundle.tFill, .lays nsN Bundle.tN "cause" "Ljava/lang/Throwable;", .lays nsN Bundle.tN "stackTrace" Bundle.steD, .lays nsN Bundle.tN "suppressedExceptions" Bundle.listD, .lays nsN Bundle.tN "detailMessage" "Ljava/lang/String;", .fieldLink Bundle.tN 198 Bundle.tN "backtrace" "Ljava/lang/Object;", .lays Bundle.tN Bundle.tN "backtrace" "Ljava/lang/Object;", .lays nsN Bundle.tN "backtrace" "Ljava/lang/Object;"]
def nsAll : List Cond := (Bundle.throwableAtoms ++ Bundle.throwableSAtoms) ++ (Bundle.passSAtoms nsN rtN 13 nsCode ++ (Bundle.chainSAtoms rtN [exN] ++ nsOwn))
section NSC
variable {p : Program} {l : Launch} {e : Env} {R : Room} {s : State} {m₀ : MethodId} {args : Array Value} {below : List Frame} {meth : Method} {c : Code} {W0 : State} {locs : List Loc} {cells slots : Nat}
set_option maxHeartbeats 4000000 in
theorem ns_ctor (X : Stand p l e R s m₀ args below meth c W0 locs cells slots) (hexec : p.tables.exec = Jvm.exec) (htr : e.platform.stackTraces = false) (hown : s.vm.findClass RX3 = some m₀.cls)
    (h : ∀ a ∈ nsAll, a.before args s = true) (hU : (Cond.isRef (.static Bundle.tN "UNASSIGNED_STACK" Bundle.steD)).before args s = true) (hN : (Cond.isRef (.static Bundle.tN "SUPPRESSED_SENTINEL" Bundle.listD)).before args s = true)
    {a : Addr} {cX : ClassId} {kX : Class} (hfoundX : s.vm.findClass nsN = some cX) (hkX : s.vm.classes[cX]? = some kX) (hcell : W0.heap[a]? = some (freshCell cX kX)) (hnew : s.heap.size ≤ a) (hlocs : locs = [])
    {msg : Value} (hmsg : msg.isRef = true) {g : JFrame} (hg : g.method = m₀) (hsize : g.locals.size = c.maxLocals) (hlocked : g.locked = none) (hentered : g.entered = []) {rest : List Value} (hstack : g.stack = msg :: .ref a :: .ref a :: rest)
    (hd6 : decode c.code g.pc = .ok (.invokespecial 107, 3)) (hd9 : decode c.code (g.pc + 3) = .ok (.athrow, 1)) (hout : ∀ x ∈ c.exceptionTable.toList, covers x (g.pc + 3) = false)
    (hRframes : 5 < R.frames) (hRlocals : 2 * g.monitorRoom + ((Value.ref a :: rest).map fun v => v.category).sum + 81 ≤ R.locals) (hlocks : meth.locks = false) :
    ∃ U : State, Steps p.tables e below (W0.setTop g) U ∧ U.status = .running ∧ Ended U below (.threw a) ∧ s.WarmedH U.vm ∧ s.sameButNew ({ U with vm := s.vm } : State) locs cells slots ∧ ∃ ce, U.heap[a]? = some ce ∧ ce.cls = cX ∧ ce.vm = .none := by
  have howns : e.platform.frameOwnsMonitors = true := by rw [X.admits.platform]
  have hfin : e.platform.finalization = false := by rw [X.admits.platform]
  have hpl : e.platform.magicAccessors = ({} : Platform).magicAccessors := by rw [X.admits.platform]
  have hT : ∀ x ∈ Bundle.throwableAtoms ++ Bundle.throwableSAtoms, x.before args s = true := fun x hx => h x (List.mem_append_left _ hx)
  have hP : ∀ x ∈ Bundle.passSAtoms nsN rtN 13 nsCode, x.before args s = true := fun x hx => h x (List.mem_append_right _ (List.mem_append_left _ hx))
  have hR : ∀ x ∈ Bundle.chainSAtoms rtN [exN], x.before args s = true := fun x hx => h x (List.mem_append_right _ (List.mem_append_right _ (List.mem_append_left _ hx)))
  have hO : ∀ x ∈ nsOwn, x.holds args s none s [] = true := fun x hx => h x (List.mem_append_right _ (List.mem_append_right _ (List.mem_append_right _ hx)))
  obtain ⟨T, Z0, L, -, Y⟩ := ThrowableC.of_atoms (args := args) howns hfin hpl (fun x hx => hT x (List.mem_append_left _ hx))
  obtain ⟨Z, M, LZ, LM, hnZ⟩ := Init0T.ofS_atoms (args := args) hpl L Y (fun x hx => hT x (List.mem_append_right _ hx))
  obtain ⟨P1, L1, hP1m, hs1⟩ := PassC.ofS_atoms (args := args) (s := s) hpl (X := nsN) (Y := rtN) (by decide) (by decide) nsd_0 nsd_1 nsd_2 nsd_5 hP
  obtain ⟨P2, Ps, hlen, L2, hL, hP2m, hlink1, hlink⟩ := Bundle.chainS (args := args) hpl hnZ [exN] rtN (by decide) (by decide) hR
  have oK : ∀ {w : Cond} (i : Nat), nsOwn[i]? = some w → w.holds args s none s [] = true := fun i e => hO _ (List.mem_of_getElem? e)
  have hfound : s.vm.findClass nsN = some P1.m.cls := findClass_of_methodNamed hP1m
  cases Option.some.inj (hfoundX.symm.trans hfound)
  obtain ⟨c1, kX', hc1, hk, hord, -, -, hn6⟩ := Cond.instantiable_spec (oK (w := .instantiable nsN 6) 1 rfl)
  cases Option.some.inj (hc1.symm.trans hfound)
  cases Option.some.inj (hkX.symm.trans hk)
  have hsel0 : selectMethod e.platform s.vm P1.m.cls T.fill0 = .method T.fill0 := by
    obtain ⟨c2, r2, m2, q1, q2, q3, q4, -⟩ := Cond.selects_spec (oK (w := .selects nsN Bundle.tFill0 Bundle.tFill0) 3 rfl)
    cases Option.some.inj (q1.symm.trans hfound)
    cases Option.some.inj (q2.symm.trans (State.methodFound?_of_named Y.fill0 (by decide)))
    cases Option.some.inj (q3.symm.trans Y.fill0)
    rw [Launch.admits_selectMethod X.admits]; exact q4
  have hselF : selectMethod e.platform s.vm P1.m.cls T.fill = .method T.fill := by
    obtain ⟨c2, r2, m2, q1, q2, q3, q4, -⟩ := Cond.selects_spec (oK (w := .selects nsN Bundle.tFill Bundle.tFill) 4 rfl)
    cases Option.some.inj (q1.symm.trans hfound)
    cases Option.some.inj (q2.symm.trans (State.methodFound?_of_named Y.fill (by decide)))
    cases Option.some.inj (q3.symm.trans Y.fill)
    rw [Launch.admits_selectMethod X.admits]; exact q4
  obtain ⟨cellS0, hcS0, hiss⟩ := Y.statics
  obtain ⟨u0, hu0⟩ := Cond.staticRefV Y.unassigned L.unassignedStatic L.statics hcS0 hiss hU
  obtain ⟨sen, hsen⟩ := Cond.staticRefV Y.sentinel L.sentinelStatic L.statics hcS0 hiss hN
  obtain ⟨ci198, i198, fB, hk198, hg198, ha198, hsB, -, hnB, htB, hffB⟩ := Cond.ownField (t := .object "java/lang/Object") Y.found L.cls (by decide +kernel) (oK (w := .fieldLink Bundle.tN 198 Bundle.tN "backtrace" "Ljava/lang/Object;") 9 rfl) (oK (w := .lays Bundle.tN Bundle.tN "backtrace" "Ljava/lang/Object;") 10 rfl) e.platform hpl
  obtain ⟨cellS, hcS', heS, -, hkeep⟩ := X.same.2.2.2.2.2 T.aS cellS0 hcS0
  have hcellS : W0.heap[T.aS]? = some cellS := hcS'
  have hout' : ∀ i, (⟨T.aS, i⟩ : Loc) ∉ locs := fun i hmem => by rw [hlocs] at hmem; cases hmem
  have hknownS : cellS.vm ≠ .unknown := by
    rw [heS]; intro hu
    rw [show cellS0.vm = .unknown from hu] at hiss
    cases hiss
  have hneS : T.aS ≠ a := Nat.ne_of_lt (Nat.lt_of_lt_of_le (Array.getElem?_eq_some_iff.mp hcS0).1 hnew)
  obtain ⟨iM, hffM⟩ := Y.msg
  obtain ⟨tyC, dC, hdC, hdnC⟩ := Cond.laysAt hfound hk Y.cause (oK (w := .lays nsN Bundle.tN "cause" "Ljava/lang/Throwable;") 5 rfl)
  obtain ⟨tyS, dS, hdS, hdnS⟩ := Cond.laysAt hfound hk Y.stack (oK (w := .lays nsN Bundle.tN "stackTrace" Bundle.steD) 6 rfl)
  obtain ⟨tyP, dP, hdP, hdnP⟩ := Cond.laysAt hfound hk Y.supp (oK (w := .lays nsN Bundle.tN "suppressedExceptions" Bundle.listD) 7 rfl)
  obtain ⟨tyM, dM, hdM, hdnM⟩ := Cond.laysAt hfound hk hffM (oK (w := .lays nsN Bundle.tN "detailMessage" "Ljava/lang/String;") 8 rfl)
  obtain ⟨tyB, dB, hdB, hdnB⟩ := Cond.laysAt hfound hk hffB (oK (w := .lays nsN Bundle.tN "backtrace" "Ljava/lang/Object;") 11 rfl)
  have bC := Cond.laysApart hdB hdC hdnB hdnC (by rw [hnB, Y.causeName]; decide)
  have bS := Cond.laysApart hdB hdS hdnB hdnS (by rw [hnB, Y.stackName]; decide)
  have bP := Cond.laysApart hdB hdP hdnB hdnP (by rw [hnB, Y.suppName]; decide)
  have hskip : SkipFacts T e.platform s (fun u => u) u0 ((preparedCellV T.toThrowableT (freshCell P1.m.cls kX) a u0 sen).withEntry W0.cur) :=
    ⟨{ ci198 := ci198, i198 := i198, fBack := fB }, ⟨hk198, hg198, ha198, hsB⟩, by
      have := fresh_default (c := P1.m.cls) tyB
      rw [htB] at this
      simpa [preparedCellV, Cell.setSlot, Cell.withEntry, Array.getElem?_setIfInBounds, bC, bS, bP, bC.symm, bS.symm, bP.symm, defaultValue] using this, fun _ _ => rfl⟩
  obtain ⟨tm, methC, cdC, kC, vm₁, hnC, -, -, -, -, -, -, -, hW₁, st1⟩ := Steps.initColdS (tb := p.tables) (e := e) (below := below) (s := s) (U := W0) X.here hexec X.warmed hpl hown (t := Bundle.initS nsN) rfl rfl (by decide)
    (oK (w := .methodLink RX3 107 (Bundle.initS nsN)) 0 rfl) (hP _ (List.mem_of_getElem? (i := 0) rfl)) (bytes := nsCode) (maxL := 2) (hP _ (List.mem_of_getElem? (i := 1) rfl))
    (f := g) hg (a := a) (msg := msg) (rest := .ref a :: rest) hstack hd6
  cases Option.some.inj (hnC.symm.trans hP1m)
  have X₁ := X.noted hW₁
  obtain ⟨vm₂, X₂, st2⟩ := X₁.ctorMessageOffV hexec (g := { g with stack := .ref a :: rest }) hg hsize T L Z LZ M LM (P1 :: P2 :: Ps)
    (fun P hP => by
      rcases List.mem_cons.mp hP with rfl | hP
      · exact L1
      · rcases List.mem_cons.mp hP with rfl | hP
        · exact L2
        · exact hL P hP) ⟨Option.some.inj (hs1.symm.trans hP2m), hlink1, hlink⟩ (u0 := u0) (sen := sen) (self := a) hmsg (cell := freshCell P1.m.cls kX) (cellS := cellS)
    hcell (fun _ => by simp) (by simp) rfl rfl hsel0 hselF hcellS hneS hknownS (by rw [hkeep _ (hout' _)]; exact hu0) (by rw [hkeep _ (hout' _)]; exact hsen)
    (Takes.of_laid hk hord tyC (by rw [Y.causeType]; rfl)) (Takes.of_laid hk hord tyS (by rw [Y.stackType]; exact fits_refV_array _ u0)) (Takes.of_laid hk hord tyP (by rw [Y.suppType]; exact fits_refV_object _ sen))
    (Takes.of_laid hk hord tyM (by rw [Y.msgType]; exact fits_refV_object _ ⟨msg, hmsg⟩)) Y.objLocals hskip htr [] hd6
    (by simp only [List.length_cons, hlen, List.length_nil]; omega) (by simp only [List.length_cons, hlen, List.length_nil]; exact hRlocals)
  obtain ⟨hwalk, hrun, hended, hWU, hsame⟩ := X₂.athrowLeaves hexec (g := { g with stack := .ref a :: rest, pc := g.pc + 3 }) hg hlocked hentered hout (a := a) (rest := rest) rfl hd9
  have hlt : a < ((W0.setVm vm₁).setVm vm₂).heap.size := (Array.getElem?_eq_some_iff.mp hcell).1
  have hUU := heapAt_setCell_self (s := (W0.setVm vm₁).setVm vm₂) (plainBareV T.toThrowableT (freshCell P1.m.cls kX) a u0 sen msg) hlt
  refine ⟨_, st1 _ (fun acts => ?_), hrun, hended, hWU, hsame.weaken (fun y hy hlt' => ?_) (Nat.le_refl _) (Nat.le_refl _), _, hUU, rfl, rfl⟩
  · rw [doInvoke_state]
    exact st2 _ hwalk
  · rcases List.mem_append.mp hy with h1 | h1
    · exact h1
    · exfalso
      have hb : y.base = a := by
        simp only [List.mem_cons, List.not_mem_nil, or_false] at h1
        rcases h1 with rfl | rfl | rfl | rfl | rfl <;> rfl
      rw [hb] at hlt'
      exact Nat.not_lt.mpr hnew hlt'
end NSC
/-! 'throw new' in the class: the words of the exceptions, a row for each class. NoSuchElementException's constructor calls on by another entry: its row follows the library's proof for the others, with the entry open. -/
section QTH
variable {p : Program} {l : Launch} {e : Env} {R : Room} {s : State} {m : MethodId} {args : Array Value} {below : List Frame} {meth : Method} {c : Code} {H : Heap} {locs : List Loc} {cells slots : Nat}
variable {cc : ByteArray} {nL : Nat} {c0 : Cond} {own : String} {D : va_G} {g : Nat → ClassId} {ev : Nat × Nat × (Nat → Nat)} {w w0 : va_W} {pc sz mc ms : Nat} {ls : Array Slot}
theorem no_n {P : Cond → Prop} : ∀ w' ∈ ([] : List Cond), vx_no w' = false ∨ P w' := fun _ h => nomatch h
theorem no_c {P : Cond → Prop} {w : Cond} {B : List Cond} (h : vx_no w = false ∨ P w) (t : ∀ w' ∈ B, vx_no w' = false ∨ P w') : ∀ w' ∈ w :: B, vx_no w' = false ∨ P w' := fun w' h' => (List.mem_cons.mp h').elim (fun e => by rw [e]; exact h) (t w')
theorem no_a {P : Cond → Prop} {A B : List Cond} (h : ∀ w' ∈ A, vx_no w' = false ∨ P w') (t : ∀ w' ∈ B, vx_no w' = false ∨ P w') : ∀ w' ∈ A ++ B, vx_no w' = false ∨ P w' := fun w' h' => (List.mem_append.mp h').elim (h w') (t w')
theorem no_f {P : Cond → Prop} {L : List Cond} (h : ∀ w' ∈ L, vx_no w' = false ∨ P w') : ∀ w' ∈ L.filter vx_no, P w' := fun w' h' => (h w' (List.mem_filter.mp h').1).elim (fun e => by rw [(List.mem_filter.mp h').2] at e; cases e) id
theorem at_T (C : CallFix p m c cc nL s args (c0 :: GW) own) (hw : qTW s) : ∀ w ∈ Bundle.throwableAtoms ++ Bundle.throwableSAtoms, vx_no w = false ∨ w.before args s = true := by
  refine no_a ?_ ?_
  · exact no_c (Or.inr (C.2.2.2.2 _ ini_Throwable)) (no_c (Or.inr (C.2.2.2.2 _ w_309)) (no_c (Or.inr (C.2.2.2.2 _ im_Throwable_fillInStackTrace_9280)) (no_c (Or.inr (C.2.2.2.2 _ w_326)) (no_c (Or.inr (C.2.2.2.2 _ im_Throwable_fillInStackTrace_1602)) (no_c (Or.inr (C.2.2.2.2 _ nt_Throwable_fillInStackTrace_1602)) (no_c (Or.inr (C.2.2.2.2 _ im_Throwable_init_0751)) (no_c (Or.inr (C.2.2.2.2 _ cd_Throwable_init_0751)) (no_c (Or.inr (C.2.2.2.2 _ im_objectInit)) (no_c (Or.inr (C.2.2.2.2 _ cd_objectInit)) (no_c (Or.inr (C.2.2.2.2 _ ml_Throwable_1)) (no_c (Or.inr (C.2.2.2.2 _ ml_Throwable_27)) (no_c (Or.inr (C.2.2.2.2 _ ml_Throwable_202)) (no_c (Or.inr (C.2.2.2.2 _ fl_Throwable_7)) (no_c (Or.inr (C.2.2.2.2 _ w_299)) (no_c (Or.inr (C.2.2.2.2 _ fl_Throwable_17)) (no_c (Or.inr (C.2.2.2.2 _ w_301)) (no_c (Or.inr (C.2.2.2.2 _ fl_Throwable_24)) (no_c (Or.inr (C.2.2.2.2 _ w_303)) (no_c (Or.inr (C.2.2.2.2 _ fl_Throwable_13)) (no_c (Or.inl (by decide +kernel)) (no_c (Or.inr (C.2.2.2.2 _ fl_Throwable_20)) (no_c (Or.inl (by decide +kernel)) (no_c (Or.inr (C.2.2.2.2 _ w_305)) (no_n))))))))))))))))))))))))
  · exact no_c (Or.inr (C.2.2.2.2 _ im_Throwable_init_3230)) (no_c (Or.inr (C.2.2.2.2 _ cd_Throwable_init_3230)) (no_c (Or.inr (C.2.2.2.2 _ fl_Throwable_31)) (no_c (Or.inr (C.2.2.2.2 _ w_305)) (no_n))))
theorem at_R (C : CallFix p m c cc nL s args (c0 :: GW) own) (hw : qTW s) : ∀ w ∈ Bundle.chainSAtoms "java/lang/RuntimeException" ["java/lang/Exception"], vx_no w = false ∨ w.before args s = true := by
  refine no_a (A := Bundle.passSAtoms "java/lang/RuntimeException" "java/lang/Exception" 7 Bundle.six) (B := Bundle.passSAtoms "java/lang/Exception" Bundle.tN 7 Bundle.six) ?_ ?_
  · exact no_c (Or.inr (C.2.2.2.2 _ im_RuntimeException_init_3230)) (no_c (Or.inr (C.2.2.2.2 _ cd_RuntimeException_init_3230)) (no_c (Or.inr (C.2.2.2.2 _ ml_RuntimeException_7)) (no_c (Or.inr (C.2.2.2.2 _ im_Exception_init_3230)) (no_c (Or.inr (qTW.use hw n_293 rfl)) (no_n)))))
  · exact no_c (Or.inr (C.2.2.2.2 _ im_Exception_init_3230)) (no_c (Or.inr (C.2.2.2.2 _ cd_Exception_init_3230)) (no_c (Or.inr (C.2.2.2.2 _ ml_Exception_7)) (no_c (Or.inr (C.2.2.2.2 _ im_Throwable_init_3230)) (no_c (Or.inr (qTW.use hw n_295 rfl)) (no_n)))))
/-- behind a throw: the world is as it was -/
theorem q_xw (hW : qW D g (va_A w0 sz) s.heap s w H locs) {S : Type} {px : String → S → Prop} {w' : S → va_W} {E : String} (u : S) (hpx : px E u) (hw : w = w' u) {t : State} (hal : s.vm.Alike t.vm) (hz : H.size ≤ t.heap.size) (hk : ∀ q : Nat, q < H.size → t.heap[q]? = H[q]?) : qXX D g w0 sz px w' E s t := by
  subst hw
  exact ⟨u, trivial, ⟨hpx, q_Pmem.mpr fun q hq => (q_Pmem.mp hW.1 q hq).kept (hk _ (q_Pmem.mp hW.1 q hq).lt), va_K.moved hal hW.2.1, hW.2.2.1⟩, Nat.le_trans hW.2.2.2.1.1 hz, fun q h1 h2 => by rw [hk q (Nat.lt_of_lt_of_le h1 hW.2.2.2.1.1)]; exact hW.2.2.2.1.2.1 q h1 h2⟩
theorem at_IAE (C : CallFix p m c cc nL s args (c0 :: GW) own) (hw : qTW s) : ∀ w ∈ vx_atS RX3 40 "java/lang/IllegalArgumentException" ["java/lang/RuntimeException", "java/lang/Exception"], w.before args s = true := by
  refine no_f (no_a (no_a (at_T C hw) (no_a (A := Bundle.passSAtoms "java/lang/IllegalArgumentException" "java/lang/RuntimeException" 7 Bundle.six) (B := Bundle.chainSAtoms "java/lang/RuntimeException" ["java/lang/Exception"]) ?_ (at_R C hw))) ?_)
  · exact no_c (Or.inr (C.2.2.2.2 _ im_IllegalArgumentException_init_3230)) (no_c (Or.inr (C.2.2.2.2 _ cd_IllegalArgumentException_init_3230)) (no_c (Or.inr (C.2.2.2.2 _ ml_IllegalArgumentException_7)) (no_c (Or.inr (C.2.2.2.2 _ im_RuntimeException_init_3230)) (no_c (Or.inr (qTW.use hw n_291 rfl)) (no_n)))))
  · exact no_c (Or.inr (C.2.2.2.2 _ ml_X3_40)) (no_c (Or.inr (C.2.2.2.2 _ inst_IllegalArgumentException)) (no_c (Or.inr (qTW.use hw n_289 rfl)) (no_c (Or.inr (C.2.2.2.2 _ se_IllegalArgumentException_Throwable_fillInStackTrace_1602)) (no_c (Or.inr (C.2.2.2.2 _ se_IllegalArgumentException_Throwable_fillInStackTrace_9280)) (no_c (Or.inr (C.2.2.2.2 _ w_298)) (no_c (Or.inr (C.2.2.2.2 _ w_300)) (no_c (Or.inr (C.2.2.2.2 _ w_302)) (no_c (Or.inr (C.2.2.2.2 _ w_304)) (no_c (Or.inl (by decide +kernel)) (no_c (Or.inl (by decide +kernel)) (no_c (Or.inr (C.2.2.2.2 _ fl_Throwable_198)) (no_c (Or.inr (C.2.2.2.2 _ w_307)) (no_c (Or.inr (C.2.2.2.2 _ w_306)) (no_n))))))))))))))
set_option maxRecDepth 100000 in
theorem ot_IAE : ∀ w ∈ Cond.classLink RX3 36 "java/lang/IllegalArgumentException" :: Cond.initialized "java/lang/IllegalArgumentException" :: vx_atS RX3 40 "java/lang/IllegalArgumentException" ["java/lang/RuntimeException", "java/lang/Exception"], vx_ot w = true := by decide +kernel
theorem q_thrIAE (C : CallFix p m c cc nL s args (c0 :: GW) RX3) (hst : l.stackTraces = false) (hE : qE D g ev (va_A w0 sz) s s.heap) (hW : qW D g (va_A w0 sz) s.heap s w H locs) (hlk : meth.locks = false) (hnt : ∀ x ∈ c.exceptionTable.toList, False) (hls : ls.size = nL) {is : Nat} {text : String} (hq : (is, text) ∈ qSs)
    (d0 : decode cc pc = .ok (.new 36, 3)) (d3 : decode cc (pc + 3) = .ok (.dup, 1)) (d4 : decode cc (pc + 4) = .ok (.ldc is, 2)) (d6 : decode cc (pc + 6) = .ok (.invokespecial 40, 3)) (d9 : decode cc (pc + 9) = .ok (.athrow, 1))
    (hR : 6 ≤ R.frames ∧ 90 ≤ R.locals ∧ cells + 1 ≤ R.cells ∧ slots + 6 ≤ R.slots) (hc : cells + 1 ≤ mc) (hs : slots + 6 ≤ ms) {Qc : Array Value → State → Outcome → State → Prop} {S : Type} {px : String → S → Prop} {w' : S → va_W} (u : S) (hpx : px "java/lang/IllegalArgumentException" u) (hw : w = w' u) :
    W p l e R s m args below meth c H locs cells slots (vx_MQ below Qc (qXX D g w0 sz px w') args s mc ms (va_A w0 sz)) (F0 m pc ls []) :=
  vx_throwS C.1 C.2.1 hst (own := RX3) (cls := "java/lang/IllegalArgumentException") (text := text) (names := ["java/lang/RuntimeException", "java/lang/Exception"]) (ik := 36) (is := is) (ic := 40) C.2.2.2.1 (by decide +kernel) (by decide +kernel) (C.2.2.2.2 _ cl_X3_36) (C.2.2.2.2 _ ini_IllegalArgumentException) (hE.2.2.2.2.2.2.2.2 _ hq) (at_IAE C hE.2.2.2.2.2.2.1) ot_IAE hE.1 hE.2.1 hW.2.2.2.1 (hls.trans C.2.2.1.symm) d0 d3 d4 d6 d9 (fun x hx => (hnt x hx).elim)
    (by show 2 + 3 < R.frames; omega) (by show 0 + (13 * (2 + 1) + 43) ≤ R.locals; omega) hR.2.2.1 hR.2.2.2 hlk (fun t h1 h2 h3 => q_xw hW u hpx hw h1 h2 h3) hW.2.2.2.1.2.2 hc hs
theorem at_ISE (C : CallFix p m c cc nL s args (c0 :: GW) own) (hw : qTW s) : ∀ w ∈ vx_atS RX3 51 "java/lang/IllegalStateException" ["java/lang/RuntimeException", "java/lang/Exception"], w.before args s = true := by
  refine no_f (no_a (no_a (at_T C hw) (no_a (A := Bundle.passSAtoms "java/lang/IllegalStateException" "java/lang/RuntimeException" 7 Bundle.six) (B := Bundle.chainSAtoms "java/lang/RuntimeException" ["java/lang/Exception"]) ?_ (at_R C hw))) ?_)
  · exact no_c (Or.inr (C.2.2.2.2 _ im_IllegalStateException_init_3230)) (no_c (Or.inr (C.2.2.2.2 _ cd_IllegalStateException_init_3230)) (no_c (Or.inr (C.2.2.2.2 _ ml_IllegalStateException_7)) (no_c (Or.inr (C.2.2.2.2 _ im_RuntimeException_init_3230)) (no_c (Or.inr (qTW.use hw n_291 rfl)) (no_n)))))
  · exact no_c (Or.inr (C.2.2.2.2 _ ml_X3_51)) (no_c (Or.inr (C.2.2.2.2 _ inst_IllegalStateException)) (no_c (Or.inr (qTW.use hw n_365 rfl)) (no_c (Or.inr (C.2.2.2.2 _ se_IllegalStateException_Throwable_fillInStackTrace_1602)) (no_c (Or.inr (C.2.2.2.2 _ se_IllegalStateException_Throwable_fillInStackTrace_9280)) (no_c (Or.inr (C.2.2.2.2 _ w_367)) (no_c (Or.inr (C.2.2.2.2 _ w_368)) (no_c (Or.inr (C.2.2.2.2 _ w_369)) (no_c (Or.inr (C.2.2.2.2 _ w_370)) (no_c (Or.inl (by decide +kernel)) (no_c (Or.inl (by decide +kernel)) (no_c (Or.inr (C.2.2.2.2 _ fl_Throwable_198)) (no_c (Or.inr (C.2.2.2.2 _ w_307)) (no_c (Or.inr (C.2.2.2.2 _ w_371)) (no_n))))))))))))))
set_option maxRecDepth 100000 in
theorem ot_ISE : ∀ w ∈ Cond.classLink RX3 47 "java/lang/IllegalStateException" :: Cond.initialized "java/lang/IllegalStateException" :: vx_atS RX3 51 "java/lang/IllegalStateException" ["java/lang/RuntimeException", "java/lang/Exception"], vx_ot w = true := by decide +kernel
theorem q_thrISE (C : CallFix p m c cc nL s args (c0 :: GW) RX3) (hst : l.stackTraces = false) (hE : qE D g ev (va_A w0 sz) s s.heap) (hW : qW D g (va_A w0 sz) s.heap s w H locs) (hlk : meth.locks = false) (hnt : ∀ x ∈ c.exceptionTable.toList, False) (hls : ls.size = nL) {is : Nat} {text : String} (hq : (is, text) ∈ qSs)
    (d0 : decode cc pc = .ok (.new 47, 3)) (d3 : decode cc (pc + 3) = .ok (.dup, 1)) (d4 : decode cc (pc + 4) = .ok (.ldc is, 2)) (d6 : decode cc (pc + 6) = .ok (.invokespecial 51, 3)) (d9 : decode cc (pc + 9) = .ok (.athrow, 1))
    (hR : 6 ≤ R.frames ∧ 90 ≤ R.locals ∧ cells + 1 ≤ R.cells ∧ slots + 6 ≤ R.slots) (hc : cells + 1 ≤ mc) (hs : slots + 6 ≤ ms) {Qc : Array Value → State → Outcome → State → Prop} {S : Type} {px : String → S → Prop} {w' : S → va_W} (u : S) (hpx : px "java/lang/IllegalStateException" u) (hw : w = w' u) :
    W p l e R s m args below meth c H locs cells slots (vx_MQ below Qc (qXX D g w0 sz px w') args s mc ms (va_A w0 sz)) (F0 m pc ls []) :=
  vx_throwS C.1 C.2.1 hst (own := RX3) (cls := "java/lang/IllegalStateException") (text := text) (names := ["java/lang/RuntimeException", "java/lang/Exception"]) (ik := 47) (is := is) (ic := 51) C.2.2.2.1 (by decide +kernel) (by decide +kernel) (C.2.2.2.2 _ cl_X3_47) (C.2.2.2.2 _ ini_IllegalStateException) (hE.2.2.2.2.2.2.2.2 _ hq) (at_ISE C hE.2.2.2.2.2.2.1) ot_ISE hE.1 hE.2.1 hW.2.2.2.1 (hls.trans C.2.2.1.symm) d0 d3 d4 d6 d9 (fun x hx => (hnt x hx).elim)
    (by show 2 + 3 < R.frames; omega) (by show 0 + (13 * (2 + 1) + 43) ≤ R.locals; omega) hR.2.2.1 hR.2.2.2 hlk (fun t h1 h2 h3 => q_xw hW u hpx hw h1 h2 h3) hW.2.2.2.1.2.2 hc hs
theorem at_UOE (C : CallFix p m c cc nL s args (c0 :: GW) own) (hw : qTW s) : ∀ w ∈ vx_atS RX3 90 "java/lang/UnsupportedOperationException" ["java/lang/RuntimeException", "java/lang/Exception"], w.before args s = true := by
  refine no_f (no_a (no_a (at_T C hw) (no_a (A := Bundle.passSAtoms "java/lang/UnsupportedOperationException" "java/lang/RuntimeException" 7 Bundle.six) (B := Bundle.chainSAtoms "java/lang/RuntimeException" ["java/lang/Exception"]) ?_ (at_R C hw))) ?_)
  · exact no_c (Or.inr (C.2.2.2.2 _ im_UnsupportedOperationException_init_3230)) (no_c (Or.inr (C.2.2.2.2 _ cd_UnsupportedOperationException_init_3230)) (no_c (Or.inr (C.2.2.2.2 _ ml_UnsupportedOperationException_7)) (no_c (Or.inr (C.2.2.2.2 _ im_RuntimeException_init_3230)) (no_c (Or.inr (qTW.use hw n_291 rfl)) (no_n)))))
  · exact no_c (Or.inr (C.2.2.2.2 _ ml_X3_90)) (no_c (Or.inr (C.2.2.2.2 _ inst_UnsupportedOperationException)) (no_c (Or.inr (qTW.use hw n_463 rfl)) (no_c (Or.inr (C.2.2.2.2 _ se_UnsupportedOperationException_Throwable_fillInStackTrace_1602)) (no_c (Or.inr (C.2.2.2.2 _ se_UnsupportedOperationException_Throwable_fillInStackTrace_9280)) (no_c (Or.inr (C.2.2.2.2 _ w_465)) (no_c (Or.inr (C.2.2.2.2 _ w_466)) (no_c (Or.inr (C.2.2.2.2 _ w_467)) (no_c (Or.inr (C.2.2.2.2 _ w_468)) (no_c (Or.inl (by decide +kernel)) (no_c (Or.inl (by decide +kernel)) (no_c (Or.inr (C.2.2.2.2 _ fl_Throwable_198)) (no_c (Or.inr (C.2.2.2.2 _ w_307)) (no_c (Or.inr (C.2.2.2.2 _ w_469)) (no_n))))))))))))))
set_option maxRecDepth 100000 in
theorem ot_UOE : ∀ w ∈ Cond.classLink RX3 86 "java/lang/UnsupportedOperationException" :: Cond.initialized "java/lang/UnsupportedOperationException" :: vx_atS RX3 90 "java/lang/UnsupportedOperationException" ["java/lang/RuntimeException", "java/lang/Exception"], vx_ot w = true := by decide +kernel
theorem q_thrUOE (C : CallFix p m c cc nL s args (c0 :: GW) RX3) (hst : l.stackTraces = false) (hE : qE D g ev (va_A w0 sz) s s.heap) (hW : qW D g (va_A w0 sz) s.heap s w H locs) (hlk : meth.locks = false) (hnt : ∀ x ∈ c.exceptionTable.toList, False) (hls : ls.size = nL) {is : Nat} {text : String} (hq : (is, text) ∈ qSs)
    (d0 : decode cc pc = .ok (.new 86, 3)) (d3 : decode cc (pc + 3) = .ok (.dup, 1)) (d4 : decode cc (pc + 4) = .ok (.ldc is, 2)) (d6 : decode cc (pc + 6) = .ok (.invokespecial 90, 3)) (d9 : decode cc (pc + 9) = .ok (.athrow, 1))
    (hR : 6 ≤ R.frames ∧ 90 ≤ R.locals ∧ cells + 1 ≤ R.cells ∧ slots + 6 ≤ R.slots) (hc : cells + 1 ≤ mc) (hs : slots + 6 ≤ ms) {Qc : Array Value → State → Outcome → State → Prop} {S : Type} {px : String → S → Prop} {w' : S → va_W} (u : S) (hpx : px "java/lang/UnsupportedOperationException" u) (hw : w = w' u) :
    W p l e R s m args below meth c H locs cells slots (vx_MQ below Qc (qXX D g w0 sz px w') args s mc ms (va_A w0 sz)) (F0 m pc ls []) :=
  vx_throwS C.1 C.2.1 hst (own := RX3) (cls := "java/lang/UnsupportedOperationException") (text := text) (names := ["java/lang/RuntimeException", "java/lang/Exception"]) (ik := 86) (is := is) (ic := 90) C.2.2.2.1 (by decide +kernel) (by decide +kernel) (C.2.2.2.2 _ cl_X3_86) (C.2.2.2.2 _ ini_UnsupportedOperationException) (hE.2.2.2.2.2.2.2.2 _ hq) (at_UOE C hE.2.2.2.2.2.2.1) ot_UOE hE.1 hE.2.1 hW.2.2.2.1 (hls.trans C.2.2.1.symm) d0 d3 d4 d6 d9 (fun x hx => (hnt x hx).elim)
    (by show 2 + 3 < R.frames; omega) (by show 0 + (13 * (2 + 1) + 43) ≤ R.locals; omega) hR.2.2.1 hR.2.2.2 hlk (fun t h1 h2 h3 => q_xw hW u hpx hw h1 h2 h3) hW.2.2.2.1.2.2 hc hs
theorem at_IOE (C : CallFix p m c cc nL s args (c0 :: GW) own) (hw : qTW s) : ∀ w ∈ vx_atS RX3 237 "java/lang/IndexOutOfBoundsException" ["java/lang/RuntimeException", "java/lang/Exception"], w.before args s = true := by
  refine no_f (no_a (no_a (at_T C hw) (no_a (A := Bundle.passSAtoms "java/lang/IndexOutOfBoundsException" "java/lang/RuntimeException" 7 Bundle.six) (B := Bundle.chainSAtoms "java/lang/RuntimeException" ["java/lang/Exception"]) ?_ (at_R C hw))) ?_)
  · exact no_c (Or.inr (C.2.2.2.2 _ im_IndexOutOfBoundsException_init_3230)) (no_c (Or.inr (C.2.2.2.2 _ cd_IndexOutOfBoundsException_init_3230)) (no_c (Or.inr (C.2.2.2.2 _ ml_IndexOutOfBoundsException_7)) (no_c (Or.inr (C.2.2.2.2 _ im_RuntimeException_init_3230)) (no_c (Or.inr (qTW.use hw n_291 rfl)) (no_n)))))
  · exact no_c (Or.inr (C.2.2.2.2 _ ml_X3_237)) (no_c (Or.inr (C.2.2.2.2 _ inst_IndexOutOfBoundsException)) (no_c (Or.inr (qTW.use hw n_578 rfl)) (no_c (Or.inr (C.2.2.2.2 _ se_IndexOutOfBoundsException_Throwable_fillInStackTrace_1602)) (no_c (Or.inr (C.2.2.2.2 _ se_IndexOutOfBoundsException_Throwable_fillInStackTrace_9280)) (no_c (Or.inr (C.2.2.2.2 _ w_580)) (no_c (Or.inr (C.2.2.2.2 _ w_581)) (no_c (Or.inr (C.2.2.2.2 _ w_582)) (no_c (Or.inr (C.2.2.2.2 _ w_583)) (no_c (Or.inl (by decide +kernel)) (no_c (Or.inl (by decide +kernel)) (no_c (Or.inr (C.2.2.2.2 _ fl_Throwable_198)) (no_c (Or.inr (C.2.2.2.2 _ w_307)) (no_c (Or.inr (C.2.2.2.2 _ w_584)) (no_n))))))))))))))
set_option maxRecDepth 100000 in
theorem ot_IOE : ∀ w ∈ Cond.classLink RX3 233 "java/lang/IndexOutOfBoundsException" :: Cond.initialized "java/lang/IndexOutOfBoundsException" :: vx_atS RX3 237 "java/lang/IndexOutOfBoundsException" ["java/lang/RuntimeException", "java/lang/Exception"], vx_ot w = true := by decide +kernel
theorem q_thrIOE (C : CallFix p m c cc nL s args (c0 :: GW) RX3) (hst : l.stackTraces = false) (hE : qE D g ev (va_A w0 sz) s s.heap) (hW : qW D g (va_A w0 sz) s.heap s w H locs) (hlk : meth.locks = false) (hnt : ∀ x ∈ c.exceptionTable.toList, False) (hls : ls.size = nL) {is : Nat} {text : String} (hq : (is, text) ∈ qSs)
    (d0 : decode cc pc = .ok (.new 233, 3)) (d3 : decode cc (pc + 3) = .ok (.dup, 1)) (d4 : decode cc (pc + 4) = .ok (.ldc is, 2)) (d6 : decode cc (pc + 6) = .ok (.invokespecial 237, 3)) (d9 : decode cc (pc + 9) = .ok (.athrow, 1))
    (hR : 6 ≤ R.frames ∧ 90 ≤ R.locals ∧ cells + 1 ≤ R.cells ∧ slots + 6 ≤ R.slots) (hc : cells + 1 ≤ mc) (hs : slots + 6 ≤ ms) {Qc : Array Value → State → Outcome → State → Prop} {S : Type} {px : String → S → Prop} {w' : S → va_W} (u : S) (hpx : px "java/lang/IndexOutOfBoundsException" u) (hw : w = w' u) :
    W p l e R s m args below meth c H locs cells slots (vx_MQ below Qc (qXX D g w0 sz px w') args s mc ms (va_A w0 sz)) (F0 m pc ls []) :=
  vx_throwS C.1 C.2.1 hst (own := RX3) (cls := "java/lang/IndexOutOfBoundsException") (text := text) (names := ["java/lang/RuntimeException", "java/lang/Exception"]) (ik := 233) (is := is) (ic := 237) C.2.2.2.1 (by decide +kernel) (by decide +kernel) (C.2.2.2.2 _ cl_X3_233) (C.2.2.2.2 _ ini_IndexOutOfBoundsException) (hE.2.2.2.2.2.2.2.2 _ hq) (at_IOE C hE.2.2.2.2.2.2.1) ot_IOE hE.1 hE.2.1 hW.2.2.2.1 (hls.trans C.2.2.1.symm) d0 d3 d4 d6 d9 (fun x hx => (hnt x hx).elim)
    (by show 2 + 3 < R.frames; omega) (by show 0 + (13 * (2 + 1) + 43) ≤ R.locals; omega) hR.2.2.1 hR.2.2.2 hlk (fun t h1 h2 h3 => q_xw hW u hpx hw h1 h2 h3) hW.2.2.2.1.2.2 hc hs
theorem at_ARE (C : CallFix p m c cc nL s args (c0 :: GW) own) (hw : qTW s) : ∀ w ∈ vx_atS RX3 226 "java/lang/ArithmeticException" ["java/lang/RuntimeException", "java/lang/Exception"], w.before args s = true := by
  refine no_f (no_a (no_a (at_T C hw) (no_a (A := Bundle.passSAtoms "java/lang/ArithmeticException" "java/lang/RuntimeException" 7 Bundle.six) (B := Bundle.chainSAtoms "java/lang/RuntimeException" ["java/lang/Exception"]) ?_ (at_R C hw))) ?_)
  · exact no_c (Or.inr (C.2.2.2.2 _ im_ArithmeticException_init_3230)) (no_c (Or.inr (C.2.2.2.2 _ cd_ArithmeticException_init_3230)) (no_c (Or.inr (C.2.2.2.2 _ ml_ArithmeticException_7)) (no_c (Or.inr (C.2.2.2.2 _ im_RuntimeException_init_3230)) (no_c (Or.inr (qTW.use hw n_291 rfl)) (no_n)))))
  · exact no_c (Or.inr (C.2.2.2.2 _ ml_X3_226)) (no_c (Or.inr (C.2.2.2.2 _ inst_ArithmeticException)) (no_c (Or.inr (qTW.use hw n_883 rfl)) (no_c (Or.inr (C.2.2.2.2 _ se_ArithmeticException_Throwable_fillInStackTrace_1602)) (no_c (Or.inr (C.2.2.2.2 _ se_ArithmeticException_Throwable_fillInStackTrace_9280)) (no_c (Or.inr (C.2.2.2.2 _ w_878)) (no_c (Or.inr (C.2.2.2.2 _ w_879)) (no_c (Or.inr (C.2.2.2.2 _ w_881)) (no_c (Or.inr (C.2.2.2.2 _ w_877)) (no_c (Or.inl (by decide +kernel)) (no_c (Or.inl (by decide +kernel)) (no_c (Or.inr (C.2.2.2.2 _ fl_Throwable_198)) (no_c (Or.inr (C.2.2.2.2 _ w_307)) (no_c (Or.inr (C.2.2.2.2 _ w_876)) (no_n))))))))))))))
set_option maxRecDepth 100000 in
theorem ot_ARE : ∀ w ∈ Cond.classLink RX3 222 "java/lang/ArithmeticException" :: Cond.initialized "java/lang/ArithmeticException" :: vx_atS RX3 226 "java/lang/ArithmeticException" ["java/lang/RuntimeException", "java/lang/Exception"], vx_ot w = true := by decide +kernel
theorem q_thrARE (C : CallFix p m c cc nL s args (c0 :: GW) RX3) (hst : l.stackTraces = false) (hE : qE D g ev (va_A w0 sz) s s.heap) (hW : qW D g (va_A w0 sz) s.heap s w H locs) (hlk : meth.locks = false) (hnt : ∀ x ∈ c.exceptionTable.toList, False) (hls : ls.size = nL) {is : Nat} {text : String} (hq : (is, text) ∈ qSs)
    (d0 : decode cc pc = .ok (.new 222, 3)) (d3 : decode cc (pc + 3) = .ok (.dup, 1)) (d4 : decode cc (pc + 4) = .ok (.ldc is, 2)) (d6 : decode cc (pc + 6) = .ok (.invokespecial 226, 3)) (d9 : decode cc (pc + 9) = .ok (.athrow, 1))
    (hR : 6 ≤ R.frames ∧ 90 ≤ R.locals ∧ cells + 1 ≤ R.cells ∧ slots + 6 ≤ R.slots) (hc : cells + 1 ≤ mc) (hs : slots + 6 ≤ ms) {Qc : Array Value → State → Outcome → State → Prop} {S : Type} {px : String → S → Prop} {w' : S → va_W} (u : S) (hpx : px "java/lang/ArithmeticException" u) (hw : w = w' u) :
    W p l e R s m args below meth c H locs cells slots (vx_MQ below Qc (qXX D g w0 sz px w') args s mc ms (va_A w0 sz)) (F0 m pc ls []) :=
  vx_throwS C.1 C.2.1 hst (own := RX3) (cls := "java/lang/ArithmeticException") (text := text) (names := ["java/lang/RuntimeException", "java/lang/Exception"]) (ik := 222) (is := is) (ic := 226) C.2.2.2.1 (by decide +kernel) (by decide +kernel) (C.2.2.2.2 _ cl_X3_222) (C.2.2.2.2 _ ini_ArithmeticException) (hE.2.2.2.2.2.2.2.2 _ hq) (at_ARE C hE.2.2.2.2.2.2.1) ot_ARE hE.1 hE.2.1 hW.2.2.2.1 (hls.trans C.2.2.1.symm) d0 d3 d4 d6 d9 (fun x hx => (hnt x hx).elim)
    (by show 2 + 3 < R.frames; omega) (by show 0 + (13 * (2 + 1) + 43) ≤ R.locals; omega) hR.2.2.1 hR.2.2.2 hlk (fun t h1 h2 h3 => q_xw hW u hpx hw h1 h2 h3) hW.2.2.2.1.2.2 hc hs
theorem at_NSE (C : CallFix p m c cc nL s args (c0 :: GW) own) (hw : qTW s) : ∀ w ∈ nsAll, vx_no w = false ∨ w.before args s = true := by
  refine no_a (at_T C hw) (no_a ?_ (no_a (at_R C hw) ?_))
  · exact no_c (Or.inr (C.2.2.2.2 _ im_NoSuchElementException_init_3230)) (no_c (Or.inr (C.2.2.2.2 _ cd_NoSuchElementException_init_3230)) (no_c (Or.inr (C.2.2.2.2 _ ml_NoSuchElementException_13)) (no_c (Or.inr (C.2.2.2.2 _ im_RuntimeException_init_3230)) (no_c (Or.inr (qTW.use hw n_291 rfl)) (no_n)))))
  · exact no_c (Or.inr (C.2.2.2.2 _ ml_X3_107)) (no_c (Or.inr (C.2.2.2.2 _ inst_NoSuchElementException)) (no_c (Or.inr (qTW.use hw n_402 rfl)) (no_c (Or.inr (C.2.2.2.2 _ se_NoSuchElementException_Throwable_fillInStackTrace_1602)) (no_c (Or.inr (C.2.2.2.2 _ se_NoSuchElementException_Throwable_fillInStackTrace_9280)) (no_c (Or.inr (C.2.2.2.2 _ w_404)) (no_c (Or.inr (C.2.2.2.2 _ w_405)) (no_c (Or.inr (C.2.2.2.2 _ w_406)) (no_c (Or.inr (C.2.2.2.2 _ w_407)) (no_c (Or.inr (C.2.2.2.2 _ fl_Throwable_198)) (no_c (Or.inr (C.2.2.2.2 _ w_307)) (no_c (Or.inr (C.2.2.2.2 _ w_408)) (no_n))))))))))))
theorem ns_words (C : CallFix p m c cc nL s args (c0 :: GW) own) (hw : qTW s) (hU : (Cond.isRef (.static Bundle.tN "UNASSIGNED_STACK" Bundle.steD)).before args s = true) (hN : (Cond.isRef (.static Bundle.tN "SUPPRESSED_SENTINEL" Bundle.listD)).before args s = true)
    (lU : (Cond.laysStatic Bundle.tN "UNASSIGNED_STACK" Bundle.steD).before args s = true) (lN : (Cond.laysStatic Bundle.tN "SUPPRESSED_SENTINEL" Bundle.listD).before args s = true) : ∀ w ∈ nsAll, w.before args s = true :=
  vx_own (no_f (at_NSE C hw)) hU hN lU lN
set_option maxRecDepth 100000 in
theorem ot_NSE : ∀ w ∈ Cond.classLink RX3 103 nsN :: Cond.initialized nsN :: nsAll.filter vx_no, vx_ot w = true := by decide +kernel
theorem q_thrNSE (C : CallFix p m c cc nL s args (c0 :: GW) RX3) (hst : l.stackTraces = false) (hE : qE D g ev (va_A w0 sz) s s.heap) (hW : qW D g (va_A w0 sz) s.heap s w H locs) (hlk : meth.locks = false) (hnt : ∀ x ∈ c.exceptionTable.toList, False) (hls : ls.size = nL) {is : Nat} {text : String} (hq : (is, text) ∈ qSs)
    (d0 : decode cc pc = .ok (.new 103, 3)) (d3 : decode cc (pc + 3) = .ok (.dup, 1)) (d4 : decode cc (pc + 4) = .ok (.ldc is, 2)) (d6 : decode cc (pc + 6) = .ok (.invokespecial 107, 3)) (d9 : decode cc (pc + 9) = .ok (.athrow, 1))
    (hR : 6 ≤ R.frames ∧ 90 ≤ R.locals ∧ cells + 1 ≤ R.cells ∧ slots + 6 ≤ R.slots) (hc : cells + 1 ≤ mc) (hs : slots + 6 ≤ ms) {Qc : Array Value → State → Outcome → State → Prop} {S : Type} {px : String → S → Prop} {w' : S → va_W} (u : S) (hpx : px nsN u) (hw : w = w' u) :
    W p l e R s m args below meth c H locs cells slots (vx_MQ below Qc (qXX D g w0 sz px w') args s mc ms (va_A w0 sz)) (F0 m pc ls []) := by
  have hexec := C.1
  have hb := C.2.1
  have hown := C.2.2.2.1
  have hk : (Cond.classLink RX3 103 nsN).before args s = true := C.2.2.2.2 _ cl_X3_103
  have hini : (Cond.initialized nsN).before args s = true := (C.2.2.2.2 _ ini_NoSuchElementException)
  have hstr : vk_R RX3 is text (ev.2.2 is) s := hE.2.2.2.2.2.2.2.2 _ hq
  have hat : ∀ w ∈ nsAll.filter vx_no, w.before args s = true := no_f (at_NSE C hE.2.2.2.2.2.2.1)
  have hS := hW.2.2.2.1
  intro T hT X
  have htr : e.platform.stackTraces = false := (show e.platform.stackTraces = l.stackTraces by rw [X.admits.platform]).trans hst
  have Y := vx_rebase X (R' := { frames := R.frames, locals := R.locals, cells := 1, slots := 6 }) (Nat.le_refl _) (Nat.le_refl _) hR.2.2.1 hR.2.2.2
  obtain ⟨s', hA⟩ : ∃ z, z = (T.setVm s.vm).setFrames (.invoking m args :: below) := ⟨_, rfl⟩
  rw [← hA] at Y
  have hvm : s'.vm = s.vm := by rw [hA]; rfl
  have hhp : s'.heap = H := by rw [hA]; exact hT
  have hW0 : s.WarmedH s'.vm := by rw [hvm]; exact State.WarmedH.refl s
  have hat' : ∀ w ∈ nsAll.filter vx_no, w.before args s' = true := fun w hw => vx_ot_at hW0 hvm.symm (ot_NSE w (List.mem_cons_of_mem _ (List.mem_cons_of_mem _ hw))) (hat w hw)
  have hk' : (Cond.classLink RX3 103 nsN).before args s' = true := vx_ot_at hW0 hvm.symm (ot_NSE _ List.mem_cons_self) hk
  have hini' : (Cond.initialized nsN).before args s' = true := vx_ot_at hW0 hvm.symm (ot_NSE _ (List.mem_cons_of_mem _ List.mem_cons_self)) hini
  have hU' : vx_Zq Bundle.tN "UNASSIGNED_STACK" Bundle.steD (va_A w0 sz) s' s'.heap := by rw [hhp]; exact vx_Zq.moved hW0.alike (hE.1.kept hS.2.1)
  have hN' : vx_Zq Bundle.tN "SUPPRESSED_SENTINEL" Bundle.listD (va_A w0 sz) s' s'.heap := by rw [hhp]; exact vx_Zq.moved hW0.alike (hE.2.1.kept hS.2.1)
  have h : ∀ w ∈ nsAll, w.before args s' = true := vx_own hat' (vx_isRefq hU'.1) (vx_isRefq hN'.1) hU'.2.word hN'.2.word
  have hown' : s'.vm.findClass RX3 = some m.cls := by rw [hvm]; exact hown
  have hins : (Cond.instantiable nsN 6).before args s' = true := h _ (List.mem_append_right _ (List.mem_append_right _ (List.mem_append_right _ (List.mem_of_getElem? (i := 1) rfl))))
  obtain ⟨vm₁, cX, kX, hfX, hkX, -, -, X₁, st1⟩ := Y.newCold hexec (own := RX3) (C := nsN) (index := 103) (n := 6) hown' hk' hins hini'
    (g := F0 m pc ls []) rfl (by rw [hb]; exact d0) (Nat.le_refl _) (Nat.le_refl _)
  generalize hT1 : (T.setVm vm₁).pushCell { cls := cX, slots := kX.instanceTypes.map defaultValue, vm := .none } = T1 at X₁ st1
  have hcellA : T1.heap[T.heap.size]? = some (freshCell cX kX) := by rw [← hT1]; exact State.heap_pushCell_size _ _
  have d3' : decode c.code (pc + 3) = .ok (.dup, 1) := by rw [hb]; exact d3
  have d4' : decode c.code (pc + 4) = .ok (.ldc is, 2) := by rw [hb]; exact d4
  have hstr' : vk_R RX3 is text (ev.2.2 is) s' := vk_R.warm hW0 hstr
  obtain ⟨U, hsteps, hrun, hend, hWU, hsame, ce, hce, hcc, hcv⟩ := ns_ctor X₁ hexec htr hown' h (vx_isRefq hU'.1) (vx_isRefq hN'.1) hfX hkX hcellA (by rw [hhp, hT]; exact Nat.le_refl _) rfl (msg := .ref (ev.2.2 is)) rfl
    (g := { method := m, pc := pc + 6, locals := ls, stack := .ref (ev.2.2 is) :: .ref T.heap.size :: .ref T.heap.size :: [], locked := none }) rfl (hls.trans C.2.2.1.symm) rfl rfl (rest := []) rfl
    (by rw [hb]; exact d6) (by rw [hb]; exact d9) (fun x hx => (hnt x hx).elim) (by show 5 < R.frames; omega) (by show 2 * 0 + (1 + 0) + 81 ≤ R.locals; omega) hlk
  obtain ⟨f1, f2⟩ := vx_frame hsame
  rw [hhp] at f1 f2
  have hWs : s.WarmedH U.vm := State.WarmedH.trans hW0 hWU
  have hcl : s.vm.findClass nsN = some ce.cls := by
    rw [hcc, ← hvm]; exact hfX
  have hall : s.sameButNew ({ U with vm := s.vm } : State) locs mc ms := by
    subst hA
    obtain ⟨e1, e2⟩ := hsame
    rw [State.setFrames_setFrames] at e1
    have h2 : (T.setVm s.vm).sameButNew ({ U with vm := s.vm } : State) [] (0 + 1) (0 + 6) := ⟨e1, e2⟩
    have h3 := X.same.trans h2
    rw [List.append_nil] at h3
    exact h3.mono hc hs
  refine ⟨U, ?_, .threw T.heap.size, hrun, hend, Or.inr ⟨T.heap.size, rfl, nsN, ce, locs, q_xw hW u hpx hw hWs.alike f1 (fun q hq => f2 q hq (fun z hz => nomatch hz)), hce, hcv, hcl, hWs, hall, hW.2.2.2.1.2.2⟩⟩
  refine st1 _ ?_
  show Steps p.tables e below (T1.setTop { method := m, pc := pc + 3, locals := ls, stack := .ref T.heap.size :: [], locked := none }) _
  jvm_step X₁.here [X₁.here.top, hexec, d3', Value.category]
  exact X₁.ldcString hexec (own := RX3) (text := text) (index := is) (a := ev.2.2 is) hown' hstr'.1 hstr'.2
    (g := { method := m, pc := pc + 4, locals := ls, stack := .ref T.heap.size :: .ref T.heap.size :: [], locked := none }) rfl d4' _ hsteps
end QTH
