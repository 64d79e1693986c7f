def GW : List Cond := lw_tbl.filter goodWord
theorem gw_of {w c0 : Cond} (h : w ∈ lw_tbl) (hg : goodWord w = true) : w ∈ c0 :: GW := List.mem_cons_of_mem _ (List.mem_filter.mpr ⟨h, hg⟩)
theorem tbt {w : Cond} (h : w ∈ tables_1) : w ∈ lw_tbl := List.mem_append_right _ h
theorem tb1 {w : Cond} (h : w ∈ tables_1_1) : w ∈ lw_tbl := tbt (List.mem_append_left _ h)
theorem tb2 {w : Cond} (h : w ∈ tables_1_2) : w ∈ lw_tbl := tbt (List.mem_append_right _ (List.mem_append_left _ h))
theorem tb3 {w : Cond} (h : w ∈ tables_1_3) : w ∈ lw_tbl := tbt (List.mem_append_right _ (List.mem_append_right _ (List.mem_append_left _ h)))
theorem tb4 {w : Cond} (h : w ∈ tables_1_4) : w ∈ lw_tbl := tbt (List.mem_append_right _ (List.mem_append_right _ (List.mem_append_right _ (List.mem_append_left _ h))))
theorem tb5 {w : Cond} (h : w ∈ tables_1_5) : w ∈ lw_tbl := tbt (List.mem_append_right _ (List.mem_append_right _ (List.mem_append_right _ (List.mem_append_right _ (List.mem_append_left _ h)))))
theorem tb6 {w : Cond} (h : w ∈ tables_1_6) : w ∈ lw_tbl := tbt (List.mem_append_right _ (List.mem_append_right _ (List.mem_append_right _ (List.mem_append_right _ (List.mem_append_right _ h)))))
theorem tbp {q : MethodName × Nat} (h : q ∈ lw_privs) : Cond.selects q.1.cls q.1 q.1 ∈ lw_tbl := List.mem_append_left _ (List.mem_map.mpr ⟨q, h, rfl⟩)
theorem tbp1 {w : Cond} (h : w ∈ k2_sels lw_privs_1) : w ∈ lw_tbl := by
  obtain ⟨q, h1, rfl⟩ := List.mem_map.mp h
  exact tbp (List.mem_append_left _ h1)
theorem tbp2 {w : Cond} (h : w ∈ k2_sels lw_privs_2) : w ∈ lw_tbl := by
  obtain ⟨q, h1, rfl⟩ := List.mem_map.mp h
  exact tbp (List.mem_append_right _ (List.mem_append_left _ h1))
theorem tbp3 {w : Cond} (h : w ∈ k2_sels lw_privs_3) : w ∈ lw_tbl := by
  obtain ⟨q, h1, rfl⟩ := List.mem_map.mp h
  exact tbp (List.mem_append_right _ (List.mem_append_right _ h1))
/-- a method's own words: its code, and all that is good in the tables; a callee's words among them -/
theorem gw_in {c0 : Cond} {L : List Cond} (h : ∀ w ∈ L, w ∈ c0 :: GW) (hg : L.all goodWord = true) : GoodIn (c0 :: GW) L := fun w hw => ⟨h w hw, good_of_word (List.all_eq_true.mp hg w hw)⟩
theorem gw_self {c0 c1 : Cond} (h : c1 ∈ c0 :: GW) (hg : goodWord c1 = true) : GoodIn (c0 :: GW) (c1 :: GW) := by
  intro w hw
  rcases List.mem_cons.mp hw with rfl | hw
  · exact ⟨h, good_of_word hg⟩
  · exact ⟨List.mem_cons_of_mem _ hw, good_of_word (List.mem_filter.mp hw).2⟩
theorem gw_V {c0 c1 : Cond} {own C : String} {idx : Nat} {y : MethodName} (h1 : (.methodLink own idx y : Cond) ∈ c0 :: GW) (h2 : (.instanceMethod y : Cond) ∈ c0 :: GW) (h3 : (.selects C y y : Cond) ∈ c0 :: GW) (h4 : (.initialized C : Cond) ∈ c0 :: GW) (h5 : c1 ∈ c0 :: GW) (hg : goodWord c1 = true) : GoodIn (c0 :: GW) (wsV own idx C y (c1 :: GW)) := by
  refine goodIn_app (fun w hw => ?_) (gw_self h5 hg)
  simp only [List.mem_cons, List.not_mem_nil, or_false] at hw
  rcases hw with rfl | rfl | rfl | rfl
  · exact ⟨h1, good_of_word rfl⟩
  · exact ⟨h2, good_of_word rfl⟩
  · exact ⟨h3, good_of_word rfl⟩
  · exact ⟨h4, good_of_word rfl⟩
theorem gw_S {c0 c1 : Cond} {own : String} {idx : Nat} {y : MethodName} (h1 : (.methodLink own idx y : Cond) ∈ c0 :: GW) (h2 : (.static y : Cond) ∈ c0 :: GW) (h4 : (.initialized y.cls : Cond) ∈ c0 :: GW) (h5 : c1 ∈ c0 :: GW) (hg : goodWord c1 = true) : GoodIn (c0 :: GW) (va_wsS own idx y (c1 :: GW)) := by
  refine goodIn_app (fun w hw => ?_) (gw_self h5 hg)
  simp only [List.mem_cons, List.not_mem_nil, or_false] at hw
  rcases hw with rfl | rfl | rfl
  · exact ⟨h1, good_of_word rfl⟩
  · exact ⟨h2, good_of_word rfl⟩
  · exact ⟨h4, good_of_word rfl⟩
theorem gw_F {c0 c1 : Cond} {own C : String} {idx : Nat} {x y : MethodName} (h1 : (.methodLink own idx x : Cond) ∈ c0 :: GW) (h2 : (.selects C x y : Cond) ∈ c0 :: GW) (h3 : (.instanceMethod y : Cond) ∈ c0 :: GW) (h4 : (.initialized y.cls : Cond) ∈ c0 :: GW) (h5 : c1 ∈ c0 :: GW) (hg : goodWord c1 = true) : GoodIn (c0 :: GW) (va_wsF own idx C x y (c1 :: GW)) := by
  refine goodIn_app (fun w hw => ?_) (gw_self h5 hg)
  simp only [List.mem_cons, List.not_mem_nil, or_false] at hw
  rcases hw with rfl | rfl | rfl | rfl
  · exact ⟨h1, good_of_word rfl⟩
  · exact ⟨h2, good_of_word rfl⟩
  · exact ⟨h3, good_of_word rfl⟩
  · exact ⟨h4, good_of_word rfl⟩
theorem gw_tbl {c1 : Cond} (h : c1 ∈ lw_tbl) (hg : goodWord c1 = true) : GoodIn lw_tbl (c1 :: GW) := by
  intro w hw
  rcases List.mem_cons.mp hw with rfl | hw
  · exact ⟨h, good_of_word hg⟩
  · exact ⟨(List.mem_filter.mp hw).1, good_of_word (List.mem_filter.mp hw).2⟩
theorem ini_L {c0 : Cond} : (.initialized RL : Cond) ∈ c0 :: GW := gw_of (tb1 (List.mem_of_getElem? (i := 0) (by decide +kernel))) rfl
theorem ini_X3 {c0 : Cond} : (.initialized RX3 : Cond) ∈ c0 :: GW := gw_of (tb1 (List.mem_of_getElem? (i := 1) (by decide +kernel))) rfl
theorem ini_X2 {c0 : Cond} : (.initialized RX2 : Cond) ∈ c0 :: GW := gw_of (tb1 (List.mem_of_getElem? (i := 2) (by decide +kernel))) rfl
theorem ini_X0 {c0 : Cond} : (.initialized RX0 : Cond) ∈ c0 :: GW := gw_of (tb1 (List.mem_of_getElem? (i := 3) (by decide +kernel))) rfl
theorem ini_Jxa1e45 {c0 : Cond} : (.initialized RJxa1e45 : Cond) ∈ c0 :: GW := gw_of (tb1 (List.mem_of_getElem? (i := 4) (by decide +kernel))) rfl
theorem ini_Jxc12de {c0 : Cond} : (.initialized RJxc12de : Cond) ∈ c0 :: GW := gw_of (tb1 (List.mem_of_getElem? (i := 5) (by decide +kernel))) rfl
theorem ini_Jx4a65c {c0 : Cond} : (.initialized RJx4a65c : Cond) ∈ c0 :: GW := gw_of (tb1 (List.mem_of_getElem? (i := 6) (by decide +kernel))) rfl
theorem ini_X4 {c0 : Cond} : (.initialized RX4 : Cond) ∈ c0 :: GW := gw_of (tb1 (List.mem_of_getElem? (i := 7) (by decide +kernel))) rfl
theorem ini_Throwable {c0 : Cond} : (.initialized "java/lang/Throwable" : Cond) ∈ c0 :: GW := gw_of (tb1 (List.mem_of_getElem? (i := 8) (by decide +kernel))) rfl
theorem ini_Exception {c0 : Cond} : (.initialized "java/lang/Exception" : Cond) ∈ c0 :: GW := gw_of (tb1 (List.mem_of_getElem? (i := 9) (by decide +kernel))) rfl
theorem ini_RuntimeException {c0 : Cond} : (.initialized "java/lang/RuntimeException" : Cond) ∈ c0 :: GW := gw_of (tb1 (List.mem_of_getElem? (i := 10) (by decide +kernel))) rfl
theorem ini_IllegalArgumentException {c0 : Cond} : (.initialized "java/lang/IllegalArgumentException" : Cond) ∈ c0 :: GW := gw_of (tb1 (List.mem_of_getElem? (i := 11) (by decide +kernel))) rfl
theorem ini_IllegalStateException {c0 : Cond} : (.initialized "java/lang/IllegalStateException" : Cond) ∈ c0 :: GW := gw_of (tb1 (List.mem_of_getElem? (i := 12) (by decide +kernel))) rfl
theorem ini_NoSuchElementException {c0 : Cond} : (.initialized "java/util/NoSuchElementException" : Cond) ∈ c0 :: GW := gw_of (tb1 (List.mem_of_getElem? (i := 13) (by decide +kernel))) rfl
theorem ini_J10 {c0 : Cond} : (.initialized RJ10 : Cond) ∈ c0 :: GW := gw_of (tb1 (List.mem_of_getElem? (i := 14) (by decide +kernel))) rfl
theorem ini_J9 {c0 : Cond} : (.initialized RJ9 : Cond) ∈ c0 :: GW := gw_of (tb1 (List.mem_of_getElem? (i := 15) (by decide +kernel))) rfl
theorem ini_UnsupportedOperationException {c0 : Cond} : (.initialized "java/lang/UnsupportedOperationException" : Cond) ∈ c0 :: GW := gw_of (tb1 (List.mem_of_getElem? (i := 16) (by decide +kernel))) rfl
theorem ini_IndexOutOfBoundsException {c0 : Cond} : (.initialized "java/lang/IndexOutOfBoundsException" : Cond) ∈ c0 :: GW := gw_of (tb1 (List.mem_of_getElem? (i := 17) (by decide +kernel))) rfl
theorem ini_Jx00060 {c0 : Cond} : (.initialized RJx00060 : Cond) ∈ c0 :: GW := gw_of (tb1 (List.mem_of_getElem? (i := 18) (by decide +kernel))) rfl
theorem ini_J0 {c0 : Cond} : (.initialized RJ0 : Cond) ∈ c0 :: GW := gw_of (tb1 (List.mem_of_getElem? (i := 19) (by decide +kernel))) rfl
theorem ini_X1 {c0 : Cond} : (.initialized RX1 : Cond) ∈ c0 :: GW := gw_of (tb1 (List.mem_of_getElem? (i := 20) (by decide +kernel))) rfl
theorem ini_J8 {c0 : Cond} : (.initialized RJ8 : Cond) ∈ c0 :: GW := gw_of (tb1 (List.mem_of_getElem? (i := 21) (by decide +kernel))) rfl
theorem ini_J7 {c0 : Cond} : (.initialized RJ7 : Cond) ∈ c0 :: GW := gw_of (tb1 (List.mem_of_getElem? (i := 22) (by decide +kernel))) rfl
theorem ini_J15 {c0 : Cond} : (.initialized RJ15 : Cond) ∈ c0 :: GW := gw_of (tb1 (List.mem_of_getElem? (i := 23) (by decide +kernel))) rfl
theorem ini_J3 {c0 : Cond} : (.initialized RJ3 : Cond) ∈ c0 :: GW := gw_of (tb1 (List.mem_of_getElem? (i := 24) (by decide +kernel))) rfl
theorem ini_ArithmeticException {c0 : Cond} : (.initialized "java/lang/ArithmeticException" : Cond) ∈ c0 :: GW := gw_of (tb1 (List.mem_of_getElem? (i := 25) (by decide +kernel))) rfl
theorem cl_L_8 {c0 : Cond} : (.classLink RL 8 RX3 : Cond) ∈ c0 :: GW := gw_of (tb1 (List.mem_of_getElem? (i := 26) (by decide +kernel))) rfl
theorem inst_X3 {c0 : Cond} : (.instantiable RX3 5 : Cond) ∈ c0 :: GW := gw_of (tb1 (List.mem_of_getElem? (i := 27) (by decide +kernel))) rfl
theorem ml_L_117 {c0 : Cond} : (.methodLink RL 117 yX3_init : Cond) ∈ c0 :: GW := gw_of (tb1 (List.mem_of_getElem? (i := 28) (by decide +kernel))) rfl
theorem im_X3_init {c0 : Cond} : (.instanceMethod yX3_init : Cond) ∈ c0 :: GW := gw_of (tb1 (List.mem_of_getElem? (i := 29) (by decide +kernel))) rfl
theorem cd_X3_init {c0 : Cond} : (.code yX3_init prog_1_method_1_code 1 none : Cond) ∈ c0 :: GW := gw_of (tb1 (List.mem_of_getElem? (i := 30) (by decide +kernel))) rfl
theorem ml_X3_1 {c0 : Cond} : (.methodLink RX3 1 objectInit : Cond) ∈ c0 :: GW := gw_of (tb1 (List.mem_of_getElem? (i := 31) (by decide +kernel))) rfl
theorem im_objectInit {c0 : Cond} : (.instanceMethod objectInit : Cond) ∈ c0 :: GW := gw_of (tb1 (List.mem_of_getElem? (i := 32) (by decide +kernel))) rfl
theorem cd_objectInit {c0 : Cond} : (.code objectInit object_method_1_code 1 none : Cond) ∈ c0 :: GW := gw_of (tb1 (List.mem_of_getElem? (i := 33) (by decide +kernel))) rfl
theorem cl_X3_7 {c0 : Cond} : (.classLink RX3 7 RX2 : Cond) ∈ c0 :: GW := gw_of (tb1 (List.mem_of_getElem? (i := 34) (by decide +kernel))) rfl
theorem inst_X2 {c0 : Cond} : (.instantiable RX2 4 : Cond) ∈ c0 :: GW := gw_of (tb1 (List.mem_of_getElem? (i := 35) (by decide +kernel))) rfl
theorem ml_X3_9 {c0 : Cond} : (.methodLink RX3 9 yX2_init : Cond) ∈ c0 :: GW := gw_of (tb1 (List.mem_of_getElem? (i := 36) (by decide +kernel))) rfl
theorem im_X2_init {c0 : Cond} : (.instanceMethod yX2_init : Cond) ∈ c0 :: GW := gw_of (tb1 (List.mem_of_getElem? (i := 37) (by decide +kernel))) rfl
theorem cd_X2_init {c0 : Cond} : (.code yX2_init prog_4_method_1_code 1 none : Cond) ∈ c0 :: GW := gw_of (tb1 (List.mem_of_getElem? (i := 38) (by decide +kernel))) rfl
theorem ml_X2_3 {c0 : Cond} : (.methodLink RX2 3 objectInit : Cond) ∈ c0 :: GW := gw_of (tb1 (List.mem_of_getElem? (i := 39) (by decide +kernel))) rfl
theorem fl_X2_9 {c0 : Cond} : (.fieldLink RX2 9 "LineKeeper$Layout" "sizes" "[I" : Cond) ∈ c0 :: GW := gw_of (tb1 (List.mem_of_getElem? (i := 40) (by decide +kernel))) rfl
theorem fl_X2_15 {c0 : Cond} : (.fieldLink RX2 15 "LineKeeper$Layout" "starts" "[I" : Cond) ∈ c0 :: GW := gw_of (tb1 (List.mem_of_getElem? (i := 41) (by decide +kernel))) rfl
theorem fl_X2_18 {c0 : Cond} : (.fieldLink RX2 18 "LineKeeper$Layout" "startsBefore" "[I" : Cond) ∈ c0 :: GW := gw_of (tb1 (List.mem_of_getElem? (i := 42) (by decide +kernel))) rfl
theorem fl_X2_21 {c0 : Cond} : (.fieldLink RX2 21 "LineKeeper$Layout" "names" "I" : Cond) ∈ c0 :: GW := gw_of (tb1 (List.mem_of_getElem? (i := 43) (by decide +kernel))) rfl
theorem w_44 {c0 : Cond} : (.laysFinal "LineKeeper$Layout" "LineKeeper$Layout" "sizes" "[I" : Cond) ∈ c0 :: GW := gw_of (tb1 (List.mem_of_getElem? (i := 44) (by decide +kernel))) rfl
theorem w_46 {c0 : Cond} : (.laysFinal "LineKeeper$Layout" "LineKeeper$Layout" "starts" "[I" : Cond) ∈ c0 :: GW := gw_of (tb1 (List.mem_of_getElem? (i := 46) (by decide +kernel))) rfl
theorem w_48 {c0 : Cond} : (.laysFinal "LineKeeper$Layout" "LineKeeper$Layout" "startsBefore" "[I" : Cond) ∈ c0 :: GW := gw_of (tb1 (List.mem_of_getElem? (i := 48) (by decide +kernel))) rfl
theorem w_50 {c0 : Cond} : (.lays "LineKeeper$Layout" "LineKeeper$Layout" "names" "I" : Cond) ∈ c0 :: GW := gw_of (tb1 (List.mem_of_getElem? (i := 50) (by decide +kernel))) rfl
theorem w_52 {c0 : Cond} : (.superclass "LineKeeper$Layout" "java/lang/Object" : Cond) ∈ c0 :: GW := gw_of (tb1 (List.mem_of_getElem? (i := 52) (by decide +kernel))) rfl
theorem ac_53 {c0 : Cond} : (.arrayClass .int : Cond) ∈ c0 :: GW := gw_of (tb1 (List.mem_of_getElem? (i := 53) (by decide +kernel))) rfl
theorem cl_X3_16 {c0 : Cond} : (.classLink RX3 16 RX0 : Cond) ∈ c0 :: GW := gw_of (tb1 (List.mem_of_getElem? (i := 54) (by decide +kernel))) rfl
theorem inst_X0 {c0 : Cond} : (.instantiable RX0 11 : Cond) ∈ c0 :: GW := gw_of (tb1 (List.mem_of_getElem? (i := 55) (by decide +kernel))) rfl
theorem ml_X3_18 {c0 : Cond} : (.methodLink RX3 18 yX0_init : Cond) ∈ c0 :: GW := gw_of (tb1 (List.mem_of_getElem? (i := 56) (by decide +kernel))) rfl
theorem im_X0_init {c0 : Cond} : (.instanceMethod yX0_init : Cond) ∈ c0 :: GW := gw_of (tb1 (List.mem_of_getElem? (i := 57) (by decide +kernel))) rfl
theorem cd_X0_init {c0 : Cond} : (.code yX0_init prog_2_method_1_code 1 none : Cond) ∈ c0 :: GW := gw_of (tb1 (List.mem_of_getElem? (i := 58) (by decide +kernel))) rfl
theorem ml_X0_3 {c0 : Cond} : (.methodLink RX0 3 objectInit : Cond) ∈ c0 :: GW := gw_of (tb1 (List.mem_of_getElem? (i := 59) (by decide +kernel))) rfl
theorem ml_X0_48 {c0 : Cond} : (.methodLink RX0 48 yX0_clear : Cond) ∈ c0 :: GW := gw_of (tb1 (List.mem_of_getElem? (i := 60) (by decide +kernel))) rfl
theorem im_X0_clear {c0 : Cond} : (.instanceMethod yX0_clear : Cond) ∈ c0 :: GW := gw_of (tb1 (List.mem_of_getElem? (i := 61) (by decide +kernel))) rfl
theorem se_X0_X0_clear {c0 : Cond} : (.selects RX0 yX0_clear yX0_clear : Cond) ∈ c0 :: GW := gw_of (tb1 (List.mem_of_getElem? (i := 62) (by decide +kernel))) rfl
theorem cd_X0_clear {c0 : Cond} : (.code yX0_clear prog_2_method_2_code 2 none : Cond) ∈ c0 :: GW := gw_of (tb1 (List.mem_of_getElem? (i := 63) (by decide +kernel))) rfl
theorem ml_X0_51 {c0 : Cond} : (.methodLink RX0 51 yX0_tellAhead : Cond) ∈ c0 :: GW := gw_of (tb1 (List.mem_of_getElem? (i := 64) (by decide +kernel))) rfl
theorem im_X0_tellAhead {c0 : Cond} : (.instanceMethod yX0_tellAhead : Cond) ∈ c0 :: GW := gw_of (tb1 (List.mem_of_getElem? (i := 65) (by decide +kernel))) rfl
theorem se_X0_X0_tellAhead {c0 : Cond} : (.selects RX0 yX0_tellAhead yX0_tellAhead : Cond) ∈ c0 :: GW := gw_of (tb1 (List.mem_of_getElem? (i := 66) (by decide +kernel))) rfl
theorem cd_X0_tellAhead {c0 : Cond} : (.code yX0_tellAhead prog_2_method_4_code 3 none : Cond) ∈ c0 :: GW := gw_of (tb1 (List.mem_of_getElem? (i := 67) (by decide +kernel))) rfl
theorem fl_X0_11 {c0 : Cond} : (.fieldLink RX0 11 "LineKeeper$Caches" "states" "[C" : Cond) ∈ c0 :: GW := gw_of (tb1 (List.mem_of_getElem? (i := 68) (by decide +kernel))) rfl
theorem fl_X0_15 {c0 : Cond} : (.fieldLink RX0 15 "LineKeeper$Caches" "uses" "[I" : Cond) ∈ c0 :: GW := gw_of (tb1 (List.mem_of_getElem? (i := 69) (by decide +kernel))) rfl
theorem fl_X0_19 {c0 : Cond} : (.fieldLink RX0 19 "LineKeeper$Caches" "leavings" "[I" : Cond) ∈ c0 :: GW := gw_of (tb1 (List.mem_of_getElem? (i := 70) (by decide +kernel))) rfl
theorem fl_X0_22 {c0 : Cond} : (.fieldLink RX0 22 "LineKeeper$Caches" "untried" "[Z" : Cond) ∈ c0 :: GW := gw_of (tb1 (List.mem_of_getElem? (i := 71) (by decide +kernel))) rfl
theorem fl_X0_26 {c0 : Cond} : (.fieldLink RX0 26 "LineKeeper$Caches" "aheads" "[Z" : Cond) ∈ c0 :: GW := gw_of (tb1 (List.mem_of_getElem? (i := 72) (by decide +kernel))) rfl
theorem fl_X0_29 {c0 : Cond} : (.fieldLink RX0 29 "LineKeeper$Caches" "missLines" "[I" : Cond) ∈ c0 :: GW := gw_of (tb1 (List.mem_of_getElem? (i := 73) (by decide +kernel))) rfl
theorem fl_X0_32 {c0 : Cond} : (.fieldLink RX0 32 "LineKeeper$Caches" "steps" "[I" : Cond) ∈ c0 :: GW := gw_of (tb1 (List.mem_of_getElem? (i := 74) (by decide +kernel))) rfl
theorem fl_X0_35 {c0 : Cond} : (.fieldLink RX0 35 "LineKeeper$Caches" "fetchedLines" "[I" : Cond) ∈ c0 :: GW := gw_of (tb1 (List.mem_of_getElem? (i := 75) (by decide +kernel))) rfl
theorem fl_X0_38 {c0 : Cond} : (.fieldLink RX0 38 "LineKeeper$Caches" "usefulLines" "[I" : Cond) ∈ c0 :: GW := gw_of (tb1 (List.mem_of_getElem? (i := 76) (by decide +kernel))) rfl
theorem fl_X0_41 {c0 : Cond} : (.fieldLink RX0 41 "LineKeeper$Caches" "wrongLines" "[I" : Cond) ∈ c0 :: GW := gw_of (tb1 (List.mem_of_getElem? (i := 77) (by decide +kernel))) rfl
theorem fl_X0_44 {c0 : Cond} : (.fieldLink RX0 44 "LineKeeper$Caches" "now" "I" : Cond) ∈ c0 :: GW := gw_of (tb1 (List.mem_of_getElem? (i := 78) (by decide +kernel))) rfl
theorem w_79 {c0 : Cond} : (.laysFinal "LineKeeper$Caches" "LineKeeper$Caches" "states" "[C" : Cond) ∈ c0 :: GW := gw_of (tb1 (List.mem_of_getElem? (i := 79) (by decide +kernel))) rfl
theorem w_81 {c0 : Cond} : (.laysFinal "LineKeeper$Caches" "LineKeeper$Caches" "uses" "[I" : Cond) ∈ c0 :: GW := gw_of (tb1 (List.mem_of_getElem? (i := 81) (by decide +kernel))) rfl
theorem w_83 {c0 : Cond} : (.laysFinal "LineKeeper$Caches" "LineKeeper$Caches" "leavings" "[I" : Cond) ∈ c0 :: GW := gw_of (tb1 (List.mem_of_getElem? (i := 83) (by decide +kernel))) rfl
theorem w_85 {c0 : Cond} : (.laysFinal "LineKeeper$Caches" "LineKeeper$Caches" "untried" "[Z" : Cond) ∈ c0 :: GW := gw_of (tb1 (List.mem_of_getElem? (i := 85) (by decide +kernel))) rfl
theorem w_87 {c0 : Cond} : (.laysFinal "LineKeeper$Caches" "LineKeeper$Caches" "aheads" "[Z" : Cond) ∈ c0 :: GW := gw_of (tb1 (List.mem_of_getElem? (i := 87) (by decide +kernel))) rfl
theorem w_89 {c0 : Cond} : (.laysFinal "LineKeeper$Caches" "LineKeeper$Caches" "missLines" "[I" : Cond) ∈ c0 :: GW := gw_of (tb1 (List.mem_of_getElem? (i := 89) (by decide +kernel))) rfl
theorem w_91 {c0 : Cond} : (.laysFinal "LineKeeper$Caches" "LineKeeper$Caches" "steps" "[I" : Cond) ∈ c0 :: GW := gw_of (tb1 (List.mem_of_getElem? (i := 91) (by decide +kernel))) rfl
theorem w_93 {c0 : Cond} : (.laysFinal "LineKeeper$Caches" "LineKeeper$Caches" "fetchedLines" "[I" : Cond) ∈ c0 :: GW := gw_of (tb1 (List.mem_of_getElem? (i := 93) (by decide +kernel))) rfl
theorem w_95 {c0 : Cond} : (.laysFinal "LineKeeper$Caches" "LineKeeper$Caches" "usefulLines" "[I" : Cond) ∈ c0 :: GW := gw_of (tb1 (List.mem_of_getElem? (i := 95) (by decide +kernel))) rfl
theorem w_97 {c0 : Cond} : (.laysFinal "LineKeeper$Caches" "LineKeeper$Caches" "wrongLines" "[I" : Cond) ∈ c0 :: GW := gw_of (tb1 (List.mem_of_getElem? (i := 97) (by decide +kernel))) rfl
theorem w_99 {c0 : Cond} : (.lays "LineKeeper$Caches" "LineKeeper$Caches" "now" "I" : Cond) ∈ c0 :: GW := gw_of (tb1 (List.mem_of_getElem? (i := 99) (by decide +kernel))) rfl
theorem w_101 {c0 : Cond} : (.superclass "LineKeeper$Caches" "java/lang/Object" : Cond) ∈ c0 :: GW := gw_of (tb1 (List.mem_of_getElem? (i := 101) (by decide +kernel))) rfl
theorem ac_102 {c0 : Cond} : (.arrayClass .char : Cond) ∈ c0 :: GW := gw_of (tb1 (List.mem_of_getElem? (i := 102) (by decide +kernel))) rfl
theorem ac_103 {c0 : Cond} : (.arrayClass .boolean : Cond) ∈ c0 :: GW := gw_of (tb1 (List.mem_of_getElem? (i := 103) (by decide +kernel))) rfl
theorem cl_X3_26 {c0 : Cond} : (.classLink RX3 26 RJx4a65c : Cond) ∈ c0 :: GW := gw_of (tb1 (List.mem_of_getElem? (i := 104) (by decide +kernel))) rfl
theorem inst_Jx4a65c {c0 : Cond} : (.instantiable RJx4a65c 3 : Cond) ∈ c0 :: GW := gw_of (tb1 (List.mem_of_getElem? (i := 105) (by decide +kernel))) rfl
theorem ml_X3_28 {c0 : Cond} : (.methodLink RX3 28 yJx4a65c_init_da8c8 : Cond) ∈ c0 :: GW := gw_of (tb1 (List.mem_of_getElem? (i := 106) (by decide +kernel))) rfl
theorem im_Jx4a65c_init_da8c8 {c0 : Cond} : (.instanceMethod yJx4a65c_init_da8c8 : Cond) ∈ c0 :: GW := gw_of (tb1 (List.mem_of_getElem? (i := 107) (by decide +kernel))) rfl
theorem cd_Jx4a65c_init_da8c8 {c0 : Cond} : (.code yJx4a65c_init_da8c8 prog_24_method_2_code 1 none : Cond) ∈ c0 :: GW := gw_of (tb1 (List.mem_of_getElem? (i := 108) (by decide +kernel))) rfl
theorem ml_Jx4a65c_1 {c0 : Cond} : (.methodLink RJx4a65c 1 yJxc12de_init_da8c8 : Cond) ∈ c0 :: GW := gw_of (tb1 (List.mem_of_getElem? (i := 109) (by decide +kernel))) rfl
theorem im_Jxc12de_init_da8c8 {c0 : Cond} : (.instanceMethod yJxc12de_init_da8c8 : Cond) ∈ c0 :: GW := gw_of (tb1 (List.mem_of_getElem? (i := 110) (by decide +kernel))) rfl
theorem cd_Jxc12de_init_da8c8 {c0 : Cond} : (.code yJxc12de_init_da8c8 prog_23_method_1_code 1 none : Cond) ∈ c0 :: GW := gw_of (tb1 (List.mem_of_getElem? (i := 111) (by decide +kernel))) rfl
theorem ml_Jxc12de_1 {c0 : Cond} : (.methodLink RJxc12de 1 yJxa1e45_init_da8c8 : Cond) ∈ c0 :: GW := gw_of (tb1 (List.mem_of_getElem? (i := 112) (by decide +kernel))) rfl
theorem im_Jxa1e45_init_da8c8 {c0 : Cond} : (.instanceMethod yJxa1e45_init_da8c8 : Cond) ∈ c0 :: GW := gw_of (tb1 (List.mem_of_getElem? (i := 113) (by decide +kernel))) rfl
theorem cd_Jxa1e45_init_da8c8 {c0 : Cond} : (.code yJxa1e45_init_da8c8 prog_22_method_1_code 1 none : Cond) ∈ c0 :: GW := gw_of (tb1 (List.mem_of_getElem? (i := 114) (by decide +kernel))) rfl
theorem ml_Jxa1e45_1 {c0 : Cond} : (.methodLink RJxa1e45 1 objectInit : Cond) ∈ c0 :: GW := gw_of (tb1 (List.mem_of_getElem? (i := 115) (by decide +kernel))) rfl
theorem fl_Jx4a65c_39 {c0 : Cond} : (.fieldLink RJx4a65c 39 "java/util/ArrayList" "DEFAULTCAPACITY_EMPTY_ELEMENTDATA" "[Ljava/lang/Object;" : Cond) ∈ c0 :: GW := gw_of (tb1 (List.mem_of_getElem? (i := 116) (by decide +kernel))) rfl
theorem n_117 : (.laysStatic "java/util/ArrayList" "DEFAULTCAPACITY_EMPTY_ELEMENTDATA" "[Ljava/lang/Object;" : Cond) ∈ lw_tbl := tb1 (List.mem_of_getElem? (i := 117) (by decide +kernel))
theorem fl_Jx4a65c_9 {c0 : Cond} : (.fieldLink RJx4a65c 9 "java/util/ArrayList" "elementData" "[Ljava/lang/Object;" : Cond) ∈ c0 :: GW := gw_of (tb1 (List.mem_of_getElem? (i := 118) (by decide +kernel))) rfl
theorem fl_Jx4a65c_48 {c0 : Cond} : (.fieldLink RJx4a65c 48 "java/util/ArrayList" "size" "I" : Cond) ∈ c0 :: GW := gw_of (tb1 (List.mem_of_getElem? (i := 119) (by decide +kernel))) rfl
theorem fl_Jxc12de_7 {c0 : Cond} : (.fieldLink RJxc12de 7 "java/util/AbstractList" "modCount" "I" : Cond) ∈ c0 :: GW := gw_of (tb1 (List.mem_of_getElem? (i := 120) (by decide +kernel))) rfl
theorem fl_Jx4a65c_63 {c0 : Cond} : (.fieldLink RJx4a65c 63 "java/util/ArrayList" "modCount" "I" : Cond) ∈ c0 :: GW := gw_of (tb1 (List.mem_of_getElem? (i := 121) (by decide +kernel))) rfl
theorem w_122 {c0 : Cond} : (.sameField "java/util/ArrayList" "java/util/AbstractList" "modCount" "I" : Cond) ∈ c0 :: GW := gw_of (tb1 (List.mem_of_getElem? (i := 122) (by decide +kernel))) rfl
theorem w_123 {c0 : Cond} : (.lays "java/util/ArrayList" "java/util/ArrayList" "elementData" "[Ljava/lang/Object;" : Cond) ∈ c0 :: GW := gw_of (tb1 (List.mem_of_getElem? (i := 123) (by decide +kernel))) rfl
theorem w_125 {c0 : Cond} : (.lays "java/util/ArrayList" "java/util/ArrayList" "size" "I" : Cond) ∈ c0 :: GW := gw_of (tb1 (List.mem_of_getElem? (i := 125) (by decide +kernel))) rfl
theorem w_127 {c0 : Cond} : (.lays "java/util/ArrayList" "java/util/AbstractList" "modCount" "I" : Cond) ∈ c0 :: GW := gw_of (tb1 (List.mem_of_getElem? (i := 127) (by decide +kernel))) rfl
theorem w_129 {c0 : Cond} : (.superclass "java/util/ArrayList" "java/util/AbstractList" : Cond) ∈ c0 :: GW := gw_of (tb1 (List.mem_of_getElem? (i := 129) (by decide +kernel))) rfl
theorem fl_X3_10 {c0 : Cond} : (.fieldLink RX3 10 "LineKeeper" "layout" "LLineKeeper$Layout;" : Cond) ∈ c0 :: GW := gw_of (tb1 (List.mem_of_getElem? (i := 130) (by decide +kernel))) rfl
theorem fl_X3_19 {c0 : Cond} : (.fieldLink RX3 19 "LineKeeper" "caches" "LLineKeeper$Caches;" : Cond) ∈ c0 :: GW := gw_of (tb1 (List.mem_of_getElem? (i := 131) (by decide +kernel))) rfl
theorem fl_X3_23 {c0 : Cond} : (.fieldLink RX3 23 "LineKeeper" "replayed" "LLineKeeper$Caches;" : Cond) ∈ c0 :: GW := gw_of (tb1 (List.mem_of_getElem? (i := 132) (by decide +kernel))) rfl
theorem fl_X3_29 {c0 : Cond} : (.fieldLink RX3 29 "LineKeeper" "events" "Ljava/util/List;" : Cond) ∈ c0 :: GW := gw_of (tb1 (List.mem_of_getElem? (i := 133) (by decide +kernel))) rfl
theorem fl_X3_33 {c0 : Cond} : (.fieldLink RX3 33 "LineKeeper" "accesses" "Ljava/util/List;" : Cond) ∈ c0 :: GW := gw_of (tb1 (List.mem_of_getElem? (i := 134) (by decide +kernel))) rfl
theorem w_135 {c0 : Cond} : (.laysFinal "LineKeeper" "LineKeeper" "layout" "LLineKeeper$Layout;" : Cond) ∈ c0 :: GW := gw_of (tb1 (List.mem_of_getElem? (i := 135) (by decide +kernel))) rfl
theorem w_137 {c0 : Cond} : (.laysFinal "LineKeeper" "LineKeeper" "caches" "LLineKeeper$Caches;" : Cond) ∈ c0 :: GW := gw_of (tb1 (List.mem_of_getElem? (i := 137) (by decide +kernel))) rfl
theorem w_139 {c0 : Cond} : (.laysFinal "LineKeeper" "LineKeeper" "replayed" "LLineKeeper$Caches;" : Cond) ∈ c0 :: GW := gw_of (tb1 (List.mem_of_getElem? (i := 139) (by decide +kernel))) rfl
theorem w_141 {c0 : Cond} : (.laysFinal "LineKeeper" "LineKeeper" "events" "Ljava/util/List;" : Cond) ∈ c0 :: GW := gw_of (tb1 (List.mem_of_getElem? (i := 141) (by decide +kernel))) rfl
theorem w_143 {c0 : Cond} : (.laysFinal "LineKeeper" "LineKeeper" "accesses" "Ljava/util/List;" : Cond) ∈ c0 :: GW := gw_of (tb1 (List.mem_of_getElem? (i := 143) (by decide +kernel))) rfl
theorem w_145 {c0 : Cond} : (.superclass "LineKeeper" "java/lang/Object" : Cond) ∈ c0 :: GW := gw_of (tb1 (List.mem_of_getElem? (i := 145) (by decide +kernel))) rfl
theorem ml_L_163 {c0 : Cond} : (.methodLink RL 163 yX3_accesses : Cond) ∈ c0 :: GW := gw_of (tb1 (List.mem_of_getElem? (i := 146) (by decide +kernel))) rfl
theorem im_X3_accesses {c0 : Cond} : (.instanceMethod yX3_accesses : Cond) ∈ c0 :: GW := gw_of (tb1 (List.mem_of_getElem? (i := 147) (by decide +kernel))) rfl
theorem se_X3_X3_accesses {c0 : Cond} : (.selects RX3 yX3_accesses yX3_accesses : Cond) ∈ c0 :: GW := gw_of (tb1 (List.mem_of_getElem? (i := 148) (by decide +kernel))) rfl
theorem cd_X3_accesses {c0 : Cond} : (.code yX3_accesses prog_1_method_13_code 1 (some .int) : Cond) ∈ c0 :: GW := gw_of (tb1 (List.mem_of_getElem? (i := 149) (by decide +kernel))) rfl
theorem n_150 : (.interfaceEntry "LineKeeper" 141 : Cond) ∈ lw_tbl := tb1 (List.mem_of_getElem? (i := 150) (by decide +kernel))
theorem ml_X3_141 {c0 : Cond} : (.methodLink RX3 141 ⟨"java/util/List", "size", "()I"⟩ : Cond) ∈ c0 :: GW := gw_of (tb1 (List.mem_of_getElem? (i := 151) (by decide +kernel))) rfl
theorem n_152 : (.interfaceMethod "java/util/List" "java/util/List" "size" "()I" : Cond) ∈ lw_tbl := tb1 (List.mem_of_getElem? (i := 152) (by decide +kernel))
theorem n_153 : (.declares ⟨"java/util/List", "size", "()I"⟩ : Cond) ∈ lw_tbl := tb1 (List.mem_of_getElem? (i := 153) (by decide +kernel))
theorem n_154 : (.castable "java/util/ArrayList" "java/util/List" : Cond) ∈ lw_tbl := tb1 (List.mem_of_getElem? (i := 154) (by decide +kernel))
theorem se_Jx4a65c_Jxbd725_size_0699_Jx4a65c_size_8abf5 {c0 : Cond} : (.selects RJx4a65c ⟨"java/util/List", "size", "()I"⟩ yJx4a65c_size_8abf5 : Cond) ∈ c0 :: GW := gw_of (tb1 (List.mem_of_getElem? (i := 155) (by decide +kernel))) rfl
theorem n_156 : (.unhidden "java/util/ArrayList" "size" "()I" : Cond) ∈ lw_tbl := tb1 (List.mem_of_getElem? (i := 156) (by decide +kernel))
theorem im_Jx4a65c_size_8abf5 {c0 : Cond} : (.instanceMethod yJx4a65c_size_8abf5 : Cond) ∈ c0 :: GW := gw_of (tb1 (List.mem_of_getElem? (i := 157) (by decide +kernel))) rfl
theorem n_158 : (.publicMethod ⟨"java/util/ArrayList", "size", "()I"⟩ : Cond) ∈ lw_tbl := tb1 (List.mem_of_getElem? (i := 158) (by decide +kernel))
theorem cd_Jx4a65c_size_8abf5 {c0 : Cond} : (.code yJx4a65c_size_8abf5 prog_24_method_8_code 1 (some .int) : Cond) ∈ c0 :: GW := gw_of (tb1 (List.mem_of_getElem? (i := 159) (by decide +kernel))) rfl
theorem ml_L_221 {c0 : Cond} : (.methodLink RL 221 yX3_isCoherent : Cond) ∈ c0 :: GW := gw_of (tb1 (List.mem_of_getElem? (i := 160) (by decide +kernel))) rfl
theorem im_X3_isCoherent {c0 : Cond} : (.instanceMethod yX3_isCoherent : Cond) ∈ c0 :: GW := gw_of (tb1 (List.mem_of_getElem? (i := 161) (by decide +kernel))) rfl
theorem se_X3_X3_isCoherent {c0 : Cond} : (.selects RX3 yX3_isCoherent yX3_isCoherent : Cond) ∈ c0 :: GW := gw_of (tb1 (List.mem_of_getElem? (i := 162) (by decide +kernel))) rfl
theorem cd_X3_isCoherent {c0 : Cond} : (.code yX3_isCoherent prog_1_method_31_code 1 (some .boolean) : Cond) ∈ c0 :: GW := gw_of (tb1 (List.mem_of_getElem? (i := 163) (by decide +kernel))) rfl
theorem ml_X3_227 {c0 : Cond} : (.methodLink RX3 227 yX0_hasLoneOwners : Cond) ∈ c0 :: GW := gw_of (tb1 (List.mem_of_getElem? (i := 164) (by decide +kernel))) rfl
theorem im_X0_hasLoneOwners {c0 : Cond} : (.instanceMethod yX0_hasLoneOwners : Cond) ∈ c0 :: GW := gw_of (tb1 (List.mem_of_getElem? (i := 165) (by decide +kernel))) rfl
theorem se_X0_X0_hasLoneOwners {c0 : Cond} : (.selects RX0 yX0_hasLoneOwners yX0_hasLoneOwners : Cond) ∈ c0 :: GW := gw_of (tb1 (List.mem_of_getElem? (i := 166) (by decide +kernel))) rfl
theorem cd_X0_hasLoneOwners {c0 : Cond} : (.code yX0_hasLoneOwners prog_2_method_13_code 2 (some .boolean) : Cond) ∈ c0 :: GW := gw_of (tb1 (List.mem_of_getElem? (i := 167) (by decide +kernel))) rfl
theorem ml_X0_55 {c0 : Cond} : (.methodLink RX0 55 yX0_ownerOf : Cond) ∈ c0 :: GW := gw_of (tb1 (List.mem_of_getElem? (i := 168) (by decide +kernel))) rfl
theorem im_X0_ownerOf {c0 : Cond} : (.instanceMethod yX0_ownerOf : Cond) ∈ c0 :: GW := gw_of (tb1 (List.mem_of_getElem? (i := 169) (by decide +kernel))) rfl
theorem se_X0_X0_ownerOf {c0 : Cond} : (.selects RX0 yX0_ownerOf yX0_ownerOf : Cond) ∈ c0 :: GW := gw_of (tb1 (List.mem_of_getElem? (i := 170) (by decide +kernel))) rfl
theorem cd_X0_ownerOf {c0 : Cond} : (.code yX0_ownerOf prog_2_method_9_code 4 (some .int) : Cond) ∈ c0 :: GW := gw_of (tb1 (List.mem_of_getElem? (i := 171) (by decide +kernel))) rfl
theorem ml_X0_59 {c0 : Cond} : (.methodLink RX0 59 yX0_countHolders : Cond) ∈ c0 :: GW := gw_of (tb1 (List.mem_of_getElem? (i := 172) (by decide +kernel))) rfl
theorem im_X0_countHolders {c0 : Cond} : (.instanceMethod yX0_countHolders : Cond) ∈ c0 :: GW := gw_of (tb1 (List.mem_of_getElem? (i := 173) (by decide +kernel))) rfl
theorem se_X0_X0_countHolders {c0 : Cond} : (.selects RX0 yX0_countHolders yX0_countHolders : Cond) ∈ c0 :: GW := gw_of (tb1 (List.mem_of_getElem? (i := 174) (by decide +kernel))) rfl
theorem cd_X0_countHolders {c0 : Cond} : (.code yX0_countHolders prog_2_method_10_code 4 (some .int) : Cond) ∈ c0 :: GW := gw_of (tb1 (List.mem_of_getElem? (i := 175) (by decide +kernel))) rfl
theorem ml_X3_230 {c0 : Cond} : (.methodLink RX3 230 yX3_isSameByReplay : Cond) ∈ c0 :: GW := gw_of (tb1 (List.mem_of_getElem? (i := 176) (by decide +kernel))) rfl
theorem im_X3_isSameByReplay {c0 : Cond} : (.instanceMethod yX3_isSameByReplay : Cond) ∈ c0 :: GW := gw_of (tb1 (List.mem_of_getElem? (i := 178) (by decide +kernel))) rfl
theorem cd_X3_isSameByReplay {c0 : Cond} : (.code yX3_isSameByReplay prog_1_method_43_code 3 (some .boolean) : Cond) ∈ c0 :: GW := gw_of (tb1 (List.mem_of_getElem? (i := 179) (by decide +kernel))) rfl
theorem ml_X3_267 {c0 : Cond} : (.methodLink RX3 267 yX0_clear : Cond) ∈ c0 :: GW := gw_of (tb1 (List.mem_of_getElem? (i := 180) (by decide +kernel))) rfl
theorem n_181 : (.interfaceEntry "LineKeeper" 148 : Cond) ∈ lw_tbl := tb1 (List.mem_of_getElem? (i := 181) (by decide +kernel))
theorem ml_X3_148 {c0 : Cond} : (.methodLink RX3 148 ⟨"java/util/List", "get", "(I)Ljava/lang/Object;"⟩ : Cond) ∈ c0 :: GW := gw_of (tb1 (List.mem_of_getElem? (i := 182) (by decide +kernel))) rfl
theorem n_183 : (.interfaceMethod "java/util/List" "java/util/List" "get" "(I)Ljava/lang/Object;" : Cond) ∈ lw_tbl := tb1 (List.mem_of_getElem? (i := 183) (by decide +kernel))
theorem n_184 : (.declares ⟨"java/util/List", "get", "(I)Ljava/lang/Object;"⟩ : Cond) ∈ lw_tbl := tb1 (List.mem_of_getElem? (i := 184) (by decide +kernel))
theorem se_Jx4a65c_Jxbd725_get_3715_Jx4a65c_get_915e3 {c0 : Cond} : (.selects RJx4a65c ⟨"java/util/List", "get", "(I)Ljava/lang/Object;"⟩ yJx4a65c_get_915e3 : Cond) ∈ c0 :: GW := gw_of (tb1 (List.mem_of_getElem? (i := 185) (by decide +kernel))) rfl
theorem n_186 : (.unhidden "java/util/ArrayList" "get" "(I)Ljava/lang/Object;" : Cond) ∈ lw_tbl := tb1 (List.mem_of_getElem? (i := 186) (by decide +kernel))
theorem im_Jx4a65c_get_915e3 {c0 : Cond} : (.instanceMethod yJx4a65c_get_915e3 : Cond) ∈ c0 :: GW := gw_of (tb1 (List.mem_of_getElem? (i := 187) (by decide +kernel))) rfl
theorem n_188 : (.publicMethod ⟨"java/util/ArrayList", "get", "(I)Ljava/lang/Object;"⟩ : Cond) ∈ lw_tbl := tb1 (List.mem_of_getElem? (i := 188) (by decide +kernel))
theorem cd_Jx4a65c_get_915e3 {c0 : Cond} : (.code yJx4a65c_get_915e3 prog_24_method_20_code 2 (some (.object "java/lang/Object")) : Cond) ∈ c0 :: GW := gw_of (tb1 (List.mem_of_getElem? (i := 189) (by decide +kernel))) rfl
theorem ml_Jx4a65c_118 {c0 : Cond} : (.methodLink RJx4a65c 118 yJ15_checkIndex_7cf53 : Cond) ∈ c0 :: GW := gw_of (tb1 (List.mem_of_getElem? (i := 190) (by decide +kernel))) rfl
theorem sm_J15_checkIndex_7cf53 {c0 : Cond} : (.static yJ15_checkIndex_7cf53 : Cond) ∈ c0 :: GW := gw_of (tb1 (List.mem_of_getElem? (i := 191) (by decide +kernel))) rfl
theorem cd_J15_checkIndex_7cf53 {c0 : Cond} : (.code yJ15_checkIndex_7cf53 prog_29_method_17_code 2 (some .int) : Cond) ∈ c0 :: GW := gw_of (tb1 (List.mem_of_getElem? (i := 192) (by decide +kernel))) rfl
theorem ml_J15_105 {c0 : Cond} : (.methodLink RJ15 105 yJ3_checkIndex_8e157 : Cond) ∈ c0 :: GW := gw_of (tb1 (List.mem_of_getElem? (i := 193) (by decide +kernel))) rfl
theorem sm_J3_checkIndex_8e157 {c0 : Cond} : (.static yJ3_checkIndex_8e157 : Cond) ∈ c0 :: GW := gw_of (tb1 (List.mem_of_getElem? (i := 194) (by decide +kernel))) rfl
theorem cd_J3_checkIndex_8e157 {c0 : Cond} : (.code yJ3_checkIndex_8e157 prog_33_method_11_code 3 (some .int) : Cond) ∈ c0 :: GW := gw_of (tb1 (List.mem_of_getElem? (i := 195) (by decide +kernel))) rfl
theorem ml_Jx4a65c_123 {c0 : Cond} : (.methodLink RJx4a65c 123 yJx4a65c_elementData_915e3 : Cond) ∈ c0 :: GW := gw_of (tb1 (List.mem_of_getElem? (i := 196) (by decide +kernel))) rfl
theorem im_Jx4a65c_elementData_915e3 {c0 : Cond} : (.instanceMethod yJx4a65c_elementData_915e3 : Cond) ∈ c0 :: GW := gw_of (tb1 (List.mem_of_getElem? (i := 197) (by decide +kernel))) rfl
theorem se_Jx4a65c_Jx4a65c_elementData_915e3 {c0 : Cond} : (.selects RJx4a65c yJx4a65c_elementData_915e3 yJx4a65c_elementData_915e3 : Cond) ∈ c0 :: GW := gw_of (tb1 (List.mem_of_getElem? (i := 198) (by decide +kernel))) rfl
theorem cd_Jx4a65c_elementData_915e3 {c0 : Cond} : (.code yJx4a65c_elementData_915e3 prog_24_method_18_code 2 (some (.object "java/lang/Object")) : Cond) ∈ c0 :: GW := gw_of (tb1 (List.mem_of_getElem? (i := 199) (by decide +kernel))) rfl
theorem cl_X3_113 {c0 : Cond} : (.classLink RX3 113 RX1 : Cond) ∈ c0 :: GW := gw_of (tb1 (List.mem_of_getElem? (i := 200) (by decide +kernel))) rfl
theorem ml_X3_274 {c0 : Cond} : (.methodLink RX3 274 yX1_isAccess : Cond) ∈ c0 :: GW := gw_of (tb1 (List.mem_of_getElem? (i := 201) (by decide +kernel))) rfl
theorem im_X1_isAccess {c0 : Cond} : (.instanceMethod yX1_isAccess : Cond) ∈ c0 :: GW := gw_of (tb1 (List.mem_of_getElem? (i := 202) (by decide +kernel))) rfl
theorem se_X1_X1_isAccess {c0 : Cond} : (.selects RX1 yX1_isAccess yX1_isAccess : Cond) ∈ c0 :: GW := gw_of (tb1 (List.mem_of_getElem? (i := 203) (by decide +kernel))) rfl
theorem cd_X1_isAccess {c0 : Cond} : (.code yX1_isAccess prog_3_method_3_code 1 (some .boolean) : Cond) ∈ c0 :: GW := gw_of (tb1 (List.mem_of_getElem? (i := 204) (by decide +kernel))) rfl
theorem ml_X3_280 {c0 : Cond} : (.methodLink RX3 280 yX1_isWrite : Cond) ∈ c0 :: GW := gw_of (tb1 (List.mem_of_getElem? (i := 205) (by decide +kernel))) rfl
theorem im_X1_isWrite {c0 : Cond} : (.instanceMethod yX1_isWrite : Cond) ∈ c0 :: GW := gw_of (tb1 (List.mem_of_getElem? (i := 206) (by decide +kernel))) rfl
theorem se_X1_X1_isWrite {c0 : Cond} : (.selects RX1 yX1_isWrite yX1_isWrite : Cond) ∈ c0 :: GW := gw_of (tb1 (List.mem_of_getElem? (i := 207) (by decide +kernel))) rfl
theorem cd_X1_isWrite {c0 : Cond} : (.code yX1_isWrite prog_3_method_4_code 1 (some .boolean) : Cond) ∈ c0 :: GW := gw_of (tb1 (List.mem_of_getElem? (i := 208) (by decide +kernel))) rfl
theorem ml_X3_256 {c0 : Cond} : (.methodLink RX3 256 yX0_causeOfNext : Cond) ∈ c0 :: GW := gw_of (tb1 (List.mem_of_getElem? (i := 209) (by decide +kernel))) rfl
theorem im_X0_causeOfNext {c0 : Cond} : (.instanceMethod yX0_causeOfNext : Cond) ∈ c0 :: GW := gw_of (tb1 (List.mem_of_getElem? (i := 210) (by decide +kernel))) rfl
theorem se_X0_X0_causeOfNext {c0 : Cond} : (.selects RX0 yX0_causeOfNext yX0_causeOfNext : Cond) ∈ c0 :: GW := gw_of (tb1 (List.mem_of_getElem? (i := 211) (by decide +kernel))) rfl
theorem cd_X0_causeOfNext {c0 : Cond} : (.code yX0_causeOfNext prog_2_method_15_code 7 (some .char) : Cond) ∈ c0 :: GW := gw_of (tb1 (List.mem_of_getElem? (i := 212) (by decide +kernel))) rfl
theorem ml_X3_270 {c0 : Cond} : (.methodLink RX3 270 yX3_replay : Cond) ∈ c0 :: GW := gw_of (tb1 (List.mem_of_getElem? (i := 213) (by decide +kernel))) rfl
theorem im_X3_replay {c0 : Cond} : (.instanceMethod yX3_replay : Cond) ∈ c0 :: GW := gw_of (tb1 (List.mem_of_getElem? (i := 215) (by decide +kernel))) rfl
theorem cd_X3_replay {c0 : Cond} : (.code yX3_replay prog_1_method_44_code 2 (some .int) : Cond) ∈ c0 :: GW := gw_of (tb1 (List.mem_of_getElem? (i := 216) (by decide +kernel))) rfl
theorem ml_X3_260 {c0 : Cond} : (.methodLink RX3 260 yX0_makeAccess : Cond) ∈ c0 :: GW := gw_of (tb1 (List.mem_of_getElem? (i := 217) (by decide +kernel))) rfl
theorem im_X0_makeAccess {c0 : Cond} : (.instanceMethod yX0_makeAccess : Cond) ∈ c0 :: GW := gw_of (tb1 (List.mem_of_getElem? (i := 218) (by decide +kernel))) rfl
theorem se_X0_X0_makeAccess {c0 : Cond} : (.selects RX0 yX0_makeAccess yX0_makeAccess : Cond) ∈ c0 :: GW := gw_of (tb1 (List.mem_of_getElem? (i := 219) (by decide +kernel))) rfl
theorem cd_X0_makeAccess {c0 : Cond} : (.code yX0_makeAccess prog_2_method_16_code 9 (some .int) : Cond) ∈ c0 :: GW := gw_of (tb1 (List.mem_of_getElem? (i := 220) (by decide +kernel))) rfl
theorem ml_X0_62 {c0 : Cond} : (.methodLink RX0 62 yX0_costOfNext : Cond) ∈ c0 :: GW := gw_of (tb1 (List.mem_of_getElem? (i := 221) (by decide +kernel))) rfl
theorem im_X0_costOfNext {c0 : Cond} : (.instanceMethod yX0_costOfNext : Cond) ∈ c0 :: GW := gw_of (tb1 (List.mem_of_getElem? (i := 223) (by decide +kernel))) rfl
theorem cd_X0_costOfNext {c0 : Cond} : (.code yX0_costOfNext prog_2_method_18_code 5 (some .int) : Cond) ∈ c0 :: GW := gw_of (tb1 (List.mem_of_getElem? (i := 224) (by decide +kernel))) rfl
theorem ml_X0_66 {c0 : Cond} : (.methodLink RX0 66 yX0_makeRoom : Cond) ∈ c0 :: GW := gw_of (tb1 (List.mem_of_getElem? (i := 225) (by decide +kernel))) rfl
theorem im_X0_makeRoom {c0 : Cond} : (.instanceMethod yX0_makeRoom : Cond) ∈ c0 :: GW := gw_of (tb1 (List.mem_of_getElem? (i := 227) (by decide +kernel))) rfl
theorem cd_X0_makeRoom {c0 : Cond} : (.code yX0_makeRoom prog_2_method_19_code 6 (some .boolean) : Cond) ∈ c0 :: GW := gw_of (tb1 (List.mem_of_getElem? (i := 228) (by decide +kernel))) rfl
theorem ml_X0_98 {c0 : Cond} : (.methodLink RX0 98 yX0_oldestOf : Cond) ∈ c0 :: GW := gw_of (tb1 (List.mem_of_getElem? (i := 229) (by decide +kernel))) rfl
theorem im_X0_oldestOf {c0 : Cond} : (.instanceMethod yX0_oldestOf : Cond) ∈ c0 :: GW := gw_of (tb1 (List.mem_of_getElem? (i := 230) (by decide +kernel))) rfl
theorem se_X0_X0_oldestOf {c0 : Cond} : (.selects RX0 yX0_oldestOf yX0_oldestOf : Cond) ∈ c0 :: GW := gw_of (tb1 (List.mem_of_getElem? (i := 231) (by decide +kernel))) rfl
theorem cd_X0_oldestOf {c0 : Cond} : (.code yX0_oldestOf prog_2_method_12_code 7 (some .int) : Cond) ∈ c0 :: GW := gw_of (tb1 (List.mem_of_getElem? (i := 232) (by decide +kernel))) rfl
theorem ml_X0_101 {c0 : Cond} : (.methodLink RX0 101 yX0_countLines : Cond) ∈ c0 :: GW := gw_of (tb1 (List.mem_of_getElem? (i := 233) (by decide +kernel))) rfl
theorem im_X0_countLines {c0 : Cond} : (.instanceMethod yX0_countLines : Cond) ∈ c0 :: GW := gw_of (tb1 (List.mem_of_getElem? (i := 234) (by decide +kernel))) rfl
theorem se_X0_X0_countLines {c0 : Cond} : (.selects RX0 yX0_countLines yX0_countLines : Cond) ∈ c0 :: GW := gw_of (tb1 (List.mem_of_getElem? (i := 235) (by decide +kernel))) rfl
theorem cd_X0_countLines {c0 : Cond} : (.code yX0_countLines prog_2_method_11_code 5 (some .int) : Cond) ∈ c0 :: GW := gw_of (tb1 (List.mem_of_getElem? (i := 236) (by decide +kernel))) rfl
theorem ml_X0_95 {c0 : Cond} : (.methodLink RX0 95 yX0_drop : Cond) ∈ c0 :: GW := gw_of (tb1 (List.mem_of_getElem? (i := 237) (by decide +kernel))) rfl
theorem im_X0_drop {c0 : Cond} : (.instanceMethod yX0_drop : Cond) ∈ c0 :: GW := gw_of (tb1 (List.mem_of_getElem? (i := 239) (by decide +kernel))) rfl
theorem cd_X0_drop {c0 : Cond} : (.code yX0_drop prog_2_method_23_code 5 none : Cond) ∈ c0 :: GW := gw_of (tb2 (List.mem_of_getElem? (i := 0) (by decide +kernel))) rfl
theorem ml_X0_70 {c0 : Cond} : (.methodLink RX0 70 yX0_shareAll : Cond) ∈ c0 :: GW := gw_of (tb2 (List.mem_of_getElem? (i := 1) (by decide +kernel))) rfl
theorem im_X0_shareAll {c0 : Cond} : (.instanceMethod yX0_shareAll : Cond) ∈ c0 :: GW := gw_of (tb2 (List.mem_of_getElem? (i := 3) (by decide +kernel))) rfl
theorem cd_X0_shareAll {c0 : Cond} : (.code yX0_shareAll prog_2_method_20_code 4 none : Cond) ∈ c0 :: GW := gw_of (tb2 (List.mem_of_getElem? (i := 4) (by decide +kernel))) rfl
theorem ml_X0_74 {c0 : Cond} : (.methodLink RX0 74 yX0_bring : Cond) ∈ c0 :: GW := gw_of (tb2 (List.mem_of_getElem? (i := 5) (by decide +kernel))) rfl
theorem im_X0_bring {c0 : Cond} : (.instanceMethod yX0_bring : Cond) ∈ c0 :: GW := gw_of (tb2 (List.mem_of_getElem? (i := 7) (by decide +kernel))) rfl
theorem cd_X0_bring {c0 : Cond} : (.code yX0_bring prog_2_method_21_code 4 none : Cond) ∈ c0 :: GW := gw_of (tb2 (List.mem_of_getElem? (i := 8) (by decide +kernel))) rfl
theorem ml_X0_78 {c0 : Cond} : (.methodLink RX0 78 yX0_dropElsewhere : Cond) ∈ c0 :: GW := gw_of (tb2 (List.mem_of_getElem? (i := 9) (by decide +kernel))) rfl
theorem im_X0_dropElsewhere {c0 : Cond} : (.instanceMethod yX0_dropElsewhere : Cond) ∈ c0 :: GW := gw_of (tb2 (List.mem_of_getElem? (i := 11) (by decide +kernel))) rfl
theorem cd_X0_dropElsewhere {c0 : Cond} : (.code yX0_dropElsewhere prog_2_method_24_code 5 none : Cond) ∈ c0 :: GW := gw_of (tb2 (List.mem_of_getElem? (i := 12) (by decide +kernel))) rfl
theorem ml_X0_82 {c0 : Cond} : (.methodLink RX0 82 yX0_use : Cond) ∈ c0 :: GW := gw_of (tb2 (List.mem_of_getElem? (i := 13) (by decide +kernel))) rfl
theorem im_X0_use {c0 : Cond} : (.instanceMethod yX0_use : Cond) ∈ c0 :: GW := gw_of (tb2 (List.mem_of_getElem? (i := 15) (by decide +kernel))) rfl
theorem cd_X0_use {c0 : Cond} : (.code yX0_use prog_2_method_22_code 4 none : Cond) ∈ c0 :: GW := gw_of (tb2 (List.mem_of_getElem? (i := 16) (by decide +kernel))) rfl
theorem ml_X0_85 {c0 : Cond} : (.methodLink RX0 85 yX0_learn : Cond) ∈ c0 :: GW := gw_of (tb2 (List.mem_of_getElem? (i := 17) (by decide +kernel))) rfl
theorem im_X0_learn {c0 : Cond} : (.instanceMethod yX0_learn : Cond) ∈ c0 :: GW := gw_of (tb2 (List.mem_of_getElem? (i := 19) (by decide +kernel))) rfl
theorem cd_X0_learn {c0 : Cond} : (.code yX0_learn prog_2_method_25_code 6 (some .int) : Cond) ∈ c0 :: GW := gw_of (tb2 (List.mem_of_getElem? (i := 20) (by decide +kernel))) rfl
theorem ml_X0_89 {c0 : Cond} : (.methodLink RX0 89 yX0_canFetch : Cond) ∈ c0 :: GW := gw_of (tb2 (List.mem_of_getElem? (i := 21) (by decide +kernel))) rfl
theorem im_X0_canFetch {c0 : Cond} : (.instanceMethod yX0_canFetch : Cond) ∈ c0 :: GW := gw_of (tb2 (List.mem_of_getElem? (i := 23) (by decide +kernel))) rfl
theorem cd_X0_canFetch {c0 : Cond} : (.code yX0_canFetch prog_2_method_26_code 3 (some .boolean) : Cond) ∈ c0 :: GW := gw_of (tb2 (List.mem_of_getElem? (i := 24) (by decide +kernel))) rfl
theorem ml_X0_92 {c0 : Cond} : (.methodLink RX0 92 yX0_fetch : Cond) ∈ c0 :: GW := gw_of (tb2 (List.mem_of_getElem? (i := 25) (by decide +kernel))) rfl
theorem im_X0_fetch {c0 : Cond} : (.instanceMethod yX0_fetch : Cond) ∈ c0 :: GW := gw_of (tb2 (List.mem_of_getElem? (i := 27) (by decide +kernel))) rfl
theorem cd_X0_fetch {c0 : Cond} : (.code yX0_fetch prog_2_method_27_code 3 none : Cond) ∈ c0 :: GW := gw_of (tb2 (List.mem_of_getElem? (i := 28) (by decide +kernel))) rfl
theorem ml_X3_131 {c0 : Cond} : (.methodLink RX3 131 yX0_dropAll : Cond) ∈ c0 :: GW := gw_of (tb2 (List.mem_of_getElem? (i := 29) (by decide +kernel))) rfl
theorem im_X0_dropAll {c0 : Cond} : (.instanceMethod yX0_dropAll : Cond) ∈ c0 :: GW := gw_of (tb2 (List.mem_of_getElem? (i := 30) (by decide +kernel))) rfl
theorem se_X0_X0_dropAll {c0 : Cond} : (.selects RX0 yX0_dropAll yX0_dropAll : Cond) ∈ c0 :: GW := gw_of (tb2 (List.mem_of_getElem? (i := 31) (by decide +kernel))) rfl
theorem cd_X0_dropAll {c0 : Cond} : (.code yX0_dropAll prog_2_method_17_code 4 (some .int) : Cond) ∈ c0 :: GW := gw_of (tb2 (List.mem_of_getElem? (i := 32) (by decide +kernel))) rfl
theorem ml_X3_137 {c0 : Cond} : (.methodLink RX3 137 yX0_tellAhead : Cond) ∈ c0 :: GW := gw_of (tb2 (List.mem_of_getElem? (i := 33) (by decide +kernel))) rfl
theorem ml_X3_283 {c0 : Cond} : (.methodLink RX3 283 yX0_hasStatesOf : Cond) ∈ c0 :: GW := gw_of (tb2 (List.mem_of_getElem? (i := 34) (by decide +kernel))) rfl
theorem im_X0_hasStatesOf {c0 : Cond} : (.instanceMethod yX0_hasStatesOf : Cond) ∈ c0 :: GW := gw_of (tb2 (List.mem_of_getElem? (i := 35) (by decide +kernel))) rfl
theorem se_X0_X0_hasStatesOf {c0 : Cond} : (.selects RX0 yX0_hasStatesOf yX0_hasStatesOf : Cond) ∈ c0 :: GW := gw_of (tb2 (List.mem_of_getElem? (i := 36) (by decide +kernel))) rfl
theorem cd_X0_hasStatesOf {c0 : Cond} : (.code yX0_hasStatesOf prog_2_method_14_code 3 (some .boolean) : Cond) ∈ c0 :: GW := gw_of (tb2 (List.mem_of_getElem? (i := 37) (by decide +kernel))) rfl
theorem ml_L_121 {c0 : Cond} : (.methodLink RL 121 yL_addName : Cond) ∈ c0 :: GW := gw_of (tb2 (List.mem_of_getElem? (i := 38) (by decide +kernel))) rfl
theorem sm_L_addName {c0 : Cond} : (.static yL_addName : Cond) ∈ c0 :: GW := gw_of (tb2 (List.mem_of_getElem? (i := 39) (by decide +kernel))) rfl
theorem cw_L_addName {c0 : Cond} : (.codeWith yL_addName method_3_code 4 (some .int) [(0, 9, 12, 13), (0, 9, 15, 15)] : Cond) ∈ c0 :: GW := gw_of (tb2 (List.mem_of_getElem? (i := 40) (by decide +kernel))) rfl
theorem cl_L_13 {c0 : Cond} : (.classLink RL 13 "java/lang/IllegalArgumentException" : Cond) ∈ c0 :: GW := gw_of (tb2 (List.mem_of_getElem? (i := 41) (by decide +kernel))) rfl
theorem cl_L_15 {c0 : Cond} : (.classLink RL 15 "java/lang/IllegalStateException" : Cond) ∈ c0 :: GW := gw_of (tb2 (List.mem_of_getElem? (i := 42) (by decide +kernel))) rfl
theorem ml_L_7 {c0 : Cond} : (.methodLink RL 7 yX3_addName : Cond) ∈ c0 :: GW := gw_of (tb2 (List.mem_of_getElem? (i := 43) (by decide +kernel))) rfl
theorem im_X3_addName {c0 : Cond} : (.instanceMethod yX3_addName : Cond) ∈ c0 :: GW := gw_of (tb2 (List.mem_of_getElem? (i := 44) (by decide +kernel))) rfl
theorem se_X3_X3_addName {c0 : Cond} : (.selects RX3 yX3_addName yX3_addName : Cond) ∈ c0 :: GW := gw_of (tb2 (List.mem_of_getElem? (i := 45) (by decide +kernel))) rfl
theorem cd_X3_addName {c0 : Cond} : (.code yX3_addName prog_1_method_2_code 2 (some .int) : Cond) ∈ c0 :: GW := gw_of (tb2 (List.mem_of_getElem? (i := 46) (by decide +kernel))) rfl
theorem cl_X3_36 {c0 : Cond} : (.classLink RX3 36 "java/lang/IllegalArgumentException" : Cond) ∈ c0 :: GW := gw_of (tb2 (List.mem_of_getElem? (i := 47) (by decide +kernel))) rfl
theorem inst_IllegalArgumentException {c0 : Cond} : (.instantiable "java/lang/IllegalArgumentException" 6 : Cond) ∈ c0 :: GW := gw_of (tb2 (List.mem_of_getElem? (i := 48) (by decide +kernel))) rfl
theorem n_289 : (.castable "java/lang/IllegalArgumentException" "java/lang/IllegalArgumentException" : Cond) ∈ lw_tbl := tb2 (List.mem_of_getElem? (i := 49) (by decide +kernel))
theorem n_290 : (.declares ⟨"java/lang/RuntimeException", "<init>", "()V"⟩ : Cond) ∈ lw_tbl := tb2 (List.mem_of_getElem? (i := 50) (by decide +kernel))
theorem n_291 : (.declares ⟨"java/lang/RuntimeException", "<init>", "(Ljava/lang/String;)V"⟩ : Cond) ∈ lw_tbl := tb2 (List.mem_of_getElem? (i := 51) (by decide +kernel))
theorem n_292 : (.declares ⟨"java/lang/Exception", "<init>", "()V"⟩ : Cond) ∈ lw_tbl := tb2 (List.mem_of_getElem? (i := 52) (by decide +kernel))
theorem n_293 : (.declares ⟨"java/lang/Exception", "<init>", "(Ljava/lang/String;)V"⟩ : Cond) ∈ lw_tbl := tb2 (List.mem_of_getElem? (i := 53) (by decide +kernel))
theorem n_294 : (.declares ⟨"java/lang/Throwable", "<init>", "()V"⟩ : Cond) ∈ lw_tbl := tb2 (List.mem_of_getElem? (i := 54) (by decide +kernel))
theorem n_295 : (.declares ⟨"java/lang/Throwable", "<init>", "(Ljava/lang/String;)V"⟩ : Cond) ∈ lw_tbl := tb2 (List.mem_of_getElem? (i := 55) (by decide +kernel))
theorem se_IllegalArgumentException_Throwable_fillInStackTrace_1602 {c0 : Cond} : (.selects "java/lang/IllegalArgumentException" ⟨"java/lang/Throwable", "fillInStackTrace", "(I)Ljava/lang/Throwable;"⟩ ⟨"java/lang/Throwable", "fillInStackTrace", "(I)Ljava/lang/Throwable;"⟩ : Cond) ∈ c0 :: GW := gw_of (tb2 (List.mem_of_getElem? (i := 56) (by decide +kernel))) rfl
theorem se_IllegalArgumentException_Throwable_fillInStackTrace_9280 {c0 : Cond} : (.selects "java/lang/IllegalArgumentException" ⟨"java/lang/Throwable", "fillInStackTrace", "()Ljava/lang/Throwable;"⟩ ⟨"java/lang/Throwable", "fillInStackTrace", "()Ljava/lang/Throwable;"⟩ : Cond) ∈ c0 :: GW := gw_of (tb2 (List.mem_of_getElem? (i := 57) (by decide +kernel))) rfl
theorem w_298 {c0 : Cond} : (.lays "java/lang/IllegalArgumentException" "java/lang/Throwable" "cause" "Ljava/lang/Throwable;" : Cond) ∈ c0 :: GW := gw_of (tb2 (List.mem_of_getElem? (i := 58) (by decide +kernel))) rfl
theorem w_299 {c0 : Cond} : (.lays "java/lang/Throwable" "java/lang/Throwable" "cause" "Ljava/lang/Throwable;" : Cond) ∈ c0 :: GW := gw_of (tb2 (List.mem_of_getElem? (i := 59) (by decide +kernel))) rfl
theorem w_300 {c0 : Cond} : (.lays "java/lang/IllegalArgumentException" "java/lang/Throwable" "stackTrace" "[Ljava/lang/StackTraceElement;" : Cond) ∈ c0 :: GW := gw_of (tb2 (List.mem_of_getElem? (i := 60) (by decide +kernel))) rfl
theorem w_301 {c0 : Cond} : (.lays "java/lang/Throwable" "java/lang/Throwable" "stackTrace" "[Ljava/lang/StackTraceElement;" : Cond) ∈ c0 :: GW := gw_of (tb2 (List.mem_of_getElem? (i := 61) (by decide +kernel))) rfl
theorem w_302 {c0 : Cond} : (.lays "java/lang/IllegalArgumentException" "java/lang/Throwable" "suppressedExceptions" "Ljava/util/List;" : Cond) ∈ c0 :: GW := gw_of (tb2 (List.mem_of_getElem? (i := 62) (by decide +kernel))) rfl
theorem w_303 {c0 : Cond} : (.lays "java/lang/Throwable" "java/lang/Throwable" "suppressedExceptions" "Ljava/util/List;" : Cond) ∈ c0 :: GW := gw_of (tb2 (List.mem_of_getElem? (i := 63) (by decide +kernel))) rfl
theorem w_304 {c0 : Cond} : (.lays "java/lang/IllegalArgumentException" "java/lang/Throwable" "detailMessage" "Ljava/lang/String;" : Cond) ∈ c0 :: GW := gw_of (tb2 (List.mem_of_getElem? (i := 64) (by decide +kernel))) rfl
theorem w_305 {c0 : Cond} : (.lays "java/lang/Throwable" "java/lang/Throwable" "detailMessage" "Ljava/lang/String;" : Cond) ∈ c0 :: GW := gw_of (tb2 (List.mem_of_getElem? (i := 65) (by decide +kernel))) rfl
theorem w_306 {c0 : Cond} : (.lays "java/lang/IllegalArgumentException" "java/lang/Throwable" "backtrace" "Ljava/lang/Object;" : Cond) ∈ c0 :: GW := gw_of (tb2 (List.mem_of_getElem? (i := 66) (by decide +kernel))) rfl
theorem w_307 {c0 : Cond} : (.lays "java/lang/Throwable" "java/lang/Throwable" "backtrace" "Ljava/lang/Object;" : Cond) ∈ c0 :: GW := gw_of (tb2 (List.mem_of_getElem? (i := 67) (by decide +kernel))) rfl
theorem fl_Throwable_198 {c0 : Cond} : (.fieldLink "java/lang/Throwable" 198 "java/lang/Throwable" "backtrace" "Ljava/lang/Object;" : Cond) ∈ c0 :: GW := gw_of (tb2 (List.mem_of_getElem? (i := 68) (by decide +kernel))) rfl
theorem w_309 {c0 : Cond} : (.superclass "java/lang/Throwable" "java/lang/Object" : Cond) ∈ c0 :: GW := gw_of (tb2 (List.mem_of_getElem? (i := 69) (by decide +kernel))) rfl
theorem im_Throwable_init_0751 {c0 : Cond} : (.instanceMethod ⟨"java/lang/Throwable", "<init>", "()V"⟩ : Cond) ∈ c0 :: GW := gw_of (tb2 (List.mem_of_getElem? (i := 70) (by decide +kernel))) rfl
theorem cd_Throwable_init_0751 {c0 : Cond} : (.code ⟨"java/lang/Throwable", "<init>", "()V"⟩ prog_20_method_1_code 1 none : Cond) ∈ c0 :: GW := gw_of (tb2 (List.mem_of_getElem? (i := 71) (by decide +kernel))) rfl
theorem ml_Throwable_1 {c0 : Cond} : (.methodLink "java/lang/Throwable" 1 objectInit : Cond) ∈ c0 :: GW := gw_of (tb2 (List.mem_of_getElem? (i := 72) (by decide +kernel))) rfl
theorem fl_Throwable_13 {c0 : Cond} : (.fieldLink "java/lang/Throwable" 13 "java/lang/Throwable" "UNASSIGNED_STACK" "[Ljava/lang/StackTraceElement;" : Cond) ∈ c0 :: GW := gw_of (tb2 (List.mem_of_getElem? (i := 73) (by decide +kernel))) rfl
theorem n_314 : (.laysStatic "java/lang/Throwable" "UNASSIGNED_STACK" "[Ljava/lang/StackTraceElement;" : Cond) ∈ lw_tbl := tb2 (List.mem_of_getElem? (i := 74) (by decide +kernel))
theorem fl_Throwable_20 {c0 : Cond} : (.fieldLink "java/lang/Throwable" 20 "java/lang/Throwable" "SUPPRESSED_SENTINEL" "Ljava/util/List;" : Cond) ∈ c0 :: GW := gw_of (tb2 (List.mem_of_getElem? (i := 75) (by decide +kernel))) rfl
theorem n_316 : (.laysStatic "java/lang/Throwable" "SUPPRESSED_SENTINEL" "Ljava/util/List;" : Cond) ∈ lw_tbl := tb2 (List.mem_of_getElem? (i := 76) (by decide +kernel))
theorem ml_Throwable_27 {c0 : Cond} : (.methodLink "java/lang/Throwable" 27 ⟨"java/lang/Throwable", "fillInStackTrace", "()Ljava/lang/Throwable;"⟩ : Cond) ∈ c0 :: GW := gw_of (tb2 (List.mem_of_getElem? (i := 77) (by decide +kernel))) rfl
theorem im_Throwable_fillInStackTrace_9280 {c0 : Cond} : (.instanceMethod ⟨"java/lang/Throwable", "fillInStackTrace", "()Ljava/lang/Throwable;"⟩ : Cond) ∈ c0 :: GW := gw_of (tb2 (List.mem_of_getElem? (i := 78) (by decide +kernel))) rfl
theorem w_319 {c0 : Cond} : (.sameMethod "java/lang/Throwable" "java/lang/Throwable" "fillInStackTrace" "()Ljava/lang/Throwable;" : Cond) ∈ c0 :: GW := gw_of (tb2 (List.mem_of_getElem? (i := 79) (by decide +kernel))) rfl
theorem se_ArithmeticException_Throwable_fillInStackTrace_9280 {c0 : Cond} : (.selects "java/lang/ArithmeticException" ⟨"java/lang/Throwable", "fillInStackTrace", "()Ljava/lang/Throwable;"⟩ ⟨"java/lang/Throwable", "fillInStackTrace", "()Ljava/lang/Throwable;"⟩ : Cond) ∈ c0 :: GW := gw_of (tb2 (List.mem_of_getElem? (i := 80) (by decide +kernel))) rfl
theorem se_Jx00060_Throwable_fillInStackTrace_9280 {c0 : Cond} : (.selects RJx00060 ⟨"java/lang/Throwable", "fillInStackTrace", "()Ljava/lang/Throwable;"⟩ ⟨"java/lang/Throwable", "fillInStackTrace", "()Ljava/lang/Throwable;"⟩ : Cond) ∈ c0 :: GW := gw_of (tb2 (List.mem_of_getElem? (i := 81) (by decide +kernel))) rfl
theorem se_IllegalStateException_Throwable_fillInStackTrace_9280 {c0 : Cond} : (.selects "java/lang/IllegalStateException" ⟨"java/lang/Throwable", "fillInStackTrace", "()Ljava/lang/Throwable;"⟩ ⟨"java/lang/Throwable", "fillInStackTrace", "()Ljava/lang/Throwable;"⟩ : Cond) ∈ c0 :: GW := gw_of (tb2 (List.mem_of_getElem? (i := 82) (by decide +kernel))) rfl
theorem se_IndexOutOfBoundsException_Throwable_fillInStackTrace_9280 {c0 : Cond} : (.selects "java/lang/IndexOutOfBoundsException" ⟨"java/lang/Throwable", "fillInStackTrace", "()Ljava/lang/Throwable;"⟩ ⟨"java/lang/Throwable", "fillInStackTrace", "()Ljava/lang/Throwable;"⟩ : Cond) ∈ c0 :: GW := gw_of (tb2 (List.mem_of_getElem? (i := 83) (by decide +kernel))) rfl
theorem se_UnsupportedOperationException_Throwable_fillInStackTrace_9280 {c0 : Cond} : (.selects "java/lang/UnsupportedOperationException" ⟨"java/lang/Throwable", "fillInStackTrace", "()Ljava/lang/Throwable;"⟩ ⟨"java/lang/Throwable", "fillInStackTrace", "()Ljava/lang/Throwable;"⟩ : Cond) ∈ c0 :: GW := gw_of (tb2 (List.mem_of_getElem? (i := 84) (by decide +kernel))) rfl
theorem se_NoSuchElementException_Throwable_fillInStackTrace_9280 {c0 : Cond} : (.selects "java/util/NoSuchElementException" ⟨"java/lang/Throwable", "fillInStackTrace", "()Ljava/lang/Throwable;"⟩ ⟨"java/lang/Throwable", "fillInStackTrace", "()Ljava/lang/Throwable;"⟩ : Cond) ∈ c0 :: GW := gw_of (tb2 (List.mem_of_getElem? (i := 85) (by decide +kernel))) rfl
theorem w_326 {c0 : Cond} : (.codeSync ⟨"java/lang/Throwable", "fillInStackTrace", "()Ljava/lang/Throwable;"⟩ prog_20_method_18_code 1 (some (.object "java/lang/Throwable")) : Cond) ∈ c0 :: GW := gw_of (tb2 (List.mem_of_getElem? (i := 86) (by decide +kernel))) rfl
theorem ml_Throwable_202 {c0 : Cond} : (.methodLink "java/lang/Throwable" 202 ⟨"java/lang/Throwable", "fillInStackTrace", "(I)Ljava/lang/Throwable;"⟩ : Cond) ∈ c0 :: GW := gw_of (tb2 (List.mem_of_getElem? (i := 87) (by decide +kernel))) rfl
theorem im_Throwable_fillInStackTrace_1602 {c0 : Cond} : (.instanceMethod ⟨"java/lang/Throwable", "fillInStackTrace", "(I)Ljava/lang/Throwable;"⟩ : Cond) ∈ c0 :: GW := gw_of (tb2 (List.mem_of_getElem? (i := 89) (by decide +kernel))) rfl
theorem inst_Throwable {c0 : Cond} : (.instantiable "java/lang/Throwable" 6 : Cond) ∈ c0 :: GW := gw_of (tb2 (List.mem_of_getElem? (i := 90) (by decide +kernel))) rfl
theorem nt_Throwable_fillInStackTrace_1602 {c0 : Cond} : (.native ⟨"java/lang/Throwable", "fillInStackTrace", "(I)Ljava/lang/Throwable;"⟩ : Cond) ∈ c0 :: GW := gw_of (tb2 (List.mem_of_getElem? (i := 91) (by decide +kernel))) rfl
theorem n_332 : (.stringRef "LineKeeper" 38 "a name has from 1 to 32 words" : Cond) ∈ lw_tbl := tb2 (List.mem_of_getElem? (i := 92) (by decide +kernel))
theorem ml_X3_40 {c0 : Cond} : (.methodLink RX3 40 ⟨"java/lang/IllegalArgumentException", "<init>", "(Ljava/lang/String;)V"⟩ : Cond) ∈ c0 :: GW := gw_of (tb2 (List.mem_of_getElem? (i := 93) (by decide +kernel))) rfl
theorem im_IllegalArgumentException_init_3230 {c0 : Cond} : (.instanceMethod ⟨"java/lang/IllegalArgumentException", "<init>", "(Ljava/lang/String;)V"⟩ : Cond) ∈ c0 :: GW := gw_of (tb2 (List.mem_of_getElem? (i := 94) (by decide +kernel))) rfl
theorem cd_IllegalArgumentException_init_3230 {c0 : Cond} : (.code ⟨"java/lang/IllegalArgumentException", "<init>", "(Ljava/lang/String;)V"⟩ prog_12_method_2_code 2 none : Cond) ∈ c0 :: GW := gw_of (tb2 (List.mem_of_getElem? (i := 95) (by decide +kernel))) rfl
theorem ml_IllegalArgumentException_7 {c0 : Cond} : (.methodLink "java/lang/IllegalArgumentException" 7 ⟨"java/lang/RuntimeException", "<init>", "(Ljava/lang/String;)V"⟩ : Cond) ∈ c0 :: GW := gw_of (tb2 (List.mem_of_getElem? (i := 96) (by decide +kernel))) rfl
theorem im_RuntimeException_init_3230 {c0 : Cond} : (.instanceMethod ⟨"java/lang/RuntimeException", "<init>", "(Ljava/lang/String;)V"⟩ : Cond) ∈ c0 :: GW := gw_of (tb2 (List.mem_of_getElem? (i := 97) (by decide +kernel))) rfl
theorem cd_RuntimeException_init_3230 {c0 : Cond} : (.code ⟨"java/lang/RuntimeException", "<init>", "(Ljava/lang/String;)V"⟩ prog_17_method_2_code 2 none : Cond) ∈ c0 :: GW := gw_of (tb2 (List.mem_of_getElem? (i := 98) (by decide +kernel))) rfl
theorem ml_RuntimeException_7 {c0 : Cond} : (.methodLink "java/lang/RuntimeException" 7 ⟨"java/lang/Exception", "<init>", "(Ljava/lang/String;)V"⟩ : Cond) ∈ c0 :: GW := gw_of (tb2 (List.mem_of_getElem? (i := 99) (by decide +kernel))) rfl
theorem im_Exception_init_3230 {c0 : Cond} : (.instanceMethod ⟨"java/lang/Exception", "<init>", "(Ljava/lang/String;)V"⟩ : Cond) ∈ c0 :: GW := gw_of (tb2 (List.mem_of_getElem? (i := 100) (by decide +kernel))) rfl
theorem cd_Exception_init_3230 {c0 : Cond} : (.code ⟨"java/lang/Exception", "<init>", "(Ljava/lang/String;)V"⟩ prog_11_method_2_code 2 none : Cond) ∈ c0 :: GW := gw_of (tb2 (List.mem_of_getElem? (i := 101) (by decide +kernel))) rfl
theorem ml_Exception_7 {c0 : Cond} : (.methodLink "java/lang/Exception" 7 ⟨"java/lang/Throwable", "<init>", "(Ljava/lang/String;)V"⟩ : Cond) ∈ c0 :: GW := gw_of (tb2 (List.mem_of_getElem? (i := 102) (by decide +kernel))) rfl
theorem im_Throwable_init_3230 {c0 : Cond} : (.instanceMethod ⟨"java/lang/Throwable", "<init>", "(Ljava/lang/String;)V"⟩ : Cond) ∈ c0 :: GW := gw_of (tb2 (List.mem_of_getElem? (i := 103) (by decide +kernel))) rfl
theorem cd_Throwable_init_3230 {c0 : Cond} : (.code ⟨"java/lang/Throwable", "<init>", "(Ljava/lang/String;)V"⟩ prog_20_method_2_code 2 none : Cond) ∈ c0 :: GW := gw_of (tb2 (List.mem_of_getElem? (i := 104) (by decide +kernel))) rfl
theorem fl_Throwable_31 {c0 : Cond} : (.fieldLink "java/lang/Throwable" 31 "java/lang/Throwable" "detailMessage" "Ljava/lang/String;" : Cond) ∈ c0 :: GW := gw_of (tb2 (List.mem_of_getElem? (i := 106) (by decide +kernel))) rfl
theorem fl_Throwable_7 {c0 : Cond} : (.fieldLink "java/lang/Throwable" 7 "java/lang/Throwable" "cause" "Ljava/lang/Throwable;" : Cond) ∈ c0 :: GW := gw_of (tb2 (List.mem_of_getElem? (i := 107) (by decide +kernel))) rfl
theorem fl_Throwable_17 {c0 : Cond} : (.fieldLink "java/lang/Throwable" 17 "java/lang/Throwable" "stackTrace" "[Ljava/lang/StackTraceElement;" : Cond) ∈ c0 :: GW := gw_of (tb2 (List.mem_of_getElem? (i := 108) (by decide +kernel))) rfl
theorem fl_Throwable_24 {c0 : Cond} : (.fieldLink "java/lang/Throwable" 24 "java/lang/Throwable" "suppressedExceptions" "Ljava/util/List;" : Cond) ∈ c0 :: GW := gw_of (tb2 (List.mem_of_getElem? (i := 109) (by decide +kernel))) rfl
theorem w_354 {c0 : Cond} : (.lays "java/lang/IllegalArgumentException" "java/lang/Throwable" "depth" "I" : Cond) ∈ c0 :: GW := gw_of (tb2 (List.mem_of_getElem? (i := 114) (by decide +kernel))) rfl
theorem w_357 {c0 : Cond} : (.superclass "java/lang/IllegalArgumentException" "java/lang/RuntimeException" : Cond) ∈ c0 :: GW := gw_of (tb2 (List.mem_of_getElem? (i := 117) (by decide +kernel))) rfl
theorem ac_358 {c0 : Cond} : (.arrayClass .byte : Cond) ∈ c0 :: GW := gw_of (tb2 (List.mem_of_getElem? (i := 118) (by decide +kernel))) rfl
theorem ml_X3_43 {c0 : Cond} : (.methodLink RX3 43 yX2_isFull : Cond) ∈ c0 :: GW := gw_of (tb2 (List.mem_of_getElem? (i := 119) (by decide +kernel))) rfl
theorem im_X2_isFull {c0 : Cond} : (.instanceMethod yX2_isFull : Cond) ∈ c0 :: GW := gw_of (tb2 (List.mem_of_getElem? (i := 120) (by decide +kernel))) rfl
theorem se_X2_X2_isFull {c0 : Cond} : (.selects RX2 yX2_isFull yX2_isFull : Cond) ∈ c0 :: GW := gw_of (tb2 (List.mem_of_getElem? (i := 121) (by decide +kernel))) rfl
theorem cd_X2_isFull {c0 : Cond} : (.code yX2_isFull prog_4_method_2_code 1 (some .boolean) : Cond) ∈ c0 :: GW := gw_of (tb2 (List.mem_of_getElem? (i := 122) (by decide +kernel))) rfl
theorem cl_X3_47 {c0 : Cond} : (.classLink RX3 47 "java/lang/IllegalStateException" : Cond) ∈ c0 :: GW := gw_of (tb2 (List.mem_of_getElem? (i := 123) (by decide +kernel))) rfl
theorem inst_IllegalStateException {c0 : Cond} : (.instantiable "java/lang/IllegalStateException" 6 : Cond) ∈ c0 :: GW := gw_of (tb2 (List.mem_of_getElem? (i := 124) (by decide +kernel))) rfl
theorem n_365 : (.castable "java/lang/IllegalStateException" "java/lang/IllegalStateException" : Cond) ∈ lw_tbl := tb2 (List.mem_of_getElem? (i := 125) (by decide +kernel))
theorem se_IllegalStateException_Throwable_fillInStackTrace_1602 {c0 : Cond} : (.selects "java/lang/IllegalStateException" ⟨"java/lang/Throwable", "fillInStackTrace", "(I)Ljava/lang/Throwable;"⟩ ⟨"java/lang/Throwable", "fillInStackTrace", "(I)Ljava/lang/Throwable;"⟩ : Cond) ∈ c0 :: GW := gw_of (tb2 (List.mem_of_getElem? (i := 126) (by decide +kernel))) rfl
theorem w_367 {c0 : Cond} : (.lays "java/lang/IllegalStateException" "java/lang/Throwable" "cause" "Ljava/lang/Throwable;" : Cond) ∈ c0 :: GW := gw_of (tb2 (List.mem_of_getElem? (i := 127) (by decide +kernel))) rfl
theorem w_368 {c0 : Cond} : (.lays "java/lang/IllegalStateException" "java/lang/Throwable" "stackTrace" "[Ljava/lang/StackTraceElement;" : Cond) ∈ c0 :: GW := gw_of (tb2 (List.mem_of_getElem? (i := 128) (by decide +kernel))) rfl
theorem w_369 {c0 : Cond} : (.lays "java/lang/IllegalStateException" "java/lang/Throwable" "suppressedExceptions" "Ljava/util/List;" : Cond) ∈ c0 :: GW := gw_of (tb2 (List.mem_of_getElem? (i := 129) (by decide +kernel))) rfl
theorem w_370 {c0 : Cond} : (.lays "java/lang/IllegalStateException" "java/lang/Throwable" "detailMessage" "Ljava/lang/String;" : Cond) ∈ c0 :: GW := gw_of (tb2 (List.mem_of_getElem? (i := 130) (by decide +kernel))) rfl
theorem w_371 {c0 : Cond} : (.lays "java/lang/IllegalStateException" "java/lang/Throwable" "backtrace" "Ljava/lang/Object;" : Cond) ∈ c0 :: GW := gw_of (tb2 (List.mem_of_getElem? (i := 131) (by decide +kernel))) rfl
theorem n_372 : (.stringRef "LineKeeper" 49 "there are 12 names" : Cond) ∈ lw_tbl := tb2 (List.mem_of_getElem? (i := 132) (by decide +kernel))
theorem ml_X3_51 {c0 : Cond} : (.methodLink RX3 51 ⟨"java/lang/IllegalStateException", "<init>", "(Ljava/lang/String;)V"⟩ : Cond) ∈ c0 :: GW := gw_of (tb2 (List.mem_of_getElem? (i := 133) (by decide +kernel))) rfl
theorem im_IllegalStateException_init_3230 {c0 : Cond} : (.instanceMethod ⟨"java/lang/IllegalStateException", "<init>", "(Ljava/lang/String;)V"⟩ : Cond) ∈ c0 :: GW := gw_of (tb2 (List.mem_of_getElem? (i := 134) (by decide +kernel))) rfl
theorem cd_IllegalStateException_init_3230 {c0 : Cond} : (.code ⟨"java/lang/IllegalStateException", "<init>", "(Ljava/lang/String;)V"⟩ prog_13_method_2_code 2 none : Cond) ∈ c0 :: GW := gw_of (tb2 (List.mem_of_getElem? (i := 135) (by decide +kernel))) rfl
theorem ml_IllegalStateException_7 {c0 : Cond} : (.methodLink "java/lang/IllegalStateException" 7 ⟨"java/lang/RuntimeException", "<init>", "(Ljava/lang/String;)V"⟩ : Cond) ∈ c0 :: GW := gw_of (tb2 (List.mem_of_getElem? (i := 136) (by decide +kernel))) rfl
theorem w_377 {c0 : Cond} : (.lays "java/lang/IllegalStateException" "java/lang/Throwable" "depth" "I" : Cond) ∈ c0 :: GW := gw_of (tb2 (List.mem_of_getElem? (i := 137) (by decide +kernel))) rfl
theorem w_378 {c0 : Cond} : (.superclass "java/lang/IllegalStateException" "java/lang/RuntimeException" : Cond) ∈ c0 :: GW := gw_of (tb2 (List.mem_of_getElem? (i := 138) (by decide +kernel))) rfl
theorem ml_X3_52 {c0 : Cond} : (.methodLink RX3 52 yX2_addUnplaced : Cond) ∈ c0 :: GW := gw_of (tb2 (List.mem_of_getElem? (i := 139) (by decide +kernel))) rfl
theorem im_X2_addUnplaced {c0 : Cond} : (.instanceMethod yX2_addUnplaced : Cond) ∈ c0 :: GW := gw_of (tb2 (List.mem_of_getElem? (i := 140) (by decide +kernel))) rfl
theorem se_X2_X2_addUnplaced {c0 : Cond} : (.selects RX2 yX2_addUnplaced yX2_addUnplaced : Cond) ∈ c0 :: GW := gw_of (tb2 (List.mem_of_getElem? (i := 141) (by decide +kernel))) rfl
theorem cd_X2_addUnplaced {c0 : Cond} : (.code yX2_addUnplaced prog_4_method_9_code 2 (some .int) : Cond) ∈ c0 :: GW := gw_of (tb2 (List.mem_of_getElem? (i := 142) (by decide +kernel))) rfl
theorem ml_X2_29 {c0 : Cond} : (.methodLink RX2 29 yX2_isFull : Cond) ∈ c0 :: GW := gw_of (tb2 (List.mem_of_getElem? (i := 143) (by decide +kernel))) rfl
theorem ml_L_130 {c0 : Cond} : (.methodLink RL 130 yL_place : Cond) ∈ c0 :: GW := gw_of (tb2 (List.mem_of_getElem? (i := 144) (by decide +kernel))) rfl
theorem sm_L_place {c0 : Cond} : (.static yL_place : Cond) ∈ c0 :: GW := gw_of (tb2 (List.mem_of_getElem? (i := 145) (by decide +kernel))) rfl
theorem cw_L_place {c0 : Cond} : (.codeWith yL_place method_4_code 5 (some .int) [(0, 10, 13, 21), (0, 10, 17, 13), (0, 10, 21, 15)] : Cond) ∈ c0 :: GW := gw_of (tb2 (List.mem_of_getElem? (i := 146) (by decide +kernel))) rfl
theorem cl_L_21 {c0 : Cond} : (.classLink RL 21 "java/util/NoSuchElementException" : Cond) ∈ c0 :: GW := gw_of (tb2 (List.mem_of_getElem? (i := 147) (by decide +kernel))) rfl
theorem ml_L_17 {c0 : Cond} : (.methodLink RL 17 yX3_place : Cond) ∈ c0 :: GW := gw_of (tb2 (List.mem_of_getElem? (i := 148) (by decide +kernel))) rfl
theorem im_X3_place {c0 : Cond} : (.instanceMethod yX3_place : Cond) ∈ c0 :: GW := gw_of (tb2 (List.mem_of_getElem? (i := 149) (by decide +kernel))) rfl
theorem se_X3_X3_place {c0 : Cond} : (.selects RX3 yX3_place yX3_place : Cond) ∈ c0 :: GW := gw_of (tb2 (List.mem_of_getElem? (i := 150) (by decide +kernel))) rfl
theorem cd_X3_place {c0 : Cond} : (.code yX3_place prog_1_method_3_code 3 (some .int) : Cond) ∈ c0 :: GW := gw_of (tb2 (List.mem_of_getElem? (i := 151) (by decide +kernel))) rfl
theorem ml_X3_56 {c0 : Cond} : (.methodLink RX3 56 yX3_checkName : Cond) ∈ c0 :: GW := gw_of (tb2 (List.mem_of_getElem? (i := 152) (by decide +kernel))) rfl
theorem im_X3_checkName {c0 : Cond} : (.instanceMethod yX3_checkName : Cond) ∈ c0 :: GW := gw_of (tb2 (List.mem_of_getElem? (i := 154) (by decide +kernel))) rfl
theorem cd_X3_checkName {c0 : Cond} : (.code yX3_checkName prog_1_method_34_code 2 none : Cond) ∈ c0 :: GW := gw_of (tb2 (List.mem_of_getElem? (i := 155) (by decide +kernel))) rfl
theorem ml_X3_240 {c0 : Cond} : (.methodLink RX3 240 yX2_hasName : Cond) ∈ c0 :: GW := gw_of (tb2 (List.mem_of_getElem? (i := 156) (by decide +kernel))) rfl
theorem im_X2_hasName {c0 : Cond} : (.instanceMethod yX2_hasName : Cond) ∈ c0 :: GW := gw_of (tb2 (List.mem_of_getElem? (i := 157) (by decide +kernel))) rfl
theorem se_X2_X2_hasName {c0 : Cond} : (.selects RX2 yX2_hasName yX2_hasName : Cond) ∈ c0 :: GW := gw_of (tb2 (List.mem_of_getElem? (i := 158) (by decide +kernel))) rfl
theorem cd_X2_hasName {c0 : Cond} : (.code yX2_hasName prog_4_method_4_code 2 (some .boolean) : Cond) ∈ c0 :: GW := gw_of (tb2 (List.mem_of_getElem? (i := 159) (by decide +kernel))) rfl
theorem cl_X3_103 {c0 : Cond} : (.classLink RX3 103 "java/util/NoSuchElementException" : Cond) ∈ c0 :: GW := gw_of (tb2 (List.mem_of_getElem? (i := 160) (by decide +kernel))) rfl
theorem inst_NoSuchElementException {c0 : Cond} : (.instantiable "java/util/NoSuchElementException" 6 : Cond) ∈ c0 :: GW := gw_of (tb2 (List.mem_of_getElem? (i := 161) (by decide +kernel))) rfl
theorem n_402 : (.castable "java/util/NoSuchElementException" "java/util/NoSuchElementException" : Cond) ∈ lw_tbl := tb2 (List.mem_of_getElem? (i := 162) (by decide +kernel))
theorem se_NoSuchElementException_Throwable_fillInStackTrace_1602 {c0 : Cond} : (.selects "java/util/NoSuchElementException" ⟨"java/lang/Throwable", "fillInStackTrace", "(I)Ljava/lang/Throwable;"⟩ ⟨"java/lang/Throwable", "fillInStackTrace", "(I)Ljava/lang/Throwable;"⟩ : Cond) ∈ c0 :: GW := gw_of (tb2 (List.mem_of_getElem? (i := 163) (by decide +kernel))) rfl
theorem w_404 {c0 : Cond} : (.lays "java/util/NoSuchElementException" "java/lang/Throwable" "cause" "Ljava/lang/Throwable;" : Cond) ∈ c0 :: GW := gw_of (tb2 (List.mem_of_getElem? (i := 164) (by decide +kernel))) rfl
theorem w_405 {c0 : Cond} : (.lays "java/util/NoSuchElementException" "java/lang/Throwable" "stackTrace" "[Ljava/lang/StackTraceElement;" : Cond) ∈ c0 :: GW := gw_of (tb2 (List.mem_of_getElem? (i := 165) (by decide +kernel))) rfl
theorem w_406 {c0 : Cond} : (.lays "java/util/NoSuchElementException" "java/lang/Throwable" "suppressedExceptions" "Ljava/util/List;" : Cond) ∈ c0 :: GW := gw_of (tb2 (List.mem_of_getElem? (i := 166) (by decide +kernel))) rfl
theorem w_407 {c0 : Cond} : (.lays "java/util/NoSuchElementException" "java/lang/Throwable" "detailMessage" "Ljava/lang/String;" : Cond) ∈ c0 :: GW := gw_of (tb2 (List.mem_of_getElem? (i := 167) (by decide +kernel))) rfl
theorem w_408 {c0 : Cond} : (.lays "java/util/NoSuchElementException" "java/lang/Throwable" "backtrace" "Ljava/lang/Object;" : Cond) ∈ c0 :: GW := gw_of (tb2 (List.mem_of_getElem? (i := 168) (by decide +kernel))) rfl
theorem n_409 : (.stringRef "LineKeeper" 243 "there is no such name" : Cond) ∈ lw_tbl := tb2 (List.mem_of_getElem? (i := 169) (by decide +kernel))
theorem ml_X3_107 {c0 : Cond} : (.methodLink RX3 107 ⟨"java/util/NoSuchElementException", "<init>", "(Ljava/lang/String;)V"⟩ : Cond) ∈ c0 :: GW := gw_of (tb2 (List.mem_of_getElem? (i := 170) (by decide +kernel))) rfl
theorem im_NoSuchElementException_init_3230 {c0 : Cond} : (.instanceMethod ⟨"java/util/NoSuchElementException", "<init>", "(Ljava/lang/String;)V"⟩ : Cond) ∈ c0 :: GW := gw_of (tb2 (List.mem_of_getElem? (i := 171) (by decide +kernel))) rfl
theorem cd_NoSuchElementException_init_3230 {c0 : Cond} : (.code ⟨"java/util/NoSuchElementException", "<init>", "(Ljava/lang/String;)V"⟩ prog_28_method_4_code 2 none : Cond) ∈ c0 :: GW := gw_of (tb2 (List.mem_of_getElem? (i := 172) (by decide +kernel))) rfl
theorem ml_NoSuchElementException_13 {c0 : Cond} : (.methodLink "java/util/NoSuchElementException" 13 ⟨"java/lang/RuntimeException", "<init>", "(Ljava/lang/String;)V"⟩ : Cond) ∈ c0 :: GW := gw_of (tb2 (List.mem_of_getElem? (i := 173) (by decide +kernel))) rfl
theorem w_414 {c0 : Cond} : (.lays "java/util/NoSuchElementException" "java/lang/Throwable" "depth" "I" : Cond) ∈ c0 :: GW := gw_of (tb2 (List.mem_of_getElem? (i := 174) (by decide +kernel))) rfl
theorem w_415 {c0 : Cond} : (.superclass "java/util/NoSuchElementException" "java/lang/RuntimeException" : Cond) ∈ c0 :: GW := gw_of (tb2 (List.mem_of_getElem? (i := 175) (by decide +kernel))) rfl
theorem ml_X3_60 {c0 : Cond} : (.methodLink RX3 60 yX2_isInMemory : Cond) ∈ c0 :: GW := gw_of (tb2 (List.mem_of_getElem? (i := 176) (by decide +kernel))) rfl
theorem im_X2_isInMemory {c0 : Cond} : (.instanceMethod yX2_isInMemory : Cond) ∈ c0 :: GW := gw_of (tb2 (List.mem_of_getElem? (i := 177) (by decide +kernel))) rfl
theorem se_X2_X2_isInMemory {c0 : Cond} : (.selects RX2 yX2_isInMemory yX2_isInMemory : Cond) ∈ c0 :: GW := gw_of (tb2 (List.mem_of_getElem? (i := 178) (by decide +kernel))) rfl
theorem cd_X2_isInMemory {c0 : Cond} : (.code yX2_isInMemory prog_4_method_10_code 3 (some .boolean) : Cond) ∈ c0 :: GW := gw_of (tb2 (List.mem_of_getElem? (i := 179) (by decide +kernel))) rfl
theorem ml_X2_25 {c0 : Cond} : (.methodLink RX2 25 yX2_hasName : Cond) ∈ c0 :: GW := gw_of (tb2 (List.mem_of_getElem? (i := 180) (by decide +kernel))) rfl
theorem n_421 : (.stringRef "LineKeeper" 64 "the memory has the addresses 0 to 511" : Cond) ∈ lw_tbl := tb2 (List.mem_of_getElem? (i := 181) (by decide +kernel))
theorem ml_X3_66 {c0 : Cond} : (.methodLink RX3 66 yX2_isPlaced : Cond) ∈ c0 :: GW := gw_of (tb2 (List.mem_of_getElem? (i := 182) (by decide +kernel))) rfl
theorem im_X2_isPlaced {c0 : Cond} : (.instanceMethod yX2_isPlaced : Cond) ∈ c0 :: GW := gw_of (tb2 (List.mem_of_getElem? (i := 183) (by decide +kernel))) rfl
theorem se_X2_X2_isPlaced {c0 : Cond} : (.selects RX2 yX2_isPlaced yX2_isPlaced : Cond) ∈ c0 :: GW := gw_of (tb2 (List.mem_of_getElem? (i := 184) (by decide +kernel))) rfl
theorem cd_X2_isPlaced {c0 : Cond} : (.code yX2_isPlaced prog_4_method_5_code 2 (some .boolean) : Cond) ∈ c0 :: GW := gw_of (tb2 (List.mem_of_getElem? (i := 185) (by decide +kernel))) rfl
theorem n_426 : (.stringRef "LineKeeper" 70 "the name is placed" : Cond) ∈ lw_tbl := tb2 (List.mem_of_getElem? (i := 186) (by decide +kernel))
theorem ml_X3_72 {c0 : Cond} : (.methodLink RX3 72 yX2_isFree : Cond) ∈ c0 :: GW := gw_of (tb2 (List.mem_of_getElem? (i := 187) (by decide +kernel))) rfl
theorem im_X2_isFree {c0 : Cond} : (.instanceMethod yX2_isFree : Cond) ∈ c0 :: GW := gw_of (tb2 (List.mem_of_getElem? (i := 188) (by decide +kernel))) rfl
theorem se_X2_X2_isFree {c0 : Cond} : (.selects RX2 yX2_isFree yX2_isFree : Cond) ∈ c0 :: GW := gw_of (tb2 (List.mem_of_getElem? (i := 189) (by decide +kernel))) rfl
theorem cd_X2_isFree {c0 : Cond} : (.code yX2_isFree prog_4_method_11_code 5 (some .boolean) : Cond) ∈ c0 :: GW := gw_of (tb2 (List.mem_of_getElem? (i := 190) (by decide +kernel))) rfl
theorem n_431 : (.stringRef "LineKeeper" 75 "another name is there" : Cond) ∈ lw_tbl := tb2 (List.mem_of_getElem? (i := 191) (by decide +kernel))
theorem ml_X3_77 {c0 : Cond} : (.methodLink RX3 77 yX2_setStart : Cond) ∈ c0 :: GW := gw_of (tb2 (List.mem_of_getElem? (i := 192) (by decide +kernel))) rfl
theorem im_X2_setStart {c0 : Cond} : (.instanceMethod yX2_setStart : Cond) ∈ c0 :: GW := gw_of (tb2 (List.mem_of_getElem? (i := 193) (by decide +kernel))) rfl
theorem se_X2_X2_setStart {c0 : Cond} : (.selects RX2 yX2_setStart yX2_setStart : Cond) ∈ c0 :: GW := gw_of (tb2 (List.mem_of_getElem? (i := 194) (by decide +kernel))) rfl
theorem cd_X2_setStart {c0 : Cond} : (.code yX2_setStart prog_4_method_8_code 3 none : Cond) ∈ c0 :: GW := gw_of (tb2 (List.mem_of_getElem? (i := 195) (by decide +kernel))) rfl
theorem ml_L_134 {c0 : Cond} : (.methodLink RL 134 yL_link : Cond) ∈ c0 :: GW := gw_of (tb2 (List.mem_of_getElem? (i := 196) (by decide +kernel))) rfl
theorem sm_L_link {c0 : Cond} : (.static yL_link : Cond) ∈ c0 :: GW := gw_of (tb2 (List.mem_of_getElem? (i := 197) (by decide +kernel))) rfl
theorem cw_L_link {c0 : Cond} : (.codeWith yL_link method_5_code 4 (some .int) [(0, 9, 12, 13), (0, 9, 15, 26)] : Cond) ∈ c0 :: GW := gw_of (tb2 (List.mem_of_getElem? (i := 198) (by decide +kernel))) rfl
theorem cl_L_26 {c0 : Cond} : (.classLink RL 26 "java/lang/UnsupportedOperationException" : Cond) ∈ c0 :: GW := gw_of (tb2 (List.mem_of_getElem? (i := 199) (by decide +kernel))) rfl
theorem ml_L_23 {c0 : Cond} : (.methodLink RL 23 yX3_link : Cond) ∈ c0 :: GW := gw_of (tb2 (List.mem_of_getElem? (i := 200) (by decide +kernel))) rfl
theorem im_X3_link {c0 : Cond} : (.instanceMethod yX3_link : Cond) ∈ c0 :: GW := gw_of (tb2 (List.mem_of_getElem? (i := 201) (by decide +kernel))) rfl
theorem se_X3_X3_link {c0 : Cond} : (.selects RX3 yX3_link yX3_link : Cond) ∈ c0 :: GW := gw_of (tb2 (List.mem_of_getElem? (i := 202) (by decide +kernel))) rfl
theorem cd_X3_link {c0 : Cond} : (.code yX3_link prog_1_method_4_code 3 (some .int) : Cond) ∈ c0 :: GW := gw_of (tb2 (List.mem_of_getElem? (i := 203) (by decide +kernel))) rfl
theorem n_444 : (.stringRef "LineKeeper" 81 "the number is from 1 to 64" : Cond) ∈ lw_tbl := tb2 (List.mem_of_getElem? (i := 204) (by decide +kernel))
theorem ml_X3_83 {c0 : Cond} : (.methodLink RX3 83 yX2_placeAll : Cond) ∈ c0 :: GW := gw_of (tb2 (List.mem_of_getElem? (i := 205) (by decide +kernel))) rfl
theorem im_X2_placeAll {c0 : Cond} : (.instanceMethod yX2_placeAll : Cond) ∈ c0 :: GW := gw_of (tb2 (List.mem_of_getElem? (i := 206) (by decide +kernel))) rfl
theorem se_X2_X2_placeAll {c0 : Cond} : (.selects RX2 yX2_placeAll yX2_placeAll : Cond) ∈ c0 :: GW := gw_of (tb2 (List.mem_of_getElem? (i := 207) (by decide +kernel))) rfl
theorem cd_X2_placeAll {c0 : Cond} : (.code yX2_placeAll prog_4_method_15_code 5 (some .int) : Cond) ∈ c0 :: GW := gw_of (tb2 (List.mem_of_getElem? (i := 208) (by decide +kernel))) rfl
theorem ml_X2_40 {c0 : Cond} : (.methodLink RX2 40 ⟨"java/lang/System", "arraycopy", "(Ljava/lang/Object;ILjava/lang/Object;II)V"⟩ : Cond) ∈ c0 :: GW := gw_of (tb2 (List.mem_of_getElem? (i := 209) (by decide +kernel))) rfl
theorem sm_J10_arraycopy_4416 {c0 : Cond} : (.static ⟨"java/lang/System", "arraycopy", "(Ljava/lang/Object;ILjava/lang/Object;II)V"⟩ : Cond) ∈ c0 :: GW := gw_of (tb2 (List.mem_of_getElem? (i := 210) (by decide +kernel))) rfl
theorem nt_J10_arraycopy_4416 {c0 : Cond} : (.native ⟨"java/lang/System", "arraycopy", "(Ljava/lang/Object;ILjava/lang/Object;II)V"⟩ : Cond) ∈ c0 :: GW := gw_of (tb2 (List.mem_of_getElem? (i := 211) (by decide +kernel))) rfl
theorem ml_X2_46 {c0 : Cond} : (.methodLink RX2 46 yX2_lowestFor : Cond) ∈ c0 :: GW := gw_of (tb2 (List.mem_of_getElem? (i := 212) (by decide +kernel))) rfl
theorem im_X2_lowestFor {c0 : Cond} : (.instanceMethod yX2_lowestFor : Cond) ∈ c0 :: GW := gw_of (tb2 (List.mem_of_getElem? (i := 214) (by decide +kernel))) rfl
theorem cd_X2_lowestFor {c0 : Cond} : (.code yX2_lowestFor prog_4_method_16_code 5 (some .int) : Cond) ∈ c0 :: GW := gw_of (tb2 (List.mem_of_getElem? (i := 215) (by decide +kernel))) rfl
theorem ml_X2_50 {c0 : Cond} : (.methodLink RX2 50 yJ9_max_7cf53 : Cond) ∈ c0 :: GW := gw_of (tb2 (List.mem_of_getElem? (i := 216) (by decide +kernel))) rfl
theorem sm_J9_max_7cf53 {c0 : Cond} : (.static yJ9_max_7cf53 : Cond) ∈ c0 :: GW := gw_of (tb2 (List.mem_of_getElem? (i := 217) (by decide +kernel))) rfl
theorem cd_J9_max_7cf53 {c0 : Cond} : (.code yJ9_max_7cf53 prog_16_method_65_code 2 (some .int) : Cond) ∈ c0 :: GW := gw_of (tb2 (List.mem_of_getElem? (i := 218) (by decide +kernel))) rfl
theorem ml_X2_55 {c0 : Cond} : (.methodLink RX2 55 yX2_isInMemory : Cond) ∈ c0 :: GW := gw_of (tb2 (List.mem_of_getElem? (i := 219) (by decide +kernel))) rfl
theorem ml_X2_59 {c0 : Cond} : (.methodLink RX2 59 yX2_isFree : Cond) ∈ c0 :: GW := gw_of (tb2 (List.mem_of_getElem? (i := 220) (by decide +kernel))) rfl
theorem cl_X3_86 {c0 : Cond} : (.classLink RX3 86 "java/lang/UnsupportedOperationException" : Cond) ∈ c0 :: GW := gw_of (tb2 (List.mem_of_getElem? (i := 221) (by decide +kernel))) rfl
theorem inst_UnsupportedOperationException {c0 : Cond} : (.instantiable "java/lang/UnsupportedOperationException" 6 : Cond) ∈ c0 :: GW := gw_of (tb2 (List.mem_of_getElem? (i := 222) (by decide +kernel))) rfl
theorem n_463 : (.castable "java/lang/UnsupportedOperationException" "java/lang/UnsupportedOperationException" : Cond) ∈ lw_tbl := tb2 (List.mem_of_getElem? (i := 223) (by decide +kernel))
theorem se_UnsupportedOperationException_Throwable_fillInStackTrace_1602 {c0 : Cond} : (.selects "java/lang/UnsupportedOperationException" ⟨"java/lang/Throwable", "fillInStackTrace", "(I)Ljava/lang/Throwable;"⟩ ⟨"java/lang/Throwable", "fillInStackTrace", "(I)Ljava/lang/Throwable;"⟩ : Cond) ∈ c0 :: GW := gw_of (tb2 (List.mem_of_getElem? (i := 224) (by decide +kernel))) rfl
theorem w_465 {c0 : Cond} : (.lays "java/lang/UnsupportedOperationException" "java/lang/Throwable" "cause" "Ljava/lang/Throwable;" : Cond) ∈ c0 :: GW := gw_of (tb2 (List.mem_of_getElem? (i := 225) (by decide +kernel))) rfl
theorem w_466 {c0 : Cond} : (.lays "java/lang/UnsupportedOperationException" "java/lang/Throwable" "stackTrace" "[Ljava/lang/StackTraceElement;" : Cond) ∈ c0 :: GW := gw_of (tb2 (List.mem_of_getElem? (i := 226) (by decide +kernel))) rfl
theorem w_467 {c0 : Cond} : (.lays "java/lang/UnsupportedOperationException" "java/lang/Throwable" "suppressedExceptions" "Ljava/util/List;" : Cond) ∈ c0 :: GW := gw_of (tb2 (List.mem_of_getElem? (i := 227) (by decide +kernel))) rfl
theorem w_468 {c0 : Cond} : (.lays "java/lang/UnsupportedOperationException" "java/lang/Throwable" "detailMessage" "Ljava/lang/String;" : Cond) ∈ c0 :: GW := gw_of (tb2 (List.mem_of_getElem? (i := 228) (by decide +kernel))) rfl
theorem w_469 {c0 : Cond} : (.lays "java/lang/UnsupportedOperationException" "java/lang/Throwable" "backtrace" "Ljava/lang/Object;" : Cond) ∈ c0 :: GW := gw_of (tb2 (List.mem_of_getElem? (i := 229) (by decide +kernel))) rfl
theorem n_470 : (.stringRef "LineKeeper" 88 "a name cannot be placed" : Cond) ∈ lw_tbl := tb2 (List.mem_of_getElem? (i := 230) (by decide +kernel))
theorem ml_X3_90 {c0 : Cond} : (.methodLink RX3 90 ⟨"java/lang/UnsupportedOperationException", "<init>", "(Ljava/lang/String;)V"⟩ : Cond) ∈ c0 :: GW := gw_of (tb2 (List.mem_of_getElem? (i := 231) (by decide +kernel))) rfl
theorem im_UnsupportedOperationException_init_3230 {c0 : Cond} : (.instanceMethod ⟨"java/lang/UnsupportedOperationException", "<init>", "(Ljava/lang/String;)V"⟩ : Cond) ∈ c0 :: GW := gw_of (tb2 (List.mem_of_getElem? (i := 232) (by decide +kernel))) rfl
theorem cd_UnsupportedOperationException_init_3230 {c0 : Cond} : (.code ⟨"java/lang/UnsupportedOperationException", "<init>", "(Ljava/lang/String;)V"⟩ prog_21_method_2_code 2 none : Cond) ∈ c0 :: GW := gw_of (tb2 (List.mem_of_getElem? (i := 233) (by decide +kernel))) rfl
theorem ml_UnsupportedOperationException_7 {c0 : Cond} : (.methodLink "java/lang/UnsupportedOperationException" 7 ⟨"java/lang/RuntimeException", "<init>", "(Ljava/lang/String;)V"⟩ : Cond) ∈ c0 :: GW := gw_of (tb2 (List.mem_of_getElem? (i := 234) (by decide +kernel))) rfl
theorem w_475 {c0 : Cond} : (.lays "java/lang/UnsupportedOperationException" "java/lang/Throwable" "depth" "I" : Cond) ∈ c0 :: GW := gw_of (tb2 (List.mem_of_getElem? (i := 235) (by decide +kernel))) rfl
theorem w_476 {c0 : Cond} : (.superclass "java/lang/UnsupportedOperationException" "java/lang/RuntimeException" : Cond) ∈ c0 :: GW := gw_of (tb2 (List.mem_of_getElem? (i := 236) (by decide +kernel))) rfl
theorem ml_L_137 {c0 : Cond} : (.methodLink RL 137 yL_take : Cond) ∈ c0 :: GW := gw_of (tb2 (List.mem_of_getElem? (i := 237) (by decide +kernel))) rfl
theorem sm_L_take {c0 : Cond} : (.static yL_take : Cond) ∈ c0 :: GW := gw_of (tb2 (List.mem_of_getElem? (i := 238) (by decide +kernel))) rfl
theorem cw_L_take {c0 : Cond} : (.codeWith yL_take method_6_code 4 (some .int) [(0, 9, 12, 21), (0, 9, 15, 15)] : Cond) ∈ c0 :: GW := gw_of (tb2 (List.mem_of_getElem? (i := 239) (by decide +kernel))) rfl
theorem ml_L_28 {c0 : Cond} : (.methodLink RL 28 yX3_take : Cond) ∈ c0 :: GW := gw_of (tb3 (List.mem_of_getElem? (i := 0) (by decide +kernel))) rfl
theorem im_X3_take {c0 : Cond} : (.instanceMethod yX3_take : Cond) ∈ c0 :: GW := gw_of (tb3 (List.mem_of_getElem? (i := 1) (by decide +kernel))) rfl
theorem se_X3_X3_take {c0 : Cond} : (.selects RX3 yX3_take yX3_take : Cond) ∈ c0 :: GW := gw_of (tb3 (List.mem_of_getElem? (i := 2) (by decide +kernel))) rfl
theorem cd_X3_take {c0 : Cond} : (.code yX3_take prog_1_method_5_code 3 (some .int) : Cond) ∈ c0 :: GW := gw_of (tb3 (List.mem_of_getElem? (i := 3) (by decide +kernel))) rfl
theorem ml_X3_91 {c0 : Cond} : (.methodLink RX3 91 yX3_checkPlacedName : Cond) ∈ c0 :: GW := gw_of (tb3 (List.mem_of_getElem? (i := 4) (by decide +kernel))) rfl
theorem im_X3_checkPlacedName {c0 : Cond} : (.instanceMethod yX3_checkPlacedName : Cond) ∈ c0 :: GW := gw_of (tb3 (List.mem_of_getElem? (i := 6) (by decide +kernel))) rfl
theorem cd_X3_checkPlacedName {c0 : Cond} : (.code yX3_checkPlacedName prog_1_method_35_code 2 none : Cond) ∈ c0 :: GW := gw_of (tb3 (List.mem_of_getElem? (i := 7) (by decide +kernel))) rfl
theorem n_488 : (.stringRef "LineKeeper" 245 "the name is not placed" : Cond) ∈ lw_tbl := tb3 (List.mem_of_getElem? (i := 8) (by decide +kernel))
theorem ml_X3_94 {c0 : Cond} : (.methodLink RX3 94 yX2_startOf : Cond) ∈ c0 :: GW := gw_of (tb3 (List.mem_of_getElem? (i := 9) (by decide +kernel))) rfl
theorem im_X2_startOf {c0 : Cond} : (.instanceMethod yX2_startOf : Cond) ∈ c0 :: GW := gw_of (tb3 (List.mem_of_getElem? (i := 10) (by decide +kernel))) rfl
theorem se_X2_X2_startOf {c0 : Cond} : (.selects RX2 yX2_startOf yX2_startOf : Cond) ∈ c0 :: GW := gw_of (tb3 (List.mem_of_getElem? (i := 11) (by decide +kernel))) rfl
theorem cd_X2_startOf {c0 : Cond} : (.code yX2_startOf prog_4_method_7_code 2 (some .int) : Cond) ∈ c0 :: GW := gw_of (tb3 (List.mem_of_getElem? (i := 12) (by decide +kernel))) rfl
theorem ml_L_140 {c0 : Cond} : (.methodLink RL 140 yL_addressOf : Cond) ∈ c0 :: GW := gw_of (tb3 (List.mem_of_getElem? (i := 13) (by decide +kernel))) rfl
theorem sm_L_addressOf {c0 : Cond} : (.static yL_addressOf : Cond) ∈ c0 :: GW := gw_of (tb3 (List.mem_of_getElem? (i := 14) (by decide +kernel))) rfl
theorem cw_L_addressOf {c0 : Cond} : (.codeWith yL_addressOf method_7_code 5 (some .int) [(0, 10, 13, 21), (0, 10, 17, 15), (0, 10, 21, 13)] : Cond) ∈ c0 :: GW := gw_of (tb3 (List.mem_of_getElem? (i := 15) (by decide +kernel))) rfl
theorem ml_L_31 {c0 : Cond} : (.methodLink RL 31 yX3_addressOf : Cond) ∈ c0 :: GW := gw_of (tb3 (List.mem_of_getElem? (i := 16) (by decide +kernel))) rfl
theorem im_X3_addressOf {c0 : Cond} : (.instanceMethod yX3_addressOf : Cond) ∈ c0 :: GW := gw_of (tb3 (List.mem_of_getElem? (i := 17) (by decide +kernel))) rfl
theorem se_X3_X3_addressOf {c0 : Cond} : (.selects RX3 yX3_addressOf yX3_addressOf : Cond) ∈ c0 :: GW := gw_of (tb3 (List.mem_of_getElem? (i := 18) (by decide +kernel))) rfl
theorem cd_X3_addressOf {c0 : Cond} : (.code yX3_addressOf prog_1_method_6_code 3 (some .int) : Cond) ∈ c0 :: GW := gw_of (tb3 (List.mem_of_getElem? (i := 19) (by decide +kernel))) rfl
theorem ml_X3_97 {c0 : Cond} : (.methodLink RX3 97 yX3_checkWord : Cond) ∈ c0 :: GW := gw_of (tb3 (List.mem_of_getElem? (i := 20) (by decide +kernel))) rfl
theorem im_X3_checkWord {c0 : Cond} : (.instanceMethod yX3_checkWord : Cond) ∈ c0 :: GW := gw_of (tb3 (List.mem_of_getElem? (i := 22) (by decide +kernel))) rfl
theorem cd_X3_checkWord {c0 : Cond} : (.code yX3_checkWord prog_1_method_36_code 3 none : Cond) ∈ c0 :: GW := gw_of (tb3 (List.mem_of_getElem? (i := 23) (by decide +kernel))) rfl
theorem ml_X3_247 {c0 : Cond} : (.methodLink RX3 247 yX2_hasWord : Cond) ∈ c0 :: GW := gw_of (tb3 (List.mem_of_getElem? (i := 24) (by decide +kernel))) rfl
theorem im_X2_hasWord {c0 : Cond} : (.instanceMethod yX2_hasWord : Cond) ∈ c0 :: GW := gw_of (tb3 (List.mem_of_getElem? (i := 25) (by decide +kernel))) rfl
theorem se_X2_X2_hasWord {c0 : Cond} : (.selects RX2 yX2_hasWord yX2_hasWord : Cond) ∈ c0 :: GW := gw_of (tb3 (List.mem_of_getElem? (i := 26) (by decide +kernel))) rfl
theorem cd_X2_hasWord {c0 : Cond} : (.code yX2_hasWord prog_4_method_6_code 3 (some .boolean) : Cond) ∈ c0 :: GW := gw_of (tb3 (List.mem_of_getElem? (i := 27) (by decide +kernel))) rfl
theorem n_508 : (.stringRef "LineKeeper" 250 "the name has no such word" : Cond) ∈ lw_tbl := tb3 (List.mem_of_getElem? (i := 28) (by decide +kernel))
theorem ml_L_143 {c0 : Cond} : (.methodLink RL 143 yL_nameAt : Cond) ∈ c0 :: GW := gw_of (tb3 (List.mem_of_getElem? (i := 29) (by decide +kernel))) rfl
theorem sm_L_nameAt {c0 : Cond} : (.static yL_nameAt : Cond) ∈ c0 :: GW := gw_of (tb3 (List.mem_of_getElem? (i := 30) (by decide +kernel))) rfl
theorem cw_L_nameAt {c0 : Cond} : (.codeWith yL_nameAt method_8_code 4 (some .int) [(0, 9, 12, 13), (0, 9, 15, 21)] : Cond) ∈ c0 :: GW := gw_of (tb3 (List.mem_of_getElem? (i := 31) (by decide +kernel))) rfl
theorem ml_L_34 {c0 : Cond} : (.methodLink RL 34 yX3_nameAt : Cond) ∈ c0 :: GW := gw_of (tb3 (List.mem_of_getElem? (i := 32) (by decide +kernel))) rfl
theorem im_X3_nameAt {c0 : Cond} : (.instanceMethod yX3_nameAt : Cond) ∈ c0 :: GW := gw_of (tb3 (List.mem_of_getElem? (i := 33) (by decide +kernel))) rfl
theorem se_X3_X3_nameAt {c0 : Cond} : (.selects RX3 yX3_nameAt yX3_nameAt : Cond) ∈ c0 :: GW := gw_of (tb3 (List.mem_of_getElem? (i := 34) (by decide +kernel))) rfl
theorem cd_X3_nameAt {c0 : Cond} : (.code yX3_nameAt prog_1_method_7_code 3 (some .int) : Cond) ∈ c0 :: GW := gw_of (tb3 (List.mem_of_getElem? (i := 35) (by decide +kernel))) rfl
theorem ml_X3_100 {c0 : Cond} : (.methodLink RX3 100 yX2_findAt : Cond) ∈ c0 :: GW := gw_of (tb3 (List.mem_of_getElem? (i := 36) (by decide +kernel))) rfl
theorem im_X2_findAt {c0 : Cond} : (.instanceMethod yX2_findAt : Cond) ∈ c0 :: GW := gw_of (tb3 (List.mem_of_getElem? (i := 37) (by decide +kernel))) rfl
theorem se_X2_X2_findAt {c0 : Cond} : (.selects RX2 yX2_findAt yX2_findAt : Cond) ∈ c0 :: GW := gw_of (tb3 (List.mem_of_getElem? (i := 38) (by decide +kernel))) rfl
theorem cd_X2_findAt {c0 : Cond} : (.code yX2_findAt prog_4_method_12_code 4 (some .int) : Cond) ∈ c0 :: GW := gw_of (tb3 (List.mem_of_getElem? (i := 39) (by decide +kernel))) rfl
theorem n_520 : (.stringRef "LineKeeper" 105 "no name has a word there" : Cond) ∈ lw_tbl := tb3 (List.mem_of_getElem? (i := 40) (by decide +kernel))
theorem ml_L_146 {c0 : Cond} : (.methodLink RL 146 yL_meet : Cond) ∈ c0 :: GW := gw_of (tb3 (List.mem_of_getElem? (i := 41) (by decide +kernel))) rfl
theorem sm_L_meet {c0 : Cond} : (.static yL_meet : Cond) ∈ c0 :: GW := gw_of (tb3 (List.mem_of_getElem? (i := 42) (by decide +kernel))) rfl
theorem cw_L_meet {c0 : Cond} : (.codeWith yL_meet method_9_code 5 (some .int) [(0, 17, 20, 21), (0, 17, 24, 13)] : Cond) ∈ c0 :: GW := gw_of (tb3 (List.mem_of_getElem? (i := 43) (by decide +kernel))) rfl
theorem ml_L_37 {c0 : Cond} : (.methodLink RL 37 yX3_meet : Cond) ∈ c0 :: GW := gw_of (tb3 (List.mem_of_getElem? (i := 44) (by decide +kernel))) rfl
theorem im_X3_meet {c0 : Cond} : (.instanceMethod yX3_meet : Cond) ∈ c0 :: GW := gw_of (tb3 (List.mem_of_getElem? (i := 45) (by decide +kernel))) rfl
theorem se_X3_X3_meet {c0 : Cond} : (.selects RX3 yX3_meet yX3_meet : Cond) ∈ c0 :: GW := gw_of (tb3 (List.mem_of_getElem? (i := 46) (by decide +kernel))) rfl
theorem cd_X3_meet {c0 : Cond} : (.code yX3_meet prog_1_method_8_code 3 (some .boolean) : Cond) ∈ c0 :: GW := gw_of (tb3 (List.mem_of_getElem? (i := 47) (by decide +kernel))) rfl
theorem n_528 : (.stringRef "LineKeeper" 108 "both names are the same" : Cond) ∈ lw_tbl := tb3 (List.mem_of_getElem? (i := 48) (by decide +kernel))
theorem ml_X3_110 {c0 : Cond} : (.methodLink RX3 110 yX2_isOnOneLine : Cond) ∈ c0 :: GW := gw_of (tb3 (List.mem_of_getElem? (i := 49) (by decide +kernel))) rfl
theorem im_X2_isOnOneLine {c0 : Cond} : (.instanceMethod yX2_isOnOneLine : Cond) ∈ c0 :: GW := gw_of (tb3 (List.mem_of_getElem? (i := 50) (by decide +kernel))) rfl
theorem se_X2_X2_isOnOneLine {c0 : Cond} : (.selects RX2 yX2_isOnOneLine yX2_isOnOneLine : Cond) ∈ c0 :: GW := gw_of (tb3 (List.mem_of_getElem? (i := 51) (by decide +kernel))) rfl
theorem cd_X2_isOnOneLine {c0 : Cond} : (.code yX2_isOnOneLine prog_4_method_13_code 3 (some .boolean) : Cond) ∈ c0 :: GW := gw_of (tb3 (List.mem_of_getElem? (i := 52) (by decide +kernel))) rfl
theorem ml_X2_33 {c0 : Cond} : (.methodLink RX2 33 yX2_isPlaced : Cond) ∈ c0 :: GW := gw_of (tb3 (List.mem_of_getElem? (i := 53) (by decide +kernel))) rfl
theorem ml_X2_36 {c0 : Cond} : (.methodLink RX2 36 yX2_lastLineOf : Cond) ∈ c0 :: GW := gw_of (tb3 (List.mem_of_getElem? (i := 54) (by decide +kernel))) rfl
theorem im_X2_lastLineOf {c0 : Cond} : (.instanceMethod yX2_lastLineOf : Cond) ∈ c0 :: GW := gw_of (tb3 (List.mem_of_getElem? (i := 56) (by decide +kernel))) rfl
theorem cd_X2_lastLineOf {c0 : Cond} : (.code yX2_lastLineOf prog_4_method_14_code 2 (some .int) : Cond) ∈ c0 :: GW := gw_of (tb3 (List.mem_of_getElem? (i := 57) (by decide +kernel))) rfl
theorem ml_L_149 {c0 : Cond} : (.methodLink RL 149 yL_read : Cond) ∈ c0 :: GW := gw_of (tb3 (List.mem_of_getElem? (i := 58) (by decide +kernel))) rfl
theorem sm_L_read {c0 : Cond} : (.static yL_read : Cond) ∈ c0 :: GW := gw_of (tb3 (List.mem_of_getElem? (i := 59) (by decide +kernel))) rfl
theorem cw_L_read {c0 : Cond} : (.codeWith yL_read method_10_code 6 (some .int) [(0, 12, 15, 45), (0, 12, 19, 21), (0, 12, 23, 15), (0, 12, 27, 13)] : Cond) ∈ c0 :: GW := gw_of (tb3 (List.mem_of_getElem? (i := 60) (by decide +kernel))) rfl
theorem cl_L_45 {c0 : Cond} : (.classLink RL 45 "java/lang/IndexOutOfBoundsException" : Cond) ∈ c0 :: GW := gw_of (tb3 (List.mem_of_getElem? (i := 61) (by decide +kernel))) rfl
theorem inst_Jx00060 {c0 : Cond} : (.instantiable RJx00060 6 : Cond) ∈ c0 :: GW := gw_of (tb3 (List.mem_of_getElem? (i := 62) (by decide +kernel))) rfl
theorem im_Jx00060_init_a7421 {c0 : Cond} : (.instanceMethod yJx00060_init_a7421 : Cond) ∈ c0 :: GW := gw_of (tb3 (List.mem_of_getElem? (i := 63) (by decide +kernel))) rfl
theorem cd_Jx00060_init_a7421 {c0 : Cond} : (.code yJx00060_init_a7421 prog_9_method_2_code 2 none : Cond) ∈ c0 :: GW := gw_of (tb3 (List.mem_of_getElem? (i := 64) (by decide +kernel))) rfl
theorem ml_Jx00060_7 {c0 : Cond} : (.methodLink RJx00060 7 ⟨"java/lang/IndexOutOfBoundsException", "<init>", "(Ljava/lang/String;)V"⟩ : Cond) ∈ c0 :: GW := gw_of (tb3 (List.mem_of_getElem? (i := 65) (by decide +kernel))) rfl
theorem im_IndexOutOfBoundsException_init_3230 {c0 : Cond} : (.instanceMethod ⟨"java/lang/IndexOutOfBoundsException", "<init>", "(Ljava/lang/String;)V"⟩ : Cond) ∈ c0 :: GW := gw_of (tb3 (List.mem_of_getElem? (i := 66) (by decide +kernel))) rfl
theorem cd_IndexOutOfBoundsException_init_3230 {c0 : Cond} : (.code ⟨"java/lang/IndexOutOfBoundsException", "<init>", "(Ljava/lang/String;)V"⟩ prog_14_method_2_code 2 none : Cond) ∈ c0 :: GW := gw_of (tb3 (List.mem_of_getElem? (i := 67) (by decide +kernel))) rfl
theorem ml_IndexOutOfBoundsException_7 {c0 : Cond} : (.methodLink "java/lang/IndexOutOfBoundsException" 7 ⟨"java/lang/RuntimeException", "<init>", "(Ljava/lang/String;)V"⟩ : Cond) ∈ c0 :: GW := gw_of (tb3 (List.mem_of_getElem? (i := 68) (by decide +kernel))) rfl
theorem w_549 {c0 : Cond} : (.lays "java/lang/ArrayIndexOutOfBoundsException" "java/lang/Throwable" "backtrace" "Ljava/lang/Object;" : Cond) ∈ c0 :: GW := gw_of (tb3 (List.mem_of_getElem? (i := 69) (by decide +kernel))) rfl
theorem w_550 {c0 : Cond} : (.lays "java/lang/ArrayIndexOutOfBoundsException" "java/lang/Throwable" "detailMessage" "Ljava/lang/String;" : Cond) ∈ c0 :: GW := gw_of (tb3 (List.mem_of_getElem? (i := 70) (by decide +kernel))) rfl
theorem w_551 {c0 : Cond} : (.lays "java/lang/ArrayIndexOutOfBoundsException" "java/lang/Throwable" "cause" "Ljava/lang/Throwable;" : Cond) ∈ c0 :: GW := gw_of (tb3 (List.mem_of_getElem? (i := 71) (by decide +kernel))) rfl
theorem w_552 {c0 : Cond} : (.lays "java/lang/ArrayIndexOutOfBoundsException" "java/lang/Throwable" "stackTrace" "[Ljava/lang/StackTraceElement;" : Cond) ∈ c0 :: GW := gw_of (tb3 (List.mem_of_getElem? (i := 72) (by decide +kernel))) rfl
theorem w_553 {c0 : Cond} : (.lays "java/lang/ArrayIndexOutOfBoundsException" "java/lang/Throwable" "depth" "I" : Cond) ∈ c0 :: GW := gw_of (tb3 (List.mem_of_getElem? (i := 73) (by decide +kernel))) rfl
theorem w_554 {c0 : Cond} : (.lays "java/lang/ArrayIndexOutOfBoundsException" "java/lang/Throwable" "suppressedExceptions" "Ljava/util/List;" : Cond) ∈ c0 :: GW := gw_of (tb3 (List.mem_of_getElem? (i := 74) (by decide +kernel))) rfl
theorem w_555 {c0 : Cond} : (.superclass "java/lang/ArrayIndexOutOfBoundsException" "java/lang/IndexOutOfBoundsException" : Cond) ∈ c0 :: GW := gw_of (tb3 (List.mem_of_getElem? (i := 75) (by decide +kernel))) rfl
theorem n_556 : (.castable "java/lang/ArrayIndexOutOfBoundsException" "java/lang/ArrayIndexOutOfBoundsException" : Cond) ∈ lw_tbl := tb3 (List.mem_of_getElem? (i := 76) (by decide +kernel))
theorem n_557 : (.declares ⟨"java/lang/IndexOutOfBoundsException", "<init>", "()V"⟩ : Cond) ∈ lw_tbl := tb3 (List.mem_of_getElem? (i := 77) (by decide +kernel))
theorem n_558 : (.declares ⟨"java/lang/IndexOutOfBoundsException", "<init>", "(Ljava/lang/String;)V"⟩ : Cond) ∈ lw_tbl := tb3 (List.mem_of_getElem? (i := 78) (by decide +kernel))
theorem se_Jx00060_Throwable_fillInStackTrace_1602 {c0 : Cond} : (.selects RJx00060 ⟨"java/lang/Throwable", "fillInStackTrace", "(I)Ljava/lang/Throwable;"⟩ ⟨"java/lang/Throwable", "fillInStackTrace", "(I)Ljava/lang/Throwable;"⟩ : Cond) ∈ c0 :: GW := gw_of (tb3 (List.mem_of_getElem? (i := 79) (by decide +kernel))) rfl
theorem inst_J0 {c0 : Cond} : (.instantiable RJ0 4 : Cond) ∈ c0 :: GW := gw_of (tb3 (List.mem_of_getElem? (i := 80) (by decide +kernel))) rfl
theorem w_561 {c0 : Cond} : (.laysFinal "java/lang/String" "java/lang/String" "value" "[B" : Cond) ∈ c0 :: GW := gw_of (tb3 (List.mem_of_getElem? (i := 81) (by decide +kernel))) rfl
theorem w_563 {c0 : Cond} : (.laysFinal "java/lang/String" "java/lang/String" "coder" "B" : Cond) ∈ c0 :: GW := gw_of (tb3 (List.mem_of_getElem? (i := 83) (by decide +kernel))) rfl
theorem ml_L_41 {c0 : Cond} : (.methodLink RL 41 yX3_read : Cond) ∈ c0 :: GW := gw_of (tb3 (List.mem_of_getElem? (i := 85) (by decide +kernel))) rfl
theorem im_X3_read {c0 : Cond} : (.instanceMethod yX3_read : Cond) ∈ c0 :: GW := gw_of (tb3 (List.mem_of_getElem? (i := 86) (by decide +kernel))) rfl
theorem se_X3_X3_read {c0 : Cond} : (.selects RX3 yX3_read yX3_read : Cond) ∈ c0 :: GW := gw_of (tb3 (List.mem_of_getElem? (i := 87) (by decide +kernel))) rfl
theorem cd_X3_read {c0 : Cond} : (.code yX3_read prog_1_method_9_code 4 (some .int) : Cond) ∈ c0 :: GW := gw_of (tb3 (List.mem_of_getElem? (i := 88) (by decide +kernel))) rfl
theorem ml_X3_115 {c0 : Cond} : (.methodLink RX3 115 yX3_access : Cond) ∈ c0 :: GW := gw_of (tb3 (List.mem_of_getElem? (i := 89) (by decide +kernel))) rfl
theorem im_X3_access {c0 : Cond} : (.instanceMethod yX3_access : Cond) ∈ c0 :: GW := gw_of (tb3 (List.mem_of_getElem? (i := 91) (by decide +kernel))) rfl
theorem cd_X3_access {c0 : Cond} : (.code yX3_access prog_1_method_40_code 10 (some .int) : Cond) ∈ c0 :: GW := gw_of (tb3 (List.mem_of_getElem? (i := 92) (by decide +kernel))) rfl
theorem ml_X3_119 {c0 : Cond} : (.methodLink RX3 119 yX3_checkCore : Cond) ∈ c0 :: GW := gw_of (tb3 (List.mem_of_getElem? (i := 93) (by decide +kernel))) rfl
theorem sm_X3_checkCore {c0 : Cond} : (.static yX3_checkCore : Cond) ∈ c0 :: GW := gw_of (tb3 (List.mem_of_getElem? (i := 94) (by decide +kernel))) rfl
theorem cd_X3_checkCore {c0 : Cond} : (.code yX3_checkCore prog_1_method_32_code 1 none : Cond) ∈ c0 :: GW := gw_of (tb3 (List.mem_of_getElem? (i := 95) (by decide +kernel))) rfl
theorem cl_X3_233 {c0 : Cond} : (.classLink RX3 233 "java/lang/IndexOutOfBoundsException" : Cond) ∈ c0 :: GW := gw_of (tb3 (List.mem_of_getElem? (i := 96) (by decide +kernel))) rfl
theorem inst_IndexOutOfBoundsException {c0 : Cond} : (.instantiable "java/lang/IndexOutOfBoundsException" 6 : Cond) ∈ c0 :: GW := gw_of (tb3 (List.mem_of_getElem? (i := 97) (by decide +kernel))) rfl
theorem n_578 : (.castable "java/lang/IndexOutOfBoundsException" "java/lang/IndexOutOfBoundsException" : Cond) ∈ lw_tbl := tb3 (List.mem_of_getElem? (i := 98) (by decide +kernel))
theorem se_IndexOutOfBoundsException_Throwable_fillInStackTrace_1602 {c0 : Cond} : (.selects "java/lang/IndexOutOfBoundsException" ⟨"java/lang/Throwable", "fillInStackTrace", "(I)Ljava/lang/Throwable;"⟩ ⟨"java/lang/Throwable", "fillInStackTrace", "(I)Ljava/lang/Throwable;"⟩ : Cond) ∈ c0 :: GW := gw_of (tb3 (List.mem_of_getElem? (i := 99) (by decide +kernel))) rfl
theorem w_580 {c0 : Cond} : (.lays "java/lang/IndexOutOfBoundsException" "java/lang/Throwable" "cause" "Ljava/lang/Throwable;" : Cond) ∈ c0 :: GW := gw_of (tb3 (List.mem_of_getElem? (i := 100) (by decide +kernel))) rfl
theorem w_581 {c0 : Cond} : (.lays "java/lang/IndexOutOfBoundsException" "java/lang/Throwable" "stackTrace" "[Ljava/lang/StackTraceElement;" : Cond) ∈ c0 :: GW := gw_of (tb3 (List.mem_of_getElem? (i := 101) (by decide +kernel))) rfl
theorem w_582 {c0 : Cond} : (.lays "java/lang/IndexOutOfBoundsException" "java/lang/Throwable" "suppressedExceptions" "Ljava/util/List;" : Cond) ∈ c0 :: GW := gw_of (tb3 (List.mem_of_getElem? (i := 102) (by decide +kernel))) rfl
theorem w_583 {c0 : Cond} : (.lays "java/lang/IndexOutOfBoundsException" "java/lang/Throwable" "detailMessage" "Ljava/lang/String;" : Cond) ∈ c0 :: GW := gw_of (tb3 (List.mem_of_getElem? (i := 103) (by decide +kernel))) rfl
theorem w_584 {c0 : Cond} : (.lays "java/lang/IndexOutOfBoundsException" "java/lang/Throwable" "backtrace" "Ljava/lang/Object;" : Cond) ∈ c0 :: GW := gw_of (tb3 (List.mem_of_getElem? (i := 104) (by decide +kernel))) rfl
theorem n_585 : (.stringRef "LineKeeper" 235 "the cores are 0 to 3" : Cond) ∈ lw_tbl := tb3 (List.mem_of_getElem? (i := 105) (by decide +kernel))
theorem ml_X3_237 {c0 : Cond} : (.methodLink RX3 237 ⟨"java/lang/IndexOutOfBoundsException", "<init>", "(Ljava/lang/String;)V"⟩ : Cond) ∈ c0 :: GW := gw_of (tb3 (List.mem_of_getElem? (i := 106) (by decide +kernel))) rfl
theorem w_587 {c0 : Cond} : (.lays "java/lang/IndexOutOfBoundsException" "java/lang/Throwable" "depth" "I" : Cond) ∈ c0 :: GW := gw_of (tb3 (List.mem_of_getElem? (i := 107) (by decide +kernel))) rfl
theorem w_588 {c0 : Cond} : (.superclass "java/lang/IndexOutOfBoundsException" "java/lang/RuntimeException" : Cond) ∈ c0 :: GW := gw_of (tb3 (List.mem_of_getElem? (i := 108) (by decide +kernel))) rfl
theorem ml_X3_122 {c0 : Cond} : (.methodLink RX3 122 yX3_isFull : Cond) ∈ c0 :: GW := gw_of (tb3 (List.mem_of_getElem? (i := 109) (by decide +kernel))) rfl
theorem im_X3_isFull {c0 : Cond} : (.instanceMethod yX3_isFull : Cond) ∈ c0 :: GW := gw_of (tb3 (List.mem_of_getElem? (i := 111) (by decide +kernel))) rfl
theorem cd_X3_isFull {c0 : Cond} : (.code yX3_isFull prog_1_method_39_code 1 (some .boolean) : Cond) ∈ c0 :: GW := gw_of (tb3 (List.mem_of_getElem? (i := 112) (by decide +kernel))) rfl
theorem n_593 : (.stringRef "LineKeeper" 254 "the object is used for at most 512 calls" : Cond) ∈ lw_tbl := tb3 (List.mem_of_getElem? (i := 113) (by decide +kernel))
theorem inst_X1 {c0 : Cond} : (.instantiable RX1 6 : Cond) ∈ c0 :: GW := gw_of (tb3 (List.mem_of_getElem? (i := 114) (by decide +kernel))) rfl
theorem ml_X3_264 {c0 : Cond} : (.methodLink RX3 264 yX1_init_ : Cond) ∈ c0 :: GW := gw_of (tb3 (List.mem_of_getElem? (i := 115) (by decide +kernel))) rfl
theorem im_X1_init_ {c0 : Cond} : (.instanceMethod yX1_init_ : Cond) ∈ c0 :: GW := gw_of (tb3 (List.mem_of_getElem? (i := 116) (by decide +kernel))) rfl
theorem cd_X1_init_ {c0 : Cond} : (.code yX1_init_ prog_3_method_2_code 7 none : Cond) ∈ c0 :: GW := gw_of (tb3 (List.mem_of_getElem? (i := 117) (by decide +kernel))) rfl
theorem ml_X1_9 {c0 : Cond} : (.methodLink RX1 9 objectInit : Cond) ∈ c0 :: GW := gw_of (tb3 (List.mem_of_getElem? (i := 118) (by decide +kernel))) rfl
theorem fl_X1_14 {c0 : Cond} : (.fieldLink RX1 14 "LineKeeper$Event" "kind" "I" : Cond) ∈ c0 :: GW := gw_of (tb3 (List.mem_of_getElem? (i := 119) (by decide +kernel))) rfl
theorem fl_X3_287 {c0 : Cond} : (.fieldLink RX3 287 "LineKeeper$Event" "kind" "I" : Cond) ∈ c0 :: GW := gw_of (tb3 (List.mem_of_getElem? (i := 120) (by decide +kernel))) rfl
theorem fl_X1_18 {c0 : Cond} : (.fieldLink RX1 18 "LineKeeper$Event" "core" "I" : Cond) ∈ c0 :: GW := gw_of (tb3 (List.mem_of_getElem? (i := 121) (by decide +kernel))) rfl
theorem fl_X3_207 {c0 : Cond} : (.fieldLink RX3 207 "LineKeeper$Event" "core" "I" : Cond) ∈ c0 :: GW := gw_of (tb3 (List.mem_of_getElem? (i := 122) (by decide +kernel))) rfl
theorem fl_X1_21 {c0 : Cond} : (.fieldLink RX1 21 "LineKeeper$Event" "name" "I" : Cond) ∈ c0 :: GW := gw_of (tb3 (List.mem_of_getElem? (i := 123) (by decide +kernel))) rfl
theorem fl_X3_195 {c0 : Cond} : (.fieldLink RX3 195 "LineKeeper$Event" "name" "I" : Cond) ∈ c0 :: GW := gw_of (tb3 (List.mem_of_getElem? (i := 124) (by decide +kernel))) rfl
theorem fl_X1_24 {c0 : Cond} : (.fieldLink RX1 24 "LineKeeper$Event" "line" "I" : Cond) ∈ c0 :: GW := gw_of (tb3 (List.mem_of_getElem? (i := 125) (by decide +kernel))) rfl
theorem fl_X3_277 {c0 : Cond} : (.fieldLink RX3 277 "LineKeeper$Event" "line" "I" : Cond) ∈ c0 :: GW := gw_of (tb3 (List.mem_of_getElem? (i := 126) (by decide +kernel))) rfl
theorem fl_X1_27 {c0 : Cond} : (.fieldLink RX1 27 "LineKeeper$Event" "cost" "I" : Cond) ∈ c0 :: GW := gw_of (tb3 (List.mem_of_getElem? (i := 127) (by decide +kernel))) rfl
theorem fl_X3_152 {c0 : Cond} : (.fieldLink RX3 152 "LineKeeper$Event" "cost" "I" : Cond) ∈ c0 :: GW := gw_of (tb3 (List.mem_of_getElem? (i := 128) (by decide +kernel))) rfl
theorem fl_X1_30 {c0 : Cond} : (.fieldLink RX1 30 "LineKeeper$Event" "cause" "C" : Cond) ∈ c0 :: GW := gw_of (tb3 (List.mem_of_getElem? (i := 129) (by decide +kernel))) rfl
theorem fl_X3_159 {c0 : Cond} : (.fieldLink RX3 159 "LineKeeper$Event" "cause" "C" : Cond) ∈ c0 :: GW := gw_of (tb3 (List.mem_of_getElem? (i := 130) (by decide +kernel))) rfl
theorem w_611 {c0 : Cond} : (.laysFinal "LineKeeper$Event" "LineKeeper$Event" "kind" "I" : Cond) ∈ c0 :: GW := gw_of (tb3 (List.mem_of_getElem? (i := 131) (by decide +kernel))) rfl
theorem w_613 {c0 : Cond} : (.laysFinal "LineKeeper$Event" "LineKeeper$Event" "core" "I" : Cond) ∈ c0 :: GW := gw_of (tb3 (List.mem_of_getElem? (i := 133) (by decide +kernel))) rfl
theorem w_615 {c0 : Cond} : (.laysFinal "LineKeeper$Event" "LineKeeper$Event" "name" "I" : Cond) ∈ c0 :: GW := gw_of (tb3 (List.mem_of_getElem? (i := 135) (by decide +kernel))) rfl
theorem w_617 {c0 : Cond} : (.laysFinal "LineKeeper$Event" "LineKeeper$Event" "line" "I" : Cond) ∈ c0 :: GW := gw_of (tb3 (List.mem_of_getElem? (i := 137) (by decide +kernel))) rfl
theorem w_619 {c0 : Cond} : (.laysFinal "LineKeeper$Event" "LineKeeper$Event" "cost" "I" : Cond) ∈ c0 :: GW := gw_of (tb3 (List.mem_of_getElem? (i := 139) (by decide +kernel))) rfl
theorem w_621 {c0 : Cond} : (.laysFinal "LineKeeper$Event" "LineKeeper$Event" "cause" "C" : Cond) ∈ c0 :: GW := gw_of (tb3 (List.mem_of_getElem? (i := 141) (by decide +kernel))) rfl
theorem w_623 {c0 : Cond} : (.superclass "LineKeeper$Event" "java/lang/Object" : Cond) ∈ c0 :: GW := gw_of (tb3 (List.mem_of_getElem? (i := 143) (by decide +kernel))) rfl
theorem n_624 : (.interfaceEntry "LineKeeper" 125 : Cond) ∈ lw_tbl := tb3 (List.mem_of_getElem? (i := 144) (by decide +kernel))
theorem ml_X3_125 {c0 : Cond} : (.methodLink RX3 125 ⟨"java/util/List", "add", "(Ljava/lang/Object;)Z"⟩ : Cond) ∈ c0 :: GW := gw_of (tb3 (List.mem_of_getElem? (i := 145) (by decide +kernel))) rfl
theorem n_626 : (.interfaceMethod "java/util/List" "java/util/List" "add" "(Ljava/lang/Object;)Z" : Cond) ∈ lw_tbl := tb3 (List.mem_of_getElem? (i := 146) (by decide +kernel))
theorem n_627 : (.declares ⟨"java/util/List", "add", "(Ljava/lang/Object;)Z"⟩ : Cond) ∈ lw_tbl := tb3 (List.mem_of_getElem? (i := 147) (by decide +kernel))
theorem se_Jx4a65c_Jxbd725_add_2845_Jx4a65c_add_9ea2d {c0 : Cond} : (.selects RJx4a65c ⟨"java/util/List", "add", "(Ljava/lang/Object;)Z"⟩ yJx4a65c_add_9ea2d : Cond) ∈ c0 :: GW := gw_of (tb3 (List.mem_of_getElem? (i := 148) (by decide +kernel))) rfl
theorem n_629 : (.unhidden "java/util/ArrayList" "add" "(Ljava/lang/Object;)Z" : Cond) ∈ lw_tbl := tb3 (List.mem_of_getElem? (i := 149) (by decide +kernel))
theorem im_Jx4a65c_add_9ea2d {c0 : Cond} : (.instanceMethod yJx4a65c_add_9ea2d : Cond) ∈ c0 :: GW := gw_of (tb3 (List.mem_of_getElem? (i := 150) (by decide +kernel))) rfl
theorem n_631 : (.publicMethod ⟨"java/util/ArrayList", "add", "(Ljava/lang/Object;)Z"⟩ : Cond) ∈ lw_tbl := tb3 (List.mem_of_getElem? (i := 151) (by decide +kernel))
theorem cd_Jx4a65c_add_9ea2d {c0 : Cond} : (.code yJx4a65c_add_9ea2d prog_24_method_25_code 2 (some .boolean) : Cond) ∈ c0 :: GW := gw_of (tb3 (List.mem_of_getElem? (i := 152) (by decide +kernel))) rfl
theorem ml_Jx4a65c_131 {c0 : Cond} : (.methodLink RJx4a65c 131 yJx4a65c_add_72be8 : Cond) ∈ c0 :: GW := gw_of (tb3 (List.mem_of_getElem? (i := 153) (by decide +kernel))) rfl
theorem im_Jx4a65c_add_72be8 {c0 : Cond} : (.instanceMethod yJx4a65c_add_72be8 : Cond) ∈ c0 :: GW := gw_of (tb3 (List.mem_of_getElem? (i := 155) (by decide +kernel))) rfl
theorem cd_Jx4a65c_add_72be8 {c0 : Cond} : (.code yJx4a65c_add_72be8 prog_24_method_24_code 4 none : Cond) ∈ c0 :: GW := gw_of (tb3 (List.mem_of_getElem? (i := 156) (by decide +kernel))) rfl
theorem ml_Jx4a65c_129 {c0 : Cond} : (.methodLink RJx4a65c 129 yJx4a65c_grow_d5877 : Cond) ∈ c0 :: GW := gw_of (tb3 (List.mem_of_getElem? (i := 157) (by decide +kernel))) rfl
theorem im_Jx4a65c_grow_d5877 {c0 : Cond} : (.instanceMethod yJx4a65c_grow_d5877 : Cond) ∈ c0 :: GW := gw_of (tb3 (List.mem_of_getElem? (i := 159) (by decide +kernel))) rfl
theorem cd_Jx4a65c_grow_d5877 {c0 : Cond} : (.code yJx4a65c_grow_d5877 prog_24_method_7_code 1 (some (.array (.object "java/lang/Object"))) : Cond) ∈ c0 :: GW := gw_of (tb3 (List.mem_of_getElem? (i := 160) (by decide +kernel))) rfl
theorem ml_Jx4a65c_69 {c0 : Cond} : (.methodLink RJx4a65c 69 yJx4a65c_grow_92f84 : Cond) ∈ c0 :: GW := gw_of (tb3 (List.mem_of_getElem? (i := 161) (by decide +kernel))) rfl
theorem im_Jx4a65c_grow_92f84 {c0 : Cond} : (.instanceMethod yJx4a65c_grow_92f84 : Cond) ∈ c0 :: GW := gw_of (tb3 (List.mem_of_getElem? (i := 163) (by decide +kernel))) rfl
theorem cd_Jx4a65c_grow_92f84 {c0 : Cond} : (.code yJx4a65c_grow_92f84 prog_24_method_6_code 4 (some (.array (.object "java/lang/Object"))) : Cond) ∈ c0 :: GW := gw_of (tb3 (List.mem_of_getElem? (i := 164) (by decide +kernel))) rfl
theorem ml_Jx4a65c_73 {c0 : Cond} : (.methodLink RJx4a65c 73 yJ8_newLength_cabcc : Cond) ∈ c0 :: GW := gw_of (tb3 (List.mem_of_getElem? (i := 165) (by decide +kernel))) rfl
theorem sm_J8_newLength_cabcc {c0 : Cond} : (.static yJ8_newLength_cabcc : Cond) ∈ c0 :: GW := gw_of (tb3 (List.mem_of_getElem? (i := 166) (by decide +kernel))) rfl
theorem cd_J8_newLength_cabcc {c0 : Cond} : (.code yJ8_newLength_cabcc prog_32_method_27_code 4 (some .int) : Cond) ∈ c0 :: GW := gw_of (tb3 (List.mem_of_getElem? (i := 167) (by decide +kernel))) rfl
theorem ml_J8_194 {c0 : Cond} : (.methodLink RJ8 194 yJ9_max_7cf53 : Cond) ∈ c0 :: GW := gw_of (tb3 (List.mem_of_getElem? (i := 168) (by decide +kernel))) rfl
theorem w_649 {c0 : Cond} : (.constant "jdk/internal/util/ArraysSupport" 200 (2147483639 : Int32) : Cond) ∈ c0 :: GW := gw_of (tb3 (List.mem_of_getElem? (i := 169) (by decide +kernel))) rfl
theorem ml_J8_201 {c0 : Cond} : (.methodLink RJ8 201 yJ8_hugeLength_7cf53 : Cond) ∈ c0 :: GW := gw_of (tb3 (List.mem_of_getElem? (i := 170) (by decide +kernel))) rfl
theorem sm_J8_hugeLength_7cf53 {c0 : Cond} : (.static yJ8_hugeLength_7cf53 : Cond) ∈ c0 :: GW := gw_of (tb3 (List.mem_of_getElem? (i := 171) (by decide +kernel))) rfl
theorem cd_J8_hugeLength_7cf53 {c0 : Cond} : (.code yJ8_hugeLength_7cf53 prog_32_method_28_code 3 (some .int) : Cond) ∈ c0 :: GW := gw_of (tb3 (List.mem_of_getElem? (i := 172) (by decide +kernel))) rfl
theorem ml_Jx4a65c_66 {c0 : Cond} : (.methodLink RJx4a65c 66 yJ7_copyOf_1904c : Cond) ∈ c0 :: GW := gw_of (tb3 (List.mem_of_getElem? (i := 173) (by decide +kernel))) rfl
theorem sm_J7_copyOf_1904c {c0 : Cond} : (.static yJ7_copyOf_1904c : Cond) ∈ c0 :: GW := gw_of (tb3 (List.mem_of_getElem? (i := 174) (by decide +kernel))) rfl
theorem cd_J7_copyOf_1904c {c0 : Cond} : (.code yJ7_copyOf_1904c prog_25_method_119_code 2 (some (.array (.object "java/lang/Object"))) : Cond) ∈ c0 :: GW := gw_of (tb3 (List.mem_of_getElem? (i := 175) (by decide +kernel))) rfl
theorem ml_J7_86 {c0 : Cond} : (.methodLink RJ7 86 ⟨"java/lang/Object", "getClass", "()Ljava/lang/Class;"⟩ : Cond) ∈ c0 :: GW := gw_of (tb3 (List.mem_of_getElem? (i := 176) (by decide +kernel))) rfl
theorem im_Object_getClass_9700 {c0 : Cond} : (.instanceMethod ⟨"java/lang/Object", "getClass", "()Ljava/lang/Class;"⟩ : Cond) ∈ c0 :: GW := gw_of (tb3 (List.mem_of_getElem? (i := 177) (by decide +kernel))) rfl
theorem w_658 {c0 : Cond} : (.sameMethod "java/lang/Object" "java/lang/Object" "getClass" "()Ljava/lang/Class;" : Cond) ∈ c0 :: GW := gw_of (tb3 (List.mem_of_getElem? (i := 178) (by decide +kernel))) rfl
theorem se_X3_Object_getClass_9700 {c0 : Cond} : (.selects RX3 ⟨"java/lang/Object", "getClass", "()Ljava/lang/Class;"⟩ ⟨"java/lang/Object", "getClass", "()Ljava/lang/Class;"⟩ : Cond) ∈ c0 :: GW := gw_of (tb3 (List.mem_of_getElem? (i := 179) (by decide +kernel))) rfl
theorem se_X0_Object_getClass_9700 {c0 : Cond} : (.selects RX0 ⟨"java/lang/Object", "getClass", "()Ljava/lang/Class;"⟩ ⟨"java/lang/Object", "getClass", "()Ljava/lang/Class;"⟩ : Cond) ∈ c0 :: GW := gw_of (tb3 (List.mem_of_getElem? (i := 180) (by decide +kernel))) rfl
theorem se_X1_Object_getClass_9700 {c0 : Cond} : (.selects RX1 ⟨"java/lang/Object", "getClass", "()Ljava/lang/Class;"⟩ ⟨"java/lang/Object", "getClass", "()Ljava/lang/Class;"⟩ : Cond) ∈ c0 :: GW := gw_of (tb3 (List.mem_of_getElem? (i := 181) (by decide +kernel))) rfl
theorem se_X2_Object_getClass_9700 {c0 : Cond} : (.selects RX2 ⟨"java/lang/Object", "getClass", "()Ljava/lang/Class;"⟩ ⟨"java/lang/Object", "getClass", "()Ljava/lang/Class;"⟩ : Cond) ∈ c0 :: GW := gw_of (tb3 (List.mem_of_getElem? (i := 182) (by decide +kernel))) rfl
theorem se_X4_Object_getClass_9700 {c0 : Cond} : (.selects RX4 ⟨"java/lang/Object", "getClass", "()Ljava/lang/Class;"⟩ ⟨"java/lang/Object", "getClass", "()Ljava/lang/Class;"⟩ : Cond) ∈ c0 :: GW := gw_of (tb3 (List.mem_of_getElem? (i := 183) (by decide +kernel))) rfl
theorem se_ArithmeticException_Object_getClass_9700 {c0 : Cond} : (.selects "java/lang/ArithmeticException" ⟨"java/lang/Object", "getClass", "()Ljava/lang/Class;"⟩ ⟨"java/lang/Object", "getClass", "()Ljava/lang/Class;"⟩ : Cond) ∈ c0 :: GW := gw_of (tb3 (List.mem_of_getElem? (i := 184) (by decide +kernel))) rfl
theorem se_Jx00060_Object_getClass_9700 {c0 : Cond} : (.selects RJx00060 ⟨"java/lang/Object", "getClass", "()Ljava/lang/Class;"⟩ ⟨"java/lang/Object", "getClass", "()Ljava/lang/Class;"⟩ : Cond) ∈ c0 :: GW := gw_of (tb3 (List.mem_of_getElem? (i := 185) (by decide +kernel))) rfl
theorem se_IllegalArgumentException_Object_getClass_9700 {c0 : Cond} : (.selects "java/lang/IllegalArgumentException" ⟨"java/lang/Object", "getClass", "()Ljava/lang/Class;"⟩ ⟨"java/lang/Object", "getClass", "()Ljava/lang/Class;"⟩ : Cond) ∈ c0 :: GW := gw_of (tb3 (List.mem_of_getElem? (i := 186) (by decide +kernel))) rfl
theorem se_IllegalStateException_Object_getClass_9700 {c0 : Cond} : (.selects "java/lang/IllegalStateException" ⟨"java/lang/Object", "getClass", "()Ljava/lang/Class;"⟩ ⟨"java/lang/Object", "getClass", "()Ljava/lang/Class;"⟩ : Cond) ∈ c0 :: GW := gw_of (tb3 (List.mem_of_getElem? (i := 187) (by decide +kernel))) rfl
theorem se_IndexOutOfBoundsException_Object_getClass_9700 {c0 : Cond} : (.selects "java/lang/IndexOutOfBoundsException" ⟨"java/lang/Object", "getClass", "()Ljava/lang/Class;"⟩ ⟨"java/lang/Object", "getClass", "()Ljava/lang/Class;"⟩ : Cond) ∈ c0 :: GW := gw_of (tb3 (List.mem_of_getElem? (i := 188) (by decide +kernel))) rfl
theorem se_UnsupportedOperationException_Object_getClass_9700 {c0 : Cond} : (.selects "java/lang/UnsupportedOperationException" ⟨"java/lang/Object", "getClass", "()Ljava/lang/Class;"⟩ ⟨"java/lang/Object", "getClass", "()Ljava/lang/Class;"⟩ : Cond) ∈ c0 :: GW := gw_of (tb3 (List.mem_of_getElem? (i := 189) (by decide +kernel))) rfl
theorem se_Jx4a65c_Object_getClass_9700 {c0 : Cond} : (.selects RJx4a65c ⟨"java/lang/Object", "getClass", "()Ljava/lang/Class;"⟩ ⟨"java/lang/Object", "getClass", "()Ljava/lang/Class;"⟩ : Cond) ∈ c0 :: GW := gw_of (tb3 (List.mem_of_getElem? (i := 190) (by decide +kernel))) rfl
theorem se_NoSuchElementException_Object_getClass_9700 {c0 : Cond} : (.selects "java/util/NoSuchElementException" ⟨"java/lang/Object", "getClass", "()Ljava/lang/Class;"⟩ ⟨"java/lang/Object", "getClass", "()Ljava/lang/Class;"⟩ : Cond) ∈ c0 :: GW := gw_of (tb3 (List.mem_of_getElem? (i := 191) (by decide +kernel))) rfl
theorem nt_Object_getClass_9700 {c0 : Cond} : (.native ⟨"java/lang/Object", "getClass", "()Ljava/lang/Class;"⟩ : Cond) ∈ c0 :: GW := gw_of (tb3 (List.mem_of_getElem? (i := 192) (by decide +kernel))) rfl
theorem ml_J7_300 {c0 : Cond} : (.methodLink RJ7 300 yJ7_copyOf_6403c : Cond) ∈ c0 :: GW := gw_of (tb3 (List.mem_of_getElem? (i := 193) (by decide +kernel))) rfl
theorem sm_J7_copyOf_6403c {c0 : Cond} : (.static yJ7_copyOf_6403c : Cond) ∈ c0 :: GW := gw_of (tb3 (List.mem_of_getElem? (i := 194) (by decide +kernel))) rfl
theorem cd_J7_copyOf_6403c {c0 : Cond} : (.code yJ7_copyOf_6403c prog_25_method_120_code 4 (some (.array (.object "java/lang/Object"))) : Cond) ∈ c0 :: GW := gw_of (tb3 (List.mem_of_getElem? (i := 195) (by decide +kernel))) rfl
theorem cl_J7_110 {c0 : Cond} : (.classLink RJ7 110 "[Ljava/lang/Object;" : Cond) ∈ c0 :: GW := gw_of (tb3 (List.mem_of_getElem? (i := 196) (by decide +kernel))) rfl
theorem n_677 : (.arrayOver (.object "java/lang/Object") : Cond) ∈ lw_tbl := tb3 (List.mem_of_getElem? (i := 197) (by decide +kernel))
theorem cl_J7_2 {c0 : Cond} : (.classLink RJ7 2 "java/lang/Object" : Cond) ∈ c0 :: GW := gw_of (tb3 (List.mem_of_getElem? (i := 198) (by decide +kernel))) rfl
theorem ml_J7_304 {c0 : Cond} : (.methodLink RJ7 304 yJ9_min_7cf53 : Cond) ∈ c0 :: GW := gw_of (tb3 (List.mem_of_getElem? (i := 199) (by decide +kernel))) rfl
theorem sm_J9_min_7cf53 {c0 : Cond} : (.static yJ9_min_7cf53 : Cond) ∈ c0 :: GW := gw_of (tb3 (List.mem_of_getElem? (i := 200) (by decide +kernel))) rfl
theorem cd_J9_min_7cf53 {c0 : Cond} : (.code yJ9_min_7cf53 prog_16_method_69_code 2 (some .int) : Cond) ∈ c0 :: GW := gw_of (tb3 (List.mem_of_getElem? (i := 201) (by decide +kernel))) rfl
theorem ml_J7_150 {c0 : Cond} : (.methodLink RJ7 150 ⟨"java/lang/System", "arraycopy", "(Ljava/lang/Object;ILjava/lang/Object;II)V"⟩ : Cond) ∈ c0 :: GW := gw_of (tb3 (List.mem_of_getElem? (i := 202) (by decide +kernel))) rfl
theorem ml_Jx4a65c_79 {c0 : Cond} : (.methodLink RJx4a65c 79 yJ9_max_7cf53 : Cond) ∈ c0 :: GW := gw_of (tb3 (List.mem_of_getElem? (i := 203) (by decide +kernel))) rfl
theorem cl_Jx4a65c_7 {c0 : Cond} : (.classLink RJx4a65c 7 "java/lang/Object" : Cond) ∈ c0 :: GW := gw_of (tb3 (List.mem_of_getElem? (i := 204) (by decide +kernel))) rfl
theorem ml_L_153 {c0 : Cond} : (.methodLink RL 153 yL_write : Cond) ∈ c0 :: GW := gw_of (tb3 (List.mem_of_getElem? (i := 205) (by decide +kernel))) rfl
theorem sm_L_write {c0 : Cond} : (.static yL_write : Cond) ∈ c0 :: GW := gw_of (tb3 (List.mem_of_getElem? (i := 206) (by decide +kernel))) rfl
theorem cw_L_write {c0 : Cond} : (.codeWith yL_write method_11_code 6 (some .int) [(0, 12, 15, 45), (0, 12, 19, 21), (0, 12, 23, 15), (0, 12, 27, 13)] : Cond) ∈ c0 :: GW := gw_of (tb3 (List.mem_of_getElem? (i := 207) (by decide +kernel))) rfl
theorem ml_L_47 {c0 : Cond} : (.methodLink RL 47 yX3_write : Cond) ∈ c0 :: GW := gw_of (tb3 (List.mem_of_getElem? (i := 208) (by decide +kernel))) rfl
theorem im_X3_write {c0 : Cond} : (.instanceMethod yX3_write : Cond) ∈ c0 :: GW := gw_of (tb3 (List.mem_of_getElem? (i := 209) (by decide +kernel))) rfl
theorem se_X3_X3_write {c0 : Cond} : (.selects RX3 yX3_write yX3_write : Cond) ∈ c0 :: GW := gw_of (tb3 (List.mem_of_getElem? (i := 210) (by decide +kernel))) rfl
theorem cd_X3_write {c0 : Cond} : (.code yX3_write prog_1_method_10_code 4 (some .int) : Cond) ∈ c0 :: GW := gw_of (tb3 (List.mem_of_getElem? (i := 211) (by decide +kernel))) rfl
theorem ml_L_156 {c0 : Cond} : (.methodLink RL 156 yL_empty : Cond) ∈ c0 :: GW := gw_of (tb3 (List.mem_of_getElem? (i := 212) (by decide +kernel))) rfl
theorem sm_L_empty {c0 : Cond} : (.static yL_empty : Cond) ∈ c0 :: GW := gw_of (tb3 (List.mem_of_getElem? (i := 213) (by decide +kernel))) rfl
theorem cw_L_empty {c0 : Cond} : (.codeWith yL_empty method_12_code 4 (some .int) [(0, 9, 12, 45)] : Cond) ∈ c0 :: GW := gw_of (tb3 (List.mem_of_getElem? (i := 214) (by decide +kernel))) rfl
theorem ml_L_50 {c0 : Cond} : (.methodLink RL 50 yX3_empty : Cond) ∈ c0 :: GW := gw_of (tb3 (List.mem_of_getElem? (i := 215) (by decide +kernel))) rfl
theorem im_X3_empty {c0 : Cond} : (.instanceMethod yX3_empty : Cond) ∈ c0 :: GW := gw_of (tb3 (List.mem_of_getElem? (i := 216) (by decide +kernel))) rfl
theorem se_X3_X3_empty {c0 : Cond} : (.selects RX3 yX3_empty yX3_empty : Cond) ∈ c0 :: GW := gw_of (tb3 (List.mem_of_getElem? (i := 217) (by decide +kernel))) rfl
theorem cd_X3_empty {c0 : Cond} : (.code yX3_empty prog_1_method_11_code 2 (some .int) : Cond) ∈ c0 :: GW := gw_of (tb3 (List.mem_of_getElem? (i := 218) (by decide +kernel))) rfl
theorem ml_X3_123 {c0 : Cond} : (.methodLink RX3 123 yX1_init : Cond) ∈ c0 :: GW := gw_of (tb3 (List.mem_of_getElem? (i := 219) (by decide +kernel))) rfl
theorem im_X1_init {c0 : Cond} : (.instanceMethod yX1_init : Cond) ∈ c0 :: GW := gw_of (tb3 (List.mem_of_getElem? (i := 220) (by decide +kernel))) rfl
theorem cd_X1_init {c0 : Cond} : (.code yX1_init prog_3_method_1_code 3 none : Cond) ∈ c0 :: GW := gw_of (tb3 (List.mem_of_getElem? (i := 221) (by decide +kernel))) rfl
theorem ml_X1_5 {c0 : Cond} : (.methodLink RX1 5 yX1_init_ : Cond) ∈ c0 :: GW := gw_of (tb3 (List.mem_of_getElem? (i := 222) (by decide +kernel))) rfl
theorem ml_L_159 {c0 : Cond} : (.methodLink RL 159 yL_setAhead : Cond) ∈ c0 :: GW := gw_of (tb3 (List.mem_of_getElem? (i := 223) (by decide +kernel))) rfl
theorem sm_L_setAhead {c0 : Cond} : (.static yL_setAhead : Cond) ∈ c0 :: GW := gw_of (tb3 (List.mem_of_getElem? (i := 224) (by decide +kernel))) rfl
theorem cw_L_setAhead {c0 : Cond} : (.codeWith yL_setAhead method_13_code 5 (some .int) [(0, 17, 20, 45)] : Cond) ∈ c0 :: GW := gw_of (tb3 (List.mem_of_getElem? (i := 225) (by decide +kernel))) rfl
theorem ml_L_53 {c0 : Cond} : (.methodLink RL 53 yX3_setAhead : Cond) ∈ c0 :: GW := gw_of (tb3 (List.mem_of_getElem? (i := 226) (by decide +kernel))) rfl
theorem im_X3_setAhead {c0 : Cond} : (.instanceMethod yX3_setAhead : Cond) ∈ c0 :: GW := gw_of (tb3 (List.mem_of_getElem? (i := 227) (by decide +kernel))) rfl
theorem se_X3_X3_setAhead {c0 : Cond} : (.selects RX3 yX3_setAhead yX3_setAhead : Cond) ∈ c0 :: GW := gw_of (tb3 (List.mem_of_getElem? (i := 228) (by decide +kernel))) rfl
theorem cd_X3_setAhead {c0 : Cond} : (.code yX3_setAhead prog_1_method_12_code 5 (some .boolean) : Cond) ∈ c0 :: GW := gw_of (tb3 (List.mem_of_getElem? (i := 229) (by decide +kernel))) rfl
theorem ml_X3_134 {c0 : Cond} : (.methodLink RX3 134 yX0_isAhead : Cond) ∈ c0 :: GW := gw_of (tb3 (List.mem_of_getElem? (i := 230) (by decide +kernel))) rfl
theorem im_X0_isAhead {c0 : Cond} : (.instanceMethod yX0_isAhead : Cond) ∈ c0 :: GW := gw_of (tb3 (List.mem_of_getElem? (i := 231) (by decide +kernel))) rfl
theorem se_X0_X0_isAhead {c0 : Cond} : (.selects RX0 yX0_isAhead yX0_isAhead : Cond) ∈ c0 :: GW := gw_of (tb3 (List.mem_of_getElem? (i := 232) (by decide +kernel))) rfl
theorem cd_X0_isAhead {c0 : Cond} : (.code yX0_isAhead prog_2_method_3_code 2 (some .boolean) : Cond) ∈ c0 :: GW := gw_of (tb3 (List.mem_of_getElem? (i := 233) (by decide +kernel))) rfl
theorem ml_L_167 {c0 : Cond} : (.methodLink RL 167 yL_costOf : Cond) ∈ c0 :: GW := gw_of (tb3 (List.mem_of_getElem? (i := 234) (by decide +kernel))) rfl
theorem sm_L_costOf {c0 : Cond} : (.static yL_costOf : Cond) ∈ c0 :: GW := gw_of (tb3 (List.mem_of_getElem? (i := 235) (by decide +kernel))) rfl
theorem cw_L_costOf {c0 : Cond} : (.codeWith yL_costOf method_14_code 4 (some .int) [(0, 9, 12, 21)] : Cond) ∈ c0 :: GW := gw_of (tb3 (List.mem_of_getElem? (i := 236) (by decide +kernel))) rfl
theorem ml_L_57 {c0 : Cond} : (.methodLink RL 57 yX3_costOf : Cond) ∈ c0 :: GW := gw_of (tb3 (List.mem_of_getElem? (i := 237) (by decide +kernel))) rfl
theorem im_X3_costOf {c0 : Cond} : (.instanceMethod yX3_costOf : Cond) ∈ c0 :: GW := gw_of (tb3 (List.mem_of_getElem? (i := 238) (by decide +kernel))) rfl
theorem se_X3_X3_costOf {c0 : Cond} : (.selects RX3 yX3_costOf yX3_costOf : Cond) ∈ c0 :: GW := gw_of (tb3 (List.mem_of_getElem? (i := 239) (by decide +kernel))) rfl
theorem cd_X3_costOf {c0 : Cond} : (.code yX3_costOf prog_1_method_14_code 2 (some .int) : Cond) ∈ c0 :: GW := gw_of (tb4 (List.mem_of_getElem? (i := 0) (by decide +kernel))) rfl
theorem ml_X3_145 {c0 : Cond} : (.methodLink RX3 145 yX3_checkIndex : Cond) ∈ c0 :: GW := gw_of (tb4 (List.mem_of_getElem? (i := 1) (by decide +kernel))) rfl
theorem im_X3_checkIndex {c0 : Cond} : (.instanceMethod yX3_checkIndex : Cond) ∈ c0 :: GW := gw_of (tb4 (List.mem_of_getElem? (i := 3) (by decide +kernel))) rfl
theorem cd_X3_checkIndex {c0 : Cond} : (.code yX3_checkIndex prog_1_method_37_code 2 none : Cond) ∈ c0 :: GW := gw_of (tb4 (List.mem_of_getElem? (i := 4) (by decide +kernel))) rfl
theorem n_725 : (.stringRef "LineKeeper" 252 "there is no such access" : Cond) ∈ lw_tbl := tb4 (List.mem_of_getElem? (i := 5) (by decide +kernel))
theorem ml_L_170 {c0 : Cond} : (.methodLink RL 170 yL_costByReplay : Cond) ∈ c0 :: GW := gw_of (tb4 (List.mem_of_getElem? (i := 6) (by decide +kernel))) rfl
theorem sm_L_costByReplay {c0 : Cond} : (.static yL_costByReplay : Cond) ∈ c0 :: GW := gw_of (tb4 (List.mem_of_getElem? (i := 7) (by decide +kernel))) rfl
theorem cw_L_costByReplay {c0 : Cond} : (.codeWith yL_costByReplay method_15_code 4 (some .int) [(0, 9, 12, 21)] : Cond) ∈ c0 :: GW := gw_of (tb4 (List.mem_of_getElem? (i := 8) (by decide +kernel))) rfl
theorem ml_L_60 {c0 : Cond} : (.methodLink RL 60 yX3_costByReplay : Cond) ∈ c0 :: GW := gw_of (tb4 (List.mem_of_getElem? (i := 9) (by decide +kernel))) rfl
theorem im_X3_costByReplay {c0 : Cond} : (.instanceMethod yX3_costByReplay : Cond) ∈ c0 :: GW := gw_of (tb4 (List.mem_of_getElem? (i := 10) (by decide +kernel))) rfl
theorem se_X3_X3_costByReplay {c0 : Cond} : (.selects RX3 yX3_costByReplay yX3_costByReplay : Cond) ∈ c0 :: GW := gw_of (tb4 (List.mem_of_getElem? (i := 11) (by decide +kernel))) rfl
theorem cd_X3_costByReplay {c0 : Cond} : (.code yX3_costByReplay prog_1_method_15_code 2 (some .int) : Cond) ∈ c0 :: GW := gw_of (tb4 (List.mem_of_getElem? (i := 12) (by decide +kernel))) rfl
theorem ml_X3_156 {c0 : Cond} : (.methodLink RX3 156 yX3_replayUpTo : Cond) ∈ c0 :: GW := gw_of (tb4 (List.mem_of_getElem? (i := 13) (by decide +kernel))) rfl
theorem im_X3_replayUpTo {c0 : Cond} : (.instanceMethod yX3_replayUpTo : Cond) ∈ c0 :: GW := gw_of (tb4 (List.mem_of_getElem? (i := 15) (by decide +kernel))) rfl
theorem cd_X3_replayUpTo {c0 : Cond} : (.code yX3_replayUpTo prog_1_method_42_code 7 (some .int) : Cond) ∈ c0 :: GW := gw_of (tb4 (List.mem_of_getElem? (i := 16) (by decide +kernel))) rfl
theorem ml_L_173 {c0 : Cond} : (.methodLink RL 173 yL_causeOf : Cond) ∈ c0 :: GW := gw_of (tb4 (List.mem_of_getElem? (i := 17) (by decide +kernel))) rfl
theorem sm_L_causeOf {c0 : Cond} : (.static yL_causeOf : Cond) ∈ c0 :: GW := gw_of (tb4 (List.mem_of_getElem? (i := 18) (by decide +kernel))) rfl
theorem cw_L_causeOf {c0 : Cond} : (.codeWith yL_causeOf method_16_code 4 (some .int) [(0, 9, 12, 21)] : Cond) ∈ c0 :: GW := gw_of (tb4 (List.mem_of_getElem? (i := 19) (by decide +kernel))) rfl
theorem ml_L_63 {c0 : Cond} : (.methodLink RL 63 yX3_causeOf : Cond) ∈ c0 :: GW := gw_of (tb4 (List.mem_of_getElem? (i := 20) (by decide +kernel))) rfl
theorem im_X3_causeOf {c0 : Cond} : (.instanceMethod yX3_causeOf : Cond) ∈ c0 :: GW := gw_of (tb4 (List.mem_of_getElem? (i := 21) (by decide +kernel))) rfl
theorem se_X3_X3_causeOf {c0 : Cond} : (.selects RX3 yX3_causeOf yX3_causeOf : Cond) ∈ c0 :: GW := gw_of (tb4 (List.mem_of_getElem? (i := 22) (by decide +kernel))) rfl
theorem cd_X3_causeOf {c0 : Cond} : (.code yX3_causeOf prog_1_method_16_code 2 (some .char) : Cond) ∈ c0 :: GW := gw_of (tb4 (List.mem_of_getElem? (i := 23) (by decide +kernel))) rfl
theorem ml_L_176 {c0 : Cond} : (.methodLink RL 176 yL_state : Cond) ∈ c0 :: GW := gw_of (tb4 (List.mem_of_getElem? (i := 24) (by decide +kernel))) rfl
theorem sm_L_state {c0 : Cond} : (.static yL_state : Cond) ∈ c0 :: GW := gw_of (tb4 (List.mem_of_getElem? (i := 25) (by decide +kernel))) rfl
theorem cw_L_state {c0 : Cond} : (.codeWith yL_state method_17_code 5 (some .int) [(0, 10, 13, 45), (0, 10, 17, 13)] : Cond) ∈ c0 :: GW := gw_of (tb4 (List.mem_of_getElem? (i := 26) (by decide +kernel))) rfl
theorem ml_L_67 {c0 : Cond} : (.methodLink RL 67 yX3_state : Cond) ∈ c0 :: GW := gw_of (tb4 (List.mem_of_getElem? (i := 27) (by decide +kernel))) rfl
theorem im_X3_state {c0 : Cond} : (.instanceMethod yX3_state : Cond) ∈ c0 :: GW := gw_of (tb4 (List.mem_of_getElem? (i := 28) (by decide +kernel))) rfl
theorem se_X3_X3_state {c0 : Cond} : (.selects RX3 yX3_state yX3_state : Cond) ∈ c0 :: GW := gw_of (tb4 (List.mem_of_getElem? (i := 29) (by decide +kernel))) rfl
theorem cd_X3_state {c0 : Cond} : (.code yX3_state prog_1_method_17_code 3 (some .char) : Cond) ∈ c0 :: GW := gw_of (tb4 (List.mem_of_getElem? (i := 30) (by decide +kernel))) rfl
theorem ml_X3_163 {c0 : Cond} : (.methodLink RX3 163 yX3_checkLine : Cond) ∈ c0 :: GW := gw_of (tb4 (List.mem_of_getElem? (i := 31) (by decide +kernel))) rfl
theorem sm_X3_checkLine {c0 : Cond} : (.static yX3_checkLine : Cond) ∈ c0 :: GW := gw_of (tb4 (List.mem_of_getElem? (i := 32) (by decide +kernel))) rfl
theorem cd_X3_checkLine {c0 : Cond} : (.code yX3_checkLine prog_1_method_33_code 1 none : Cond) ∈ c0 :: GW := gw_of (tb4 (List.mem_of_getElem? (i := 33) (by decide +kernel))) rfl
theorem n_754 : (.stringRef "LineKeeper" 238 "the lines are 0 to 63" : Cond) ∈ lw_tbl := tb4 (List.mem_of_getElem? (i := 34) (by decide +kernel))
theorem ml_X3_166 {c0 : Cond} : (.methodLink RX3 166 yX0_stateOf : Cond) ∈ c0 :: GW := gw_of (tb4 (List.mem_of_getElem? (i := 35) (by decide +kernel))) rfl
theorem im_X0_stateOf {c0 : Cond} : (.instanceMethod yX0_stateOf : Cond) ∈ c0 :: GW := gw_of (tb4 (List.mem_of_getElem? (i := 36) (by decide +kernel))) rfl
theorem se_X0_X0_stateOf {c0 : Cond} : (.selects RX0 yX0_stateOf yX0_stateOf : Cond) ∈ c0 :: GW := gw_of (tb4 (List.mem_of_getElem? (i := 37) (by decide +kernel))) rfl
theorem cd_X0_stateOf {c0 : Cond} : (.code yX0_stateOf prog_2_method_8_code 3 (some .char) : Cond) ∈ c0 :: GW := gw_of (tb4 (List.mem_of_getElem? (i := 38) (by decide +kernel))) rfl
theorem ml_L_179 {c0 : Cond} : (.methodLink RL 179 yL_owner : Cond) ∈ c0 :: GW := gw_of (tb4 (List.mem_of_getElem? (i := 39) (by decide +kernel))) rfl
theorem sm_L_owner {c0 : Cond} : (.static yL_owner : Cond) ∈ c0 :: GW := gw_of (tb4 (List.mem_of_getElem? (i := 40) (by decide +kernel))) rfl
theorem cw_L_owner {c0 : Cond} : (.codeWith yL_owner method_18_code 4 (some .int) [(0, 9, 12, 13), (0, 9, 15, 21)] : Cond) ∈ c0 :: GW := gw_of (tb4 (List.mem_of_getElem? (i := 41) (by decide +kernel))) rfl
theorem ml_L_71 {c0 : Cond} : (.methodLink RL 71 yX3_owner : Cond) ∈ c0 :: GW := gw_of (tb4 (List.mem_of_getElem? (i := 42) (by decide +kernel))) rfl
theorem im_X3_owner {c0 : Cond} : (.instanceMethod yX3_owner : Cond) ∈ c0 :: GW := gw_of (tb4 (List.mem_of_getElem? (i := 43) (by decide +kernel))) rfl
theorem se_X3_X3_owner {c0 : Cond} : (.selects RX3 yX3_owner yX3_owner : Cond) ∈ c0 :: GW := gw_of (tb4 (List.mem_of_getElem? (i := 44) (by decide +kernel))) rfl
theorem cd_X3_owner {c0 : Cond} : (.code yX3_owner prog_1_method_18_code 3 (some .int) : Cond) ∈ c0 :: GW := gw_of (tb4 (List.mem_of_getElem? (i := 45) (by decide +kernel))) rfl
theorem ml_X3_170 {c0 : Cond} : (.methodLink RX3 170 yX0_ownerOf : Cond) ∈ c0 :: GW := gw_of (tb4 (List.mem_of_getElem? (i := 46) (by decide +kernel))) rfl
theorem n_767 : (.stringRef "LineKeeper" 173 "the line has no owner" : Cond) ∈ lw_tbl := tb4 (List.mem_of_getElem? (i := 47) (by decide +kernel))
theorem ml_L_182 {c0 : Cond} : (.methodLink RL 182 yL_holders : Cond) ∈ c0 :: GW := gw_of (tb4 (List.mem_of_getElem? (i := 48) (by decide +kernel))) rfl
theorem sm_L_holders {c0 : Cond} : (.static yL_holders : Cond) ∈ c0 :: GW := gw_of (tb4 (List.mem_of_getElem? (i := 49) (by decide +kernel))) rfl
theorem cw_L_holders {c0 : Cond} : (.codeWith yL_holders method_19_code 4 (some .int) [(0, 9, 12, 13)] : Cond) ∈ c0 :: GW := gw_of (tb4 (List.mem_of_getElem? (i := 50) (by decide +kernel))) rfl
theorem ml_L_74 {c0 : Cond} : (.methodLink RL 74 yX3_holders : Cond) ∈ c0 :: GW := gw_of (tb4 (List.mem_of_getElem? (i := 51) (by decide +kernel))) rfl
theorem im_X3_holders {c0 : Cond} : (.instanceMethod yX3_holders : Cond) ∈ c0 :: GW := gw_of (tb4 (List.mem_of_getElem? (i := 52) (by decide +kernel))) rfl
theorem se_X3_X3_holders {c0 : Cond} : (.selects RX3 yX3_holders yX3_holders : Cond) ∈ c0 :: GW := gw_of (tb4 (List.mem_of_getElem? (i := 53) (by decide +kernel))) rfl
theorem cd_X3_holders {c0 : Cond} : (.code yX3_holders prog_1_method_19_code 2 (some .int) : Cond) ∈ c0 :: GW := gw_of (tb4 (List.mem_of_getElem? (i := 54) (by decide +kernel))) rfl
theorem ml_X3_175 {c0 : Cond} : (.methodLink RX3 175 yX0_countHolders : Cond) ∈ c0 :: GW := gw_of (tb4 (List.mem_of_getElem? (i := 55) (by decide +kernel))) rfl
theorem ml_L_185 {c0 : Cond} : (.methodLink RL 185 yL_lines : Cond) ∈ c0 :: GW := gw_of (tb4 (List.mem_of_getElem? (i := 56) (by decide +kernel))) rfl
theorem sm_L_lines {c0 : Cond} : (.static yL_lines : Cond) ∈ c0 :: GW := gw_of (tb4 (List.mem_of_getElem? (i := 57) (by decide +kernel))) rfl
theorem cw_L_lines {c0 : Cond} : (.codeWith yL_lines method_20_code 4 (some .int) [(0, 9, 12, 45)] : Cond) ∈ c0 :: GW := gw_of (tb4 (List.mem_of_getElem? (i := 58) (by decide +kernel))) rfl
theorem ml_L_77 {c0 : Cond} : (.methodLink RL 77 yX3_lines : Cond) ∈ c0 :: GW := gw_of (tb4 (List.mem_of_getElem? (i := 59) (by decide +kernel))) rfl
theorem im_X3_lines {c0 : Cond} : (.instanceMethod yX3_lines : Cond) ∈ c0 :: GW := gw_of (tb4 (List.mem_of_getElem? (i := 60) (by decide +kernel))) rfl
theorem se_X3_X3_lines {c0 : Cond} : (.selects RX3 yX3_lines yX3_lines : Cond) ∈ c0 :: GW := gw_of (tb4 (List.mem_of_getElem? (i := 61) (by decide +kernel))) rfl
theorem cd_X3_lines {c0 : Cond} : (.code yX3_lines prog_1_method_20_code 4 (some .int) : Cond) ∈ c0 :: GW := gw_of (tb4 (List.mem_of_getElem? (i := 62) (by decide +kernel))) rfl
theorem ml_X3_178 {c0 : Cond} : (.methodLink RX3 178 yX0_countLines : Cond) ∈ c0 :: GW := gw_of (tb4 (List.mem_of_getElem? (i := 63) (by decide +kernel))) rfl
theorem ml_L_188 {c0 : Cond} : (.methodLink RL 188 yL_oldest : Cond) ∈ c0 :: GW := gw_of (tb4 (List.mem_of_getElem? (i := 64) (by decide +kernel))) rfl
theorem sm_L_oldest {c0 : Cond} : (.static yL_oldest : Cond) ∈ c0 :: GW := gw_of (tb4 (List.mem_of_getElem? (i := 65) (by decide +kernel))) rfl
theorem cw_L_oldest {c0 : Cond} : (.codeWith yL_oldest method_21_code 5 (some .int) [(0, 10, 13, 45), (0, 10, 17, 13), (0, 10, 21, 21)] : Cond) ∈ c0 :: GW := gw_of (tb4 (List.mem_of_getElem? (i := 66) (by decide +kernel))) rfl
theorem ml_L_80 {c0 : Cond} : (.methodLink RL 80 yX3_oldest : Cond) ∈ c0 :: GW := gw_of (tb4 (List.mem_of_getElem? (i := 67) (by decide +kernel))) rfl
theorem im_X3_oldest {c0 : Cond} : (.instanceMethod yX3_oldest : Cond) ∈ c0 :: GW := gw_of (tb4 (List.mem_of_getElem? (i := 68) (by decide +kernel))) rfl
theorem se_X3_X3_oldest {c0 : Cond} : (.selects RX3 yX3_oldest yX3_oldest : Cond) ∈ c0 :: GW := gw_of (tb4 (List.mem_of_getElem? (i := 69) (by decide +kernel))) rfl
theorem cd_X3_oldest {c0 : Cond} : (.code yX3_oldest prog_1_method_21_code 4 (some .int) : Cond) ∈ c0 :: GW := gw_of (tb4 (List.mem_of_getElem? (i := 70) (by decide +kernel))) rfl
theorem n_791 : (.stringRef "LineKeeper" 182 "the sets are 0 to 3" : Cond) ∈ lw_tbl := tb4 (List.mem_of_getElem? (i := 71) (by decide +kernel))
theorem ml_X3_184 {c0 : Cond} : (.methodLink RX3 184 yX0_oldestOf : Cond) ∈ c0 :: GW := gw_of (tb4 (List.mem_of_getElem? (i := 72) (by decide +kernel))) rfl
theorem n_793 : (.stringRef "LineKeeper" 187 "the set is empty" : Cond) ∈ lw_tbl := tb4 (List.mem_of_getElem? (i := 73) (by decide +kernel))
theorem ml_L_191 {c0 : Cond} : (.methodLink RL 191 yL_count : Cond) ∈ c0 :: GW := gw_of (tb4 (List.mem_of_getElem? (i := 74) (by decide +kernel))) rfl
theorem sm_L_count {c0 : Cond} : (.static yL_count : Cond) ∈ c0 :: GW := gw_of (tb4 (List.mem_of_getElem? (i := 75) (by decide +kernel))) rfl
theorem cw_L_count {c0 : Cond} : (.codeWith yL_count method_22_code 5 (some .int) [(0, 10, 13, 21), (0, 10, 17, 13)] : Cond) ∈ c0 :: GW := gw_of (tb4 (List.mem_of_getElem? (i := 76) (by decide +kernel))) rfl
theorem ml_L_83 {c0 : Cond} : (.methodLink RL 83 yX3_count : Cond) ∈ c0 :: GW := gw_of (tb4 (List.mem_of_getElem? (i := 77) (by decide +kernel))) rfl
theorem im_X3_count {c0 : Cond} : (.instanceMethod yX3_count : Cond) ∈ c0 :: GW := gw_of (tb4 (List.mem_of_getElem? (i := 78) (by decide +kernel))) rfl
theorem se_X3_X3_count {c0 : Cond} : (.selects RX3 yX3_count yX3_count : Cond) ∈ c0 :: GW := gw_of (tb4 (List.mem_of_getElem? (i := 79) (by decide +kernel))) rfl
theorem cd_X3_count {c0 : Cond} : (.code yX3_count prog_1_method_22_code 6 (some .int) : Cond) ∈ c0 :: GW := gw_of (tb4 (List.mem_of_getElem? (i := 80) (by decide +kernel))) rfl
theorem ml_X3_189 {c0 : Cond} : (.methodLink RX3 189 yX3_isCause : Cond) ∈ c0 :: GW := gw_of (tb4 (List.mem_of_getElem? (i := 81) (by decide +kernel))) rfl
theorem sm_X3_isCause {c0 : Cond} : (.static yX3_isCause : Cond) ∈ c0 :: GW := gw_of (tb4 (List.mem_of_getElem? (i := 82) (by decide +kernel))) rfl
theorem cd_X3_isCause {c0 : Cond} : (.code yX3_isCause prog_1_method_38_code 1 (some .boolean) : Cond) ∈ c0 :: GW := gw_of (tb4 (List.mem_of_getElem? (i := 83) (by decide +kernel))) rfl
theorem n_804 : (.stringRef "LineKeeper" 193 "the causes are h, u, c, e, t and f" : Cond) ∈ lw_tbl := tb4 (List.mem_of_getElem? (i := 84) (by decide +kernel))
theorem ml_L_195 {c0 : Cond} : (.methodLink RL 195 yL_bill : Cond) ∈ c0 :: GW := gw_of (tb4 (List.mem_of_getElem? (i := 85) (by decide +kernel))) rfl
theorem sm_L_bill {c0 : Cond} : (.static yL_bill : Cond) ∈ c0 :: GW := gw_of (tb4 (List.mem_of_getElem? (i := 86) (by decide +kernel))) rfl
theorem cw_L_bill {c0 : Cond} : (.codeWith yL_bill method_23_code 4 (some .int) [(0, 8, 11, 21)] : Cond) ∈ c0 :: GW := gw_of (tb4 (List.mem_of_getElem? (i := 87) (by decide +kernel))) rfl
theorem ml_L_87 {c0 : Cond} : (.methodLink RL 87 yX3_bill : Cond) ∈ c0 :: GW := gw_of (tb4 (List.mem_of_getElem? (i := 88) (by decide +kernel))) rfl
theorem im_X3_bill {c0 : Cond} : (.instanceMethod yX3_bill : Cond) ∈ c0 :: GW := gw_of (tb4 (List.mem_of_getElem? (i := 89) (by decide +kernel))) rfl
theorem se_X3_X3_bill {c0 : Cond} : (.selects RX3 yX3_bill yX3_bill : Cond) ∈ c0 :: GW := gw_of (tb4 (List.mem_of_getElem? (i := 90) (by decide +kernel))) rfl
theorem cd_X3_bill {c0 : Cond} : (.code yX3_bill prog_1_method_23_code 2 (some .long) : Cond) ∈ c0 :: GW := gw_of (tb4 (List.mem_of_getElem? (i := 91) (by decide +kernel))) rfl
theorem ml_X3_198 {c0 : Cond} : (.methodLink RX3 198 yX3_sumOfName : Cond) ∈ c0 :: GW := gw_of (tb4 (List.mem_of_getElem? (i := 92) (by decide +kernel))) rfl
theorem im_X3_sumOfName {c0 : Cond} : (.instanceMethod yX3_sumOfName : Cond) ∈ c0 :: GW := gw_of (tb4 (List.mem_of_getElem? (i := 94) (by decide +kernel))) rfl
theorem cd_X3_sumOfName {c0 : Cond} : (.code yX3_sumOfName prog_1_method_41_code 6 (some .long) : Cond) ∈ c0 :: GW := gw_of (tb4 (List.mem_of_getElem? (i := 95) (by decide +kernel))) rfl
theorem ml_L_198 {c0 : Cond} : (.methodLink RL 198 yL_worst : Cond) ∈ c0 :: GW := gw_of (tb4 (List.mem_of_getElem? (i := 96) (by decide +kernel))) rfl
theorem sm_L_worst {c0 : Cond} : (.static yL_worst : Cond) ∈ c0 :: GW := gw_of (tb4 (List.mem_of_getElem? (i := 97) (by decide +kernel))) rfl
theorem cw_L_worst {c0 : Cond} : (.codeWith yL_worst method_24_code 3 (some .int) [(0, 8, 11, 21)] : Cond) ∈ c0 :: GW := gw_of (tb4 (List.mem_of_getElem? (i := 98) (by decide +kernel))) rfl
theorem ml_L_91 {c0 : Cond} : (.methodLink RL 91 yX3_worst : Cond) ∈ c0 :: GW := gw_of (tb4 (List.mem_of_getElem? (i := 99) (by decide +kernel))) rfl
theorem im_X3_worst {c0 : Cond} : (.instanceMethod yX3_worst : Cond) ∈ c0 :: GW := gw_of (tb4 (List.mem_of_getElem? (i := 100) (by decide +kernel))) rfl
theorem se_X3_X3_worst {c0 : Cond} : (.selects RX3 yX3_worst yX3_worst : Cond) ∈ c0 :: GW := gw_of (tb4 (List.mem_of_getElem? (i := 101) (by decide +kernel))) rfl
theorem cd_X3_worst {c0 : Cond} : (.code yX3_worst prog_1_method_24_code 7 (some .int) : Cond) ∈ c0 :: GW := gw_of (tb4 (List.mem_of_getElem? (i := 102) (by decide +kernel))) rfl
theorem ml_X3_202 {c0 : Cond} : (.methodLink RX3 202 yX2_countNames : Cond) ∈ c0 :: GW := gw_of (tb4 (List.mem_of_getElem? (i := 103) (by decide +kernel))) rfl
theorem im_X2_countNames {c0 : Cond} : (.instanceMethod yX2_countNames : Cond) ∈ c0 :: GW := gw_of (tb4 (List.mem_of_getElem? (i := 104) (by decide +kernel))) rfl
theorem se_X2_X2_countNames {c0 : Cond} : (.selects RX2 yX2_countNames yX2_countNames : Cond) ∈ c0 :: GW := gw_of (tb4 (List.mem_of_getElem? (i := 105) (by decide +kernel))) rfl
theorem cd_X2_countNames {c0 : Cond} : (.code yX2_countNames prog_4_method_3_code 1 (some .int) : Cond) ∈ c0 :: GW := gw_of (tb4 (List.mem_of_getElem? (i := 106) (by decide +kernel))) rfl
theorem n_827 : (.stringRef "LineKeeper" 205 "there are no names" : Cond) ∈ lw_tbl := tb4 (List.mem_of_getElem? (i := 107) (by decide +kernel))
theorem ml_L_202 {c0 : Cond} : (.methodLink RL 202 yL_cycles : Cond) ∈ c0 :: GW := gw_of (tb4 (List.mem_of_getElem? (i := 108) (by decide +kernel))) rfl
theorem sm_L_cycles {c0 : Cond} : (.static yL_cycles : Cond) ∈ c0 :: GW := gw_of (tb4 (List.mem_of_getElem? (i := 109) (by decide +kernel))) rfl
theorem cw_L_cycles {c0 : Cond} : (.codeWith yL_cycles method_25_code 4 (some .int) [(0, 8, 11, 45)] : Cond) ∈ c0 :: GW := gw_of (tb4 (List.mem_of_getElem? (i := 110) (by decide +kernel))) rfl
theorem ml_L_95 {c0 : Cond} : (.methodLink RL 95 yX3_cycles : Cond) ∈ c0 :: GW := gw_of (tb4 (List.mem_of_getElem? (i := 111) (by decide +kernel))) rfl
theorem im_X3_cycles {c0 : Cond} : (.instanceMethod yX3_cycles : Cond) ∈ c0 :: GW := gw_of (tb4 (List.mem_of_getElem? (i := 112) (by decide +kernel))) rfl
theorem se_X3_X3_cycles {c0 : Cond} : (.selects RX3 yX3_cycles yX3_cycles : Cond) ∈ c0 :: GW := gw_of (tb4 (List.mem_of_getElem? (i := 113) (by decide +kernel))) rfl
theorem cd_X3_cycles {c0 : Cond} : (.code yX3_cycles prog_1_method_25_code 6 (some .long) : Cond) ∈ c0 :: GW := gw_of (tb4 (List.mem_of_getElem? (i := 114) (by decide +kernel))) rfl
theorem ml_L_205 {c0 : Cond} : (.methodLink RL 205 yL_fetched : Cond) ∈ c0 :: GW := gw_of (tb4 (List.mem_of_getElem? (i := 115) (by decide +kernel))) rfl
theorem sm_L_fetched {c0 : Cond} : (.static yL_fetched : Cond) ∈ c0 :: GW := gw_of (tb4 (List.mem_of_getElem? (i := 116) (by decide +kernel))) rfl
theorem cw_L_fetched {c0 : Cond} : (.codeWith yL_fetched method_26_code 4 (some .int) [(0, 9, 12, 45)] : Cond) ∈ c0 :: GW := gw_of (tb4 (List.mem_of_getElem? (i := 117) (by decide +kernel))) rfl
theorem ml_L_98 {c0 : Cond} : (.methodLink RL 98 yX3_fetched : Cond) ∈ c0 :: GW := gw_of (tb4 (List.mem_of_getElem? (i := 118) (by decide +kernel))) rfl
theorem im_X3_fetched {c0 : Cond} : (.instanceMethod yX3_fetched : Cond) ∈ c0 :: GW := gw_of (tb4 (List.mem_of_getElem? (i := 119) (by decide +kernel))) rfl
theorem se_X3_X3_fetched {c0 : Cond} : (.selects RX3 yX3_fetched yX3_fetched : Cond) ∈ c0 :: GW := gw_of (tb4 (List.mem_of_getElem? (i := 120) (by decide +kernel))) rfl
theorem cd_X3_fetched {c0 : Cond} : (.code yX3_fetched prog_1_method_26_code 2 (some .int) : Cond) ∈ c0 :: GW := gw_of (tb4 (List.mem_of_getElem? (i := 121) (by decide +kernel))) rfl
theorem ml_X3_210 {c0 : Cond} : (.methodLink RX3 210 yX0_countFetched : Cond) ∈ c0 :: GW := gw_of (tb4 (List.mem_of_getElem? (i := 122) (by decide +kernel))) rfl
theorem im_X0_countFetched {c0 : Cond} : (.instanceMethod yX0_countFetched : Cond) ∈ c0 :: GW := gw_of (tb4 (List.mem_of_getElem? (i := 123) (by decide +kernel))) rfl
theorem se_X0_X0_countFetched {c0 : Cond} : (.selects RX0 yX0_countFetched yX0_countFetched : Cond) ∈ c0 :: GW := gw_of (tb4 (List.mem_of_getElem? (i := 124) (by decide +kernel))) rfl
theorem cd_X0_countFetched {c0 : Cond} : (.code yX0_countFetched prog_2_method_5_code 2 (some .int) : Cond) ∈ c0 :: GW := gw_of (tb4 (List.mem_of_getElem? (i := 125) (by decide +kernel))) rfl
theorem ml_L_208 {c0 : Cond} : (.methodLink RL 208 yL_useful : Cond) ∈ c0 :: GW := gw_of (tb4 (List.mem_of_getElem? (i := 126) (by decide +kernel))) rfl
theorem sm_L_useful {c0 : Cond} : (.static yL_useful : Cond) ∈ c0 :: GW := gw_of (tb4 (List.mem_of_getElem? (i := 127) (by decide +kernel))) rfl
theorem cw_L_useful {c0 : Cond} : (.codeWith yL_useful method_27_code 4 (some .int) [(0, 9, 12, 45)] : Cond) ∈ c0 :: GW := gw_of (tb4 (List.mem_of_getElem? (i := 128) (by decide +kernel))) rfl
theorem ml_L_101 {c0 : Cond} : (.methodLink RL 101 yX3_useful : Cond) ∈ c0 :: GW := gw_of (tb4 (List.mem_of_getElem? (i := 129) (by decide +kernel))) rfl
theorem im_X3_useful {c0 : Cond} : (.instanceMethod yX3_useful : Cond) ∈ c0 :: GW := gw_of (tb4 (List.mem_of_getElem? (i := 130) (by decide +kernel))) rfl
theorem se_X3_X3_useful {c0 : Cond} : (.selects RX3 yX3_useful yX3_useful : Cond) ∈ c0 :: GW := gw_of (tb4 (List.mem_of_getElem? (i := 131) (by decide +kernel))) rfl
theorem cd_X3_useful {c0 : Cond} : (.code yX3_useful prog_1_method_27_code 2 (some .int) : Cond) ∈ c0 :: GW := gw_of (tb4 (List.mem_of_getElem? (i := 132) (by decide +kernel))) rfl
theorem ml_X3_213 {c0 : Cond} : (.methodLink RX3 213 yX0_countUseful : Cond) ∈ c0 :: GW := gw_of (tb4 (List.mem_of_getElem? (i := 133) (by decide +kernel))) rfl
theorem im_X0_countUseful {c0 : Cond} : (.instanceMethod yX0_countUseful : Cond) ∈ c0 :: GW := gw_of (tb4 (List.mem_of_getElem? (i := 134) (by decide +kernel))) rfl
theorem se_X0_X0_countUseful {c0 : Cond} : (.selects RX0 yX0_countUseful yX0_countUseful : Cond) ∈ c0 :: GW := gw_of (tb4 (List.mem_of_getElem? (i := 135) (by decide +kernel))) rfl
theorem cd_X0_countUseful {c0 : Cond} : (.code yX0_countUseful prog_2_method_6_code 2 (some .int) : Cond) ∈ c0 :: GW := gw_of (tb4 (List.mem_of_getElem? (i := 136) (by decide +kernel))) rfl
theorem ml_L_211 {c0 : Cond} : (.methodLink RL 211 yL_wrong : Cond) ∈ c0 :: GW := gw_of (tb4 (List.mem_of_getElem? (i := 137) (by decide +kernel))) rfl
theorem sm_L_wrong {c0 : Cond} : (.static yL_wrong : Cond) ∈ c0 :: GW := gw_of (tb4 (List.mem_of_getElem? (i := 138) (by decide +kernel))) rfl
theorem cw_L_wrong {c0 : Cond} : (.codeWith yL_wrong method_28_code 4 (some .int) [(0, 9, 12, 45)] : Cond) ∈ c0 :: GW := gw_of (tb4 (List.mem_of_getElem? (i := 139) (by decide +kernel))) rfl
theorem ml_L_104 {c0 : Cond} : (.methodLink RL 104 yX3_wrong : Cond) ∈ c0 :: GW := gw_of (tb4 (List.mem_of_getElem? (i := 140) (by decide +kernel))) rfl
theorem im_X3_wrong {c0 : Cond} : (.instanceMethod yX3_wrong : Cond) ∈ c0 :: GW := gw_of (tb4 (List.mem_of_getElem? (i := 141) (by decide +kernel))) rfl
theorem se_X3_X3_wrong {c0 : Cond} : (.selects RX3 yX3_wrong yX3_wrong : Cond) ∈ c0 :: GW := gw_of (tb4 (List.mem_of_getElem? (i := 142) (by decide +kernel))) rfl
theorem cd_X3_wrong {c0 : Cond} : (.code yX3_wrong prog_1_method_28_code 2 (some .int) : Cond) ∈ c0 :: GW := gw_of (tb4 (List.mem_of_getElem? (i := 143) (by decide +kernel))) rfl
theorem ml_X3_216 {c0 : Cond} : (.methodLink RX3 216 yX0_countWrong : Cond) ∈ c0 :: GW := gw_of (tb4 (List.mem_of_getElem? (i := 144) (by decide +kernel))) rfl
theorem im_X0_countWrong {c0 : Cond} : (.instanceMethod yX0_countWrong : Cond) ∈ c0 :: GW := gw_of (tb4 (List.mem_of_getElem? (i := 145) (by decide +kernel))) rfl
theorem se_X0_X0_countWrong {c0 : Cond} : (.selects RX0 yX0_countWrong yX0_countWrong : Cond) ∈ c0 :: GW := gw_of (tb4 (List.mem_of_getElem? (i := 146) (by decide +kernel))) rfl
theorem cd_X0_countWrong {c0 : Cond} : (.code yX0_countWrong prog_2_method_7_code 2 (some .int) : Cond) ∈ c0 :: GW := gw_of (tb4 (List.mem_of_getElem? (i := 147) (by decide +kernel))) rfl
theorem ml_L_214 {c0 : Cond} : (.methodLink RL 214 yL_missShare : Cond) ∈ c0 :: GW := gw_of (tb4 (List.mem_of_getElem? (i := 148) (by decide +kernel))) rfl
theorem sm_L_missShare {c0 : Cond} : (.static yL_missShare : Cond) ∈ c0 :: GW := gw_of (tb4 (List.mem_of_getElem? (i := 149) (by decide +kernel))) rfl
theorem cw_L_missShare {c0 : Cond} : (.codeWith yL_missShare method_29_code 3 (some .int) [(0, 8, 11, 111)] : Cond) ∈ c0 :: GW := gw_of (tb4 (List.mem_of_getElem? (i := 150) (by decide +kernel))) rfl
theorem cl_L_111 {c0 : Cond} : (.classLink RL 111 "java/lang/ArithmeticException" : Cond) ∈ c0 :: GW := gw_of (tb4 (List.mem_of_getElem? (i := 151) (by decide +kernel))) rfl
theorem inst_ArithmeticException {c0 : Cond} : (.instantiable "java/lang/ArithmeticException" 6 : Cond) ∈ c0 :: GW := gw_of (tb4 (List.mem_of_getElem? (i := 152) (by decide +kernel))) rfl
theorem im_ArithmeticException_init_3230 {c0 : Cond} : (.instanceMethod ⟨"java/lang/ArithmeticException", "<init>", "(Ljava/lang/String;)V"⟩ : Cond) ∈ c0 :: GW := gw_of (tb4 (List.mem_of_getElem? (i := 153) (by decide +kernel))) rfl
theorem cd_ArithmeticException_init_3230 {c0 : Cond} : (.code ⟨"java/lang/ArithmeticException", "<init>", "(Ljava/lang/String;)V"⟩ prog_8_method_2_code 2 none : Cond) ∈ c0 :: GW := gw_of (tb4 (List.mem_of_getElem? (i := 154) (by decide +kernel))) rfl
theorem ml_ArithmeticException_7 {c0 : Cond} : (.methodLink "java/lang/ArithmeticException" 7 ⟨"java/lang/RuntimeException", "<init>", "(Ljava/lang/String;)V"⟩ : Cond) ∈ c0 :: GW := gw_of (tb4 (List.mem_of_getElem? (i := 155) (by decide +kernel))) rfl
theorem w_876 {c0 : Cond} : (.lays "java/lang/ArithmeticException" "java/lang/Throwable" "backtrace" "Ljava/lang/Object;" : Cond) ∈ c0 :: GW := gw_of (tb4 (List.mem_of_getElem? (i := 156) (by decide +kernel))) rfl
theorem w_877 {c0 : Cond} : (.lays "java/lang/ArithmeticException" "java/lang/Throwable" "detailMessage" "Ljava/lang/String;" : Cond) ∈ c0 :: GW := gw_of (tb4 (List.mem_of_getElem? (i := 157) (by decide +kernel))) rfl
theorem w_878 {c0 : Cond} : (.lays "java/lang/ArithmeticException" "java/lang/Throwable" "cause" "Ljava/lang/Throwable;" : Cond) ∈ c0 :: GW := gw_of (tb4 (List.mem_of_getElem? (i := 158) (by decide +kernel))) rfl
theorem w_879 {c0 : Cond} : (.lays "java/lang/ArithmeticException" "java/lang/Throwable" "stackTrace" "[Ljava/lang/StackTraceElement;" : Cond) ∈ c0 :: GW := gw_of (tb4 (List.mem_of_getElem? (i := 159) (by decide +kernel))) rfl
theorem w_880 {c0 : Cond} : (.lays "java/lang/ArithmeticException" "java/lang/Throwable" "depth" "I" : Cond) ∈ c0 :: GW := gw_of (tb4 (List.mem_of_getElem? (i := 160) (by decide +kernel))) rfl
theorem w_881 {c0 : Cond} : (.lays "java/lang/ArithmeticException" "java/lang/Throwable" "suppressedExceptions" "Ljava/util/List;" : Cond) ∈ c0 :: GW := gw_of (tb4 (List.mem_of_getElem? (i := 161) (by decide +kernel))) rfl
theorem w_882 {c0 : Cond} : (.superclass "java/lang/ArithmeticException" "java/lang/RuntimeException" : Cond) ∈ c0 :: GW := gw_of (tb4 (List.mem_of_getElem? (i := 162) (by decide +kernel))) rfl
theorem n_883 : (.castable "java/lang/ArithmeticException" "java/lang/ArithmeticException" : Cond) ∈ lw_tbl := tb4 (List.mem_of_getElem? (i := 163) (by decide +kernel))
theorem se_ArithmeticException_Throwable_fillInStackTrace_1602 {c0 : Cond} : (.selects "java/lang/ArithmeticException" ⟨"java/lang/Throwable", "fillInStackTrace", "(I)Ljava/lang/Throwable;"⟩ ⟨"java/lang/Throwable", "fillInStackTrace", "(I)Ljava/lang/Throwable;"⟩ : Cond) ∈ c0 :: GW := gw_of (tb4 (List.mem_of_getElem? (i := 164) (by decide +kernel))) rfl
theorem ml_L_107 {c0 : Cond} : (.methodLink RL 107 yX3_missShare : Cond) ∈ c0 :: GW := gw_of (tb4 (List.mem_of_getElem? (i := 165) (by decide +kernel))) rfl
theorem im_X3_missShare {c0 : Cond} : (.instanceMethod yX3_missShare : Cond) ∈ c0 :: GW := gw_of (tb4 (List.mem_of_getElem? (i := 166) (by decide +kernel))) rfl
theorem se_X3_X3_missShare {c0 : Cond} : (.selects RX3 yX3_missShare yX3_missShare : Cond) ∈ c0 :: GW := gw_of (tb4 (List.mem_of_getElem? (i := 167) (by decide +kernel))) rfl
theorem cd_X3_missShare {c0 : Cond} : (.code yX3_missShare prog_1_method_29_code 4 (some .float) : Cond) ∈ c0 :: GW := gw_of (tb4 (List.mem_of_getElem? (i := 168) (by decide +kernel))) rfl
theorem n_889 : (.interfaceEntry "LineKeeper" 219 : Cond) ∈ lw_tbl := tb4 (List.mem_of_getElem? (i := 169) (by decide +kernel))
theorem ml_X3_219 {c0 : Cond} : (.methodLink RX3 219 ⟨"java/util/List", "isEmpty", "()Z"⟩ : Cond) ∈ c0 :: GW := gw_of (tb4 (List.mem_of_getElem? (i := 170) (by decide +kernel))) rfl
theorem n_891 : (.interfaceMethod "java/util/List" "java/util/List" "isEmpty" "()Z" : Cond) ∈ lw_tbl := tb4 (List.mem_of_getElem? (i := 171) (by decide +kernel))
theorem n_892 : (.declares ⟨"java/util/List", "isEmpty", "()Z"⟩ : Cond) ∈ lw_tbl := tb4 (List.mem_of_getElem? (i := 172) (by decide +kernel))
theorem se_Jx4a65c_Jxbd725_isEmpty_0767_Jx4a65c_isEmpty_aae02 {c0 : Cond} : (.selects RJx4a65c ⟨"java/util/List", "isEmpty", "()Z"⟩ yJx4a65c_isEmpty_aae02 : Cond) ∈ c0 :: GW := gw_of (tb4 (List.mem_of_getElem? (i := 173) (by decide +kernel))) rfl
theorem n_894 : (.unhidden "java/util/ArrayList" "isEmpty" "()Z" : Cond) ∈ lw_tbl := tb4 (List.mem_of_getElem? (i := 174) (by decide +kernel))
theorem im_Jx4a65c_isEmpty_aae02 {c0 : Cond} : (.instanceMethod yJx4a65c_isEmpty_aae02 : Cond) ∈ c0 :: GW := gw_of (tb4 (List.mem_of_getElem? (i := 175) (by decide +kernel))) rfl
theorem n_896 : (.publicMethod ⟨"java/util/ArrayList", "isEmpty", "()Z"⟩ : Cond) ∈ lw_tbl := tb4 (List.mem_of_getElem? (i := 176) (by decide +kernel))
theorem cd_Jx4a65c_isEmpty_aae02 {c0 : Cond} : (.code yJx4a65c_isEmpty_aae02 prog_24_method_9_code 1 (some .boolean) : Cond) ∈ c0 :: GW := gw_of (tb4 (List.mem_of_getElem? (i := 177) (by decide +kernel))) rfl
theorem cl_X3_222 {c0 : Cond} : (.classLink RX3 222 "java/lang/ArithmeticException" : Cond) ∈ c0 :: GW := gw_of (tb4 (List.mem_of_getElem? (i := 178) (by decide +kernel))) rfl
theorem n_899 : (.stringRef "LineKeeper" 224 "there were no accesses" : Cond) ∈ lw_tbl := tb4 (List.mem_of_getElem? (i := 179) (by decide +kernel))
theorem ml_X3_226 {c0 : Cond} : (.methodLink RX3 226 ⟨"java/lang/ArithmeticException", "<init>", "(Ljava/lang/String;)V"⟩ : Cond) ∈ c0 :: GW := gw_of (tb4 (List.mem_of_getElem? (i := 180) (by decide +kernel))) rfl
theorem ml_L_218 {c0 : Cond} : (.methodLink RL 218 yL_meanCost : Cond) ∈ c0 :: GW := gw_of (tb4 (List.mem_of_getElem? (i := 181) (by decide +kernel))) rfl
theorem sm_L_meanCost {c0 : Cond} : (.static yL_meanCost : Cond) ∈ c0 :: GW := gw_of (tb4 (List.mem_of_getElem? (i := 182) (by decide +kernel))) rfl
theorem cw_L_meanCost {c0 : Cond} : (.codeWith yL_meanCost method_30_code 3 (some .int) [(0, 7, 10, 111)] : Cond) ∈ c0 :: GW := gw_of (tb4 (List.mem_of_getElem? (i := 183) (by decide +kernel))) rfl
theorem ml_L_113 {c0 : Cond} : (.methodLink RL 113 yX3_meanCost : Cond) ∈ c0 :: GW := gw_of (tb4 (List.mem_of_getElem? (i := 184) (by decide +kernel))) rfl
theorem im_X3_meanCost {c0 : Cond} : (.instanceMethod yX3_meanCost : Cond) ∈ c0 :: GW := gw_of (tb4 (List.mem_of_getElem? (i := 185) (by decide +kernel))) rfl
theorem se_X3_X3_meanCost {c0 : Cond} : (.selects RX3 yX3_meanCost yX3_meanCost : Cond) ∈ c0 :: GW := gw_of (tb4 (List.mem_of_getElem? (i := 186) (by decide +kernel))) rfl
theorem cd_X3_meanCost {c0 : Cond} : (.code yX3_meanCost prog_1_method_30_code 4 (some .double) : Cond) ∈ c0 :: GW := gw_of (tb4 (List.mem_of_getElem? (i := 187) (by decide +kernel))) rfl
theorem cl_L_118 {c0 : Cond} : (.classLink RL 118 RX4 : Cond) ∈ c0 :: GW := gw_of (tb4 (List.mem_of_getElem? (i := 188) (by decide +kernel))) rfl
theorem inst_X4 {c0 : Cond} : (.instantiable RX4 21 : Cond) ∈ c0 :: GW := gw_of (tb4 (List.mem_of_getElem? (i := 189) (by decide +kernel))) rfl
theorem ml_L_120 {c0 : Cond} : (.methodLink RL 120 yX4_init : Cond) ∈ c0 :: GW := gw_of (tb4 (List.mem_of_getElem? (i := 190) (by decide +kernel))) rfl
theorem im_X4_init {c0 : Cond} : (.instanceMethod yX4_init : Cond) ∈ c0 :: GW := gw_of (tb4 (List.mem_of_getElem? (i := 191) (by decide +kernel))) rfl
theorem cd_X4_init {c0 : Cond} : (.code yX4_init prog_6_method_1_code 2 none : Cond) ∈ c0 :: GW := gw_of (tb4 (List.mem_of_getElem? (i := 192) (by decide +kernel))) rfl
theorem ml_X4_1 {c0 : Cond} : (.methodLink RX4 1 objectInit : Cond) ∈ c0 :: GW := gw_of (tb4 (List.mem_of_getElem? (i := 193) (by decide +kernel))) rfl
theorem fl_X4_7 {c0 : Cond} : (.fieldLink RX4 7 "LineKeeperModel" "words" "[I" : Cond) ∈ c0 :: GW := gw_of (tb4 (List.mem_of_getElem? (i := 194) (by decide +kernel))) rfl
theorem fl_X4_13 {c0 : Cond} : (.fieldLink RX4 13 "LineKeeperModel" "places" "[I" : Cond) ∈ c0 :: GW := gw_of (tb4 (List.mem_of_getElem? (i := 195) (by decide +kernel))) rfl
theorem fl_X4_16 {c0 : Cond} : (.fieldLink RX4 16 "LineKeeperModel" "states" "[C" : Cond) ∈ c0 :: GW := gw_of (tb4 (List.mem_of_getElem? (i := 196) (by decide +kernel))) rfl
theorem fl_X4_20 {c0 : Cond} : (.fieldLink RX4 20 "LineKeeperModel" "usedAt" "[I" : Cond) ∈ c0 :: GW := gw_of (tb4 (List.mem_of_getElem? (i := 197) (by decide +kernel))) rfl
theorem fl_X4_23 {c0 : Cond} : (.fieldLink RX4 23 "LineKeeperModel" "leftBy" "[I" : Cond) ∈ c0 :: GW := gw_of (tb4 (List.mem_of_getElem? (i := 198) (by decide +kernel))) rfl
theorem fl_X4_26 {c0 : Cond} : (.fieldLink RX4 26 "LineKeeperModel" "isNew" "[Z" : Cond) ∈ c0 :: GW := gw_of (tb4 (List.mem_of_getElem? (i := 199) (by decide +kernel))) rfl
theorem fl_X4_30 {c0 : Cond} : (.fieldLink RX4 30 "LineKeeperModel" "areAhead" "[Z" : Cond) ∈ c0 :: GW := gw_of (tb4 (List.mem_of_getElem? (i := 200) (by decide +kernel))) rfl
theorem fl_X4_33 {c0 : Cond} : (.fieldLink RX4 33 "LineKeeperModel" "misses" "[I" : Cond) ∈ c0 :: GW := gw_of (tb4 (List.mem_of_getElem? (i := 201) (by decide +kernel))) rfl
theorem fl_X4_36 {c0 : Cond} : (.fieldLink RX4 36 "LineKeeperModel" "lastMiss" "[I" : Cond) ∈ c0 :: GW := gw_of (tb4 (List.mem_of_getElem? (i := 202) (by decide +kernel))) rfl
theorem fl_X4_39 {c0 : Cond} : (.fieldLink RX4 39 "LineKeeperModel" "lastStep" "[I" : Cond) ∈ c0 :: GW := gw_of (tb4 (List.mem_of_getElem? (i := 203) (by decide +kernel))) rfl
theorem fl_X4_42 {c0 : Cond} : (.fieldLink RX4 42 "LineKeeperModel" "fetchedBy" "[I" : Cond) ∈ c0 :: GW := gw_of (tb4 (List.mem_of_getElem? (i := 204) (by decide +kernel))) rfl
theorem fl_X4_45 {c0 : Cond} : (.fieldLink RX4 45 "LineKeeperModel" "usefulFor" "[I" : Cond) ∈ c0 :: GW := gw_of (tb4 (List.mem_of_getElem? (i := 205) (by decide +kernel))) rfl
theorem fl_X4_48 {c0 : Cond} : (.fieldLink RX4 48 "LineKeeperModel" "wrongFor" "[I" : Cond) ∈ c0 :: GW := gw_of (tb4 (List.mem_of_getElem? (i := 206) (by decide +kernel))) rfl
theorem fl_X4_51 {c0 : Cond} : (.fieldLink RX4 51 "LineKeeperModel" "costs" "[I" : Cond) ∈ c0 :: GW := gw_of (tb4 (List.mem_of_getElem? (i := 207) (by decide +kernel))) rfl
theorem fl_X4_54 {c0 : Cond} : (.fieldLink RX4 54 "LineKeeperModel" "namesOf" "[I" : Cond) ∈ c0 :: GW := gw_of (tb4 (List.mem_of_getElem? (i := 208) (by decide +kernel))) rfl
theorem fl_X4_57 {c0 : Cond} : (.fieldLink RX4 57 "LineKeeperModel" "coresOf" "[I" : Cond) ∈ c0 :: GW := gw_of (tb4 (List.mem_of_getElem? (i := 209) (by decide +kernel))) rfl
theorem fl_X4_60 {c0 : Cond} : (.fieldLink RX4 60 "LineKeeperModel" "causes" "[C" : Cond) ∈ c0 :: GW := gw_of (tb4 (List.mem_of_getElem? (i := 210) (by decide +kernel))) rfl
theorem fl_X4_63 {c0 : Cond} : (.fieldLink RX4 63 "LineKeeperModel" "thrown" "I" : Cond) ∈ c0 :: GW := gw_of (tb4 (List.mem_of_getElem? (i := 211) (by decide +kernel))) rfl
theorem fl_X4_67 {c0 : Cond} : (.fieldLink RX4 67 "LineKeeperModel" "names" "I" : Cond) ∈ c0 :: GW := gw_of (tb4 (List.mem_of_getElem? (i := 212) (by decide +kernel))) rfl
theorem fl_X4_70 {c0 : Cond} : (.fieldLink RX4 70 "LineKeeperModel" "accesses" "I" : Cond) ∈ c0 :: GW := gw_of (tb4 (List.mem_of_getElem? (i := 213) (by decide +kernel))) rfl
theorem fl_X4_73 {c0 : Cond} : (.fieldLink RX4 73 "LineKeeperModel" "clock" "I" : Cond) ∈ c0 :: GW := gw_of (tb4 (List.mem_of_getElem? (i := 214) (by decide +kernel))) rfl
theorem w_935 {c0 : Cond} : (.laysFinal "LineKeeperModel" "LineKeeperModel" "words" "[I" : Cond) ∈ c0 :: GW := gw_of (tb4 (List.mem_of_getElem? (i := 215) (by decide +kernel))) rfl
theorem w_937 {c0 : Cond} : (.laysFinal "LineKeeperModel" "LineKeeperModel" "places" "[I" : Cond) ∈ c0 :: GW := gw_of (tb4 (List.mem_of_getElem? (i := 217) (by decide +kernel))) rfl
theorem w_939 {c0 : Cond} : (.laysFinal "LineKeeperModel" "LineKeeperModel" "states" "[C" : Cond) ∈ c0 :: GW := gw_of (tb4 (List.mem_of_getElem? (i := 219) (by decide +kernel))) rfl
theorem w_941 {c0 : Cond} : (.laysFinal "LineKeeperModel" "LineKeeperModel" "usedAt" "[I" : Cond) ∈ c0 :: GW := gw_of (tb4 (List.mem_of_getElem? (i := 221) (by decide +kernel))) rfl
theorem w_943 {c0 : Cond} : (.laysFinal "LineKeeperModel" "LineKeeperModel" "leftBy" "[I" : Cond) ∈ c0 :: GW := gw_of (tb4 (List.mem_of_getElem? (i := 223) (by decide +kernel))) rfl
theorem w_945 {c0 : Cond} : (.laysFinal "LineKeeperModel" "LineKeeperModel" "isNew" "[Z" : Cond) ∈ c0 :: GW := gw_of (tb4 (List.mem_of_getElem? (i := 225) (by decide +kernel))) rfl
theorem w_947 {c0 : Cond} : (.laysFinal "LineKeeperModel" "LineKeeperModel" "areAhead" "[Z" : Cond) ∈ c0 :: GW := gw_of (tb4 (List.mem_of_getElem? (i := 227) (by decide +kernel))) rfl
theorem w_949 {c0 : Cond} : (.laysFinal "LineKeeperModel" "LineKeeperModel" "misses" "[I" : Cond) ∈ c0 :: GW := gw_of (tb4 (List.mem_of_getElem? (i := 229) (by decide +kernel))) rfl
theorem w_951 {c0 : Cond} : (.laysFinal "LineKeeperModel" "LineKeeperModel" "lastMiss" "[I" : Cond) ∈ c0 :: GW := gw_of (tb4 (List.mem_of_getElem? (i := 231) (by decide +kernel))) rfl
theorem w_953 {c0 : Cond} : (.laysFinal "LineKeeperModel" "LineKeeperModel" "lastStep" "[I" : Cond) ∈ c0 :: GW := gw_of (tb4 (List.mem_of_getElem? (i := 233) (by decide +kernel))) rfl
theorem w_955 {c0 : Cond} : (.laysFinal "LineKeeperModel" "LineKeeperModel" "fetchedBy" "[I" : Cond) ∈ c0 :: GW := gw_of (tb4 (List.mem_of_getElem? (i := 235) (by decide +kernel))) rfl
theorem w_957 {c0 : Cond} : (.laysFinal "LineKeeperModel" "LineKeeperModel" "usefulFor" "[I" : Cond) ∈ c0 :: GW := gw_of (tb4 (List.mem_of_getElem? (i := 237) (by decide +kernel))) rfl
theorem w_959 {c0 : Cond} : (.laysFinal "LineKeeperModel" "LineKeeperModel" "wrongFor" "[I" : Cond) ∈ c0 :: GW := gw_of (tb4 (List.mem_of_getElem? (i := 239) (by decide +kernel))) rfl
theorem w_961 {c0 : Cond} : (.lays "LineKeeperModel" "LineKeeperModel" "costs" "[I" : Cond) ∈ c0 :: GW := gw_of (tb5 (List.mem_of_getElem? (i := 1) (by decide +kernel))) rfl
theorem w_963 {c0 : Cond} : (.lays "LineKeeperModel" "LineKeeperModel" "namesOf" "[I" : Cond) ∈ c0 :: GW := gw_of (tb5 (List.mem_of_getElem? (i := 3) (by decide +kernel))) rfl
theorem w_965 {c0 : Cond} : (.lays "LineKeeperModel" "LineKeeperModel" "coresOf" "[I" : Cond) ∈ c0 :: GW := gw_of (tb5 (List.mem_of_getElem? (i := 5) (by decide +kernel))) rfl
theorem w_967 {c0 : Cond} : (.lays "LineKeeperModel" "LineKeeperModel" "causes" "[C" : Cond) ∈ c0 :: GW := gw_of (tb5 (List.mem_of_getElem? (i := 7) (by decide +kernel))) rfl
theorem w_969 {c0 : Cond} : (.lays "LineKeeperModel" "LineKeeperModel" "thrown" "I" : Cond) ∈ c0 :: GW := gw_of (tb5 (List.mem_of_getElem? (i := 9) (by decide +kernel))) rfl
theorem w_971 {c0 : Cond} : (.lays "LineKeeperModel" "LineKeeperModel" "names" "I" : Cond) ∈ c0 :: GW := gw_of (tb5 (List.mem_of_getElem? (i := 11) (by decide +kernel))) rfl
theorem w_973 {c0 : Cond} : (.lays "LineKeeperModel" "LineKeeperModel" "accesses" "I" : Cond) ∈ c0 :: GW := gw_of (tb5 (List.mem_of_getElem? (i := 13) (by decide +kernel))) rfl
theorem w_975 {c0 : Cond} : (.lays "LineKeeperModel" "LineKeeperModel" "clock" "I" : Cond) ∈ c0 :: GW := gw_of (tb5 (List.mem_of_getElem? (i := 15) (by decide +kernel))) rfl
theorem w_977 {c0 : Cond} : (.superclass "LineKeeperModel" "java/lang/Object" : Cond) ∈ c0 :: GW := gw_of (tb5 (List.mem_of_getElem? (i := 17) (by decide +kernel))) rfl
theorem ml_L_127 {c0 : Cond} : (.methodLink RL 127 yX4_thrown : Cond) ∈ c0 :: GW := gw_of (tb5 (List.mem_of_getElem? (i := 18) (by decide +kernel))) rfl
theorem im_X4_thrown {c0 : Cond} : (.instanceMethod yX4_thrown : Cond) ∈ c0 :: GW := gw_of (tb5 (List.mem_of_getElem? (i := 19) (by decide +kernel))) rfl
theorem se_X4_X4_thrown {c0 : Cond} : (.selects RX4 yX4_thrown yX4_thrown : Cond) ∈ c0 :: GW := gw_of (tb5 (List.mem_of_getElem? (i := 20) (by decide +kernel))) rfl
theorem cd_X4_thrown {c0 : Cond} : (.code yX4_thrown prog_6_method_2_code 1 (some .int) : Cond) ∈ c0 :: GW := gw_of (tb5 (List.mem_of_getElem? (i := 21) (by decide +kernel))) rfl
theorem ml_L_126 {c0 : Cond} : (.methodLink RL 126 yX4_addName : Cond) ∈ c0 :: GW := gw_of (tb5 (List.mem_of_getElem? (i := 22) (by decide +kernel))) rfl
theorem im_X4_addName {c0 : Cond} : (.instanceMethod yX4_addName : Cond) ∈ c0 :: GW := gw_of (tb5 (List.mem_of_getElem? (i := 23) (by decide +kernel))) rfl
theorem se_X4_X4_addName {c0 : Cond} : (.selects RX4 yX4_addName yX4_addName : Cond) ∈ c0 :: GW := gw_of (tb5 (List.mem_of_getElem? (i := 24) (by decide +kernel))) rfl
theorem cd_X4_addName {c0 : Cond} : (.code yX4_addName prog_6_method_8_code 2 (some .int) : Cond) ∈ c0 :: GW := gw_of (tb5 (List.mem_of_getElem? (i := 25) (by decide +kernel))) rfl
theorem ml_X4_76 {c0 : Cond} : (.methodLink RX4 76 yX4_in : Cond) ∈ c0 :: GW := gw_of (tb5 (List.mem_of_getElem? (i := 26) (by decide +kernel))) rfl
theorem sm_X4_in {c0 : Cond} : (.static yX4_in : Cond) ∈ c0 :: GW := gw_of (tb5 (List.mem_of_getElem? (i := 27) (by decide +kernel))) rfl
theorem cd_X4_in {c0 : Cond} : (.code yX4_in prog_6_method_3_code 3 (some .boolean) : Cond) ∈ c0 :: GW := gw_of (tb5 (List.mem_of_getElem? (i := 28) (by decide +kernel))) rfl
theorem ml_L_133 {c0 : Cond} : (.methodLink RL 133 yX4_place : Cond) ∈ c0 :: GW := gw_of (tb5 (List.mem_of_getElem? (i := 29) (by decide +kernel))) rfl
theorem im_X4_place {c0 : Cond} : (.instanceMethod yX4_place : Cond) ∈ c0 :: GW := gw_of (tb5 (List.mem_of_getElem? (i := 30) (by decide +kernel))) rfl
theorem se_X4_X4_place {c0 : Cond} : (.selects RX4 yX4_place yX4_place : Cond) ∈ c0 :: GW := gw_of (tb5 (List.mem_of_getElem? (i := 31) (by decide +kernel))) rfl
theorem cd_X4_place {c0 : Cond} : (.code yX4_place prog_6_method_11_code 3 (some .int) : Cond) ∈ c0 :: GW := gw_of (tb5 (List.mem_of_getElem? (i := 32) (by decide +kernel))) rfl
theorem ml_X4_84 {c0 : Cond} : (.methodLink RX4 84 yX4_isName : Cond) ∈ c0 :: GW := gw_of (tb5 (List.mem_of_getElem? (i := 33) (by decide +kernel))) rfl
theorem im_X4_isName {c0 : Cond} : (.instanceMethod yX4_isName : Cond) ∈ c0 :: GW := gw_of (tb5 (List.mem_of_getElem? (i := 35) (by decide +kernel))) rfl
theorem cd_X4_isName {c0 : Cond} : (.code yX4_isName prog_6_method_5_code 2 (some .boolean) : Cond) ∈ c0 :: GW := gw_of (tb5 (List.mem_of_getElem? (i := 36) (by decide +kernel))) rfl
theorem ml_X4_88 {c0 : Cond} : (.methodLink RX4 88 yX4_fits : Cond) ∈ c0 :: GW := gw_of (tb5 (List.mem_of_getElem? (i := 37) (by decide +kernel))) rfl
theorem im_X4_fits {c0 : Cond} : (.instanceMethod yX4_fits : Cond) ∈ c0 :: GW := gw_of (tb5 (List.mem_of_getElem? (i := 39) (by decide +kernel))) rfl
theorem cd_X4_fits {c0 : Cond} : (.code yX4_fits prog_6_method_10_code 4 (some .boolean) : Cond) ∈ c0 :: GW := gw_of (tb5 (List.mem_of_getElem? (i := 40) (by decide +kernel))) rfl
theorem ml_X4_80 {c0 : Cond} : (.methodLink RX4 80 yX4_nameOn : Cond) ∈ c0 :: GW := gw_of (tb5 (List.mem_of_getElem? (i := 41) (by decide +kernel))) rfl
theorem im_X4_nameOn {c0 : Cond} : (.instanceMethod yX4_nameOn : Cond) ∈ c0 :: GW := gw_of (tb5 (List.mem_of_getElem? (i := 43) (by decide +kernel))) rfl
theorem cd_X4_nameOn {c0 : Cond} : (.code yX4_nameOn prog_6_method_9_code 3 (some .int) : Cond) ∈ c0 :: GW := gw_of (tb5 (List.mem_of_getElem? (i := 44) (by decide +kernel))) rfl
theorem ml_L_136 {c0 : Cond} : (.methodLink RL 136 yX4_link : Cond) ∈ c0 :: GW := gw_of (tb5 (List.mem_of_getElem? (i := 45) (by decide +kernel))) rfl
theorem im_X4_link {c0 : Cond} : (.instanceMethod yX4_link : Cond) ∈ c0 :: GW := gw_of (tb5 (List.mem_of_getElem? (i := 46) (by decide +kernel))) rfl
theorem se_X4_X4_link {c0 : Cond} : (.selects RX4 yX4_link yX4_link : Cond) ∈ c0 :: GW := gw_of (tb5 (List.mem_of_getElem? (i := 47) (by decide +kernel))) rfl
theorem cd_X4_link {c0 : Cond} : (.code yX4_link prog_6_method_13_code 5 (some .int) : Cond) ∈ c0 :: GW := gw_of (tb5 (List.mem_of_getElem? (i := 48) (by decide +kernel))) rfl
theorem ml_X4_92 {c0 : Cond} : (.methodLink RX4 92 yX4_checked : Cond) ∈ c0 :: GW := gw_of (tb5 (List.mem_of_getElem? (i := 49) (by decide +kernel))) rfl
theorem im_X4_checked {c0 : Cond} : (.instanceMethod yX4_checked : Cond) ∈ c0 :: GW := gw_of (tb5 (List.mem_of_getElem? (i := 51) (by decide +kernel))) rfl
theorem cd_X4_checked {c0 : Cond} : (.code yX4_checked prog_6_method_4_code 2 (some .int) : Cond) ∈ c0 :: GW := gw_of (tb5 (List.mem_of_getElem? (i := 52) (by decide +kernel))) rfl
theorem ml_X4_96 {c0 : Cond} : (.methodLink RX4 96 yX4_lowest : Cond) ∈ c0 :: GW := gw_of (tb5 (List.mem_of_getElem? (i := 53) (by decide +kernel))) rfl
theorem im_X4_lowest {c0 : Cond} : (.instanceMethod yX4_lowest : Cond) ∈ c0 :: GW := gw_of (tb5 (List.mem_of_getElem? (i := 55) (by decide +kernel))) rfl
theorem cd_X4_lowest {c0 : Cond} : (.code yX4_lowest prog_6_method_12_code 4 (some .int) : Cond) ∈ c0 :: GW := gw_of (tb5 (List.mem_of_getElem? (i := 56) (by decide +kernel))) rfl
theorem ml_L_139 {c0 : Cond} : (.methodLink RL 139 yX4_take : Cond) ∈ c0 :: GW := gw_of (tb5 (List.mem_of_getElem? (i := 57) (by decide +kernel))) rfl
theorem im_X4_take {c0 : Cond} : (.instanceMethod yX4_take : Cond) ∈ c0 :: GW := gw_of (tb5 (List.mem_of_getElem? (i := 58) (by decide +kernel))) rfl
theorem se_X4_X4_take {c0 : Cond} : (.selects RX4 yX4_take yX4_take : Cond) ∈ c0 :: GW := gw_of (tb5 (List.mem_of_getElem? (i := 59) (by decide +kernel))) rfl
theorem cd_X4_take {c0 : Cond} : (.code yX4_take prog_6_method_14_code 3 (some .int) : Cond) ∈ c0 :: GW := gw_of (tb5 (List.mem_of_getElem? (i := 60) (by decide +kernel))) rfl
theorem ml_L_142 {c0 : Cond} : (.methodLink RL 142 yX4_addressOf : Cond) ∈ c0 :: GW := gw_of (tb5 (List.mem_of_getElem? (i := 61) (by decide +kernel))) rfl
theorem im_X4_addressOf {c0 : Cond} : (.instanceMethod yX4_addressOf : Cond) ∈ c0 :: GW := gw_of (tb5 (List.mem_of_getElem? (i := 62) (by decide +kernel))) rfl
theorem se_X4_X4_addressOf {c0 : Cond} : (.selects RX4 yX4_addressOf yX4_addressOf : Cond) ∈ c0 :: GW := gw_of (tb5 (List.mem_of_getElem? (i := 63) (by decide +kernel))) rfl
theorem cd_X4_addressOf {c0 : Cond} : (.code yX4_addressOf prog_6_method_15_code 3 (some .int) : Cond) ∈ c0 :: GW := gw_of (tb5 (List.mem_of_getElem? (i := 64) (by decide +kernel))) rfl
theorem ml_L_145 {c0 : Cond} : (.methodLink RL 145 yX4_nameAt : Cond) ∈ c0 :: GW := gw_of (tb5 (List.mem_of_getElem? (i := 65) (by decide +kernel))) rfl
theorem im_X4_nameAt {c0 : Cond} : (.instanceMethod yX4_nameAt : Cond) ∈ c0 :: GW := gw_of (tb5 (List.mem_of_getElem? (i := 66) (by decide +kernel))) rfl
theorem se_X4_X4_nameAt {c0 : Cond} : (.selects RX4 yX4_nameAt yX4_nameAt : Cond) ∈ c0 :: GW := gw_of (tb5 (List.mem_of_getElem? (i := 67) (by decide +kernel))) rfl
theorem cd_X4_nameAt {c0 : Cond} : (.code yX4_nameAt prog_6_method_16_code 2 (some .int) : Cond) ∈ c0 :: GW := gw_of (tb5 (List.mem_of_getElem? (i := 68) (by decide +kernel))) rfl
theorem ml_L_148 {c0 : Cond} : (.methodLink RL 148 yX4_meet : Cond) ∈ c0 :: GW := gw_of (tb5 (List.mem_of_getElem? (i := 69) (by decide +kernel))) rfl
theorem im_X4_meet {c0 : Cond} : (.instanceMethod yX4_meet : Cond) ∈ c0 :: GW := gw_of (tb5 (List.mem_of_getElem? (i := 70) (by decide +kernel))) rfl
theorem se_X4_X4_meet {c0 : Cond} : (.selects RX4 yX4_meet yX4_meet : Cond) ∈ c0 :: GW := gw_of (tb5 (List.mem_of_getElem? (i := 71) (by decide +kernel))) rfl
theorem cd_X4_meet {c0 : Cond} : (.code yX4_meet prog_6_method_17_code 5 (some .boolean) : Cond) ∈ c0 :: GW := gw_of (tb5 (List.mem_of_getElem? (i := 72) (by decide +kernel))) rfl
theorem ml_L_152 {c0 : Cond} : (.methodLink RL 152 yX4_read : Cond) ∈ c0 :: GW := gw_of (tb5 (List.mem_of_getElem? (i := 73) (by decide +kernel))) rfl
theorem im_X4_read {c0 : Cond} : (.instanceMethod yX4_read : Cond) ∈ c0 :: GW := gw_of (tb5 (List.mem_of_getElem? (i := 74) (by decide +kernel))) rfl
theorem se_X4_X4_read {c0 : Cond} : (.selects RX4 yX4_read yX4_read : Cond) ∈ c0 :: GW := gw_of (tb5 (List.mem_of_getElem? (i := 75) (by decide +kernel))) rfl
theorem cd_X4_read {c0 : Cond} : (.code yX4_read prog_6_method_31_code 8 (some .int) : Cond) ∈ c0 :: GW := gw_of (tb5 (List.mem_of_getElem? (i := 76) (by decide +kernel))) rfl
theorem ml_X4_133 {c0 : Cond} : (.methodLink RX4 133 yX4_wrongAccess : Cond) ∈ c0 :: GW := gw_of (tb5 (List.mem_of_getElem? (i := 77) (by decide +kernel))) rfl
theorem im_X4_wrongAccess {c0 : Cond} : (.instanceMethod yX4_wrongAccess : Cond) ∈ c0 :: GW := gw_of (tb5 (List.mem_of_getElem? (i := 79) (by decide +kernel))) rfl
theorem cd_X4_wrongAccess {c0 : Cond} : (.code yX4_wrongAccess prog_6_method_30_code 4 (some .int) : Cond) ∈ c0 :: GW := gw_of (tb5 (List.mem_of_getElem? (i := 80) (by decide +kernel))) rfl
theorem ml_X4_130 {c0 : Cond} : (.methodLink RX4 130 yX4_isCore : Cond) ∈ c0 :: GW := gw_of (tb5 (List.mem_of_getElem? (i := 81) (by decide +kernel))) rfl
theorem sm_X4_isCore {c0 : Cond} : (.static yX4_isCore : Cond) ∈ c0 :: GW := gw_of (tb5 (List.mem_of_getElem? (i := 82) (by decide +kernel))) rfl
theorem cd_X4_isCore {c0 : Cond} : (.code yX4_isCore prog_6_method_6_code 1 (some .boolean) : Cond) ∈ c0 :: GW := gw_of (tb5 (List.mem_of_getElem? (i := 83) (by decide +kernel))) rfl
theorem ml_X4_103 {c0 : Cond} : (.methodLink RX4 103 yX4_has : Cond) ∈ c0 :: GW := gw_of (tb5 (List.mem_of_getElem? (i := 84) (by decide +kernel))) rfl
theorem im_X4_has {c0 : Cond} : (.instanceMethod yX4_has : Cond) ∈ c0 :: GW := gw_of (tb5 (List.mem_of_getElem? (i := 86) (by decide +kernel))) rfl
theorem cd_X4_has {c0 : Cond} : (.code yX4_has prog_6_method_18_code 3 (some .boolean) : Cond) ∈ c0 :: GW := gw_of (tb5 (List.mem_of_getElem? (i := 87) (by decide +kernel))) rfl
theorem ml_X4_100 {c0 : Cond} : (.methodLink RX4 100 yX4_at : Cond) ∈ c0 :: GW := gw_of (tb5 (List.mem_of_getElem? (i := 88) (by decide +kernel))) rfl
theorem sm_X4_at {c0 : Cond} : (.static yX4_at : Cond) ∈ c0 :: GW := gw_of (tb5 (List.mem_of_getElem? (i := 89) (by decide +kernel))) rfl
theorem cd_X4_at {c0 : Cond} : (.code yX4_at prog_6_method_7_code 2 (some .int) : Cond) ∈ c0 :: GW := gw_of (tb5 (List.mem_of_getElem? (i := 90) (by decide +kernel))) rfl
theorem ml_X4_137 {c0 : Cond} : (.methodLink RX4 137 yX4_uses : Cond) ∈ c0 :: GW := gw_of (tb5 (List.mem_of_getElem? (i := 91) (by decide +kernel))) rfl
theorem im_X4_uses {c0 : Cond} : (.instanceMethod yX4_uses : Cond) ∈ c0 :: GW := gw_of (tb5 (List.mem_of_getElem? (i := 93) (by decide +kernel))) rfl
theorem cd_X4_uses {c0 : Cond} : (.code yX4_uses prog_6_method_28_code 3 none : Cond) ∈ c0 :: GW := gw_of (tb5 (List.mem_of_getElem? (i := 94) (by decide +kernel))) rfl
theorem ml_X4_141 {c0 : Cond} : (.methodLink RX4 141 yX4_notes : Cond) ∈ c0 :: GW := gw_of (tb5 (List.mem_of_getElem? (i := 95) (by decide +kernel))) rfl
theorem im_X4_notes {c0 : Cond} : (.instanceMethod yX4_notes : Cond) ∈ c0 :: GW := gw_of (tb5 (List.mem_of_getElem? (i := 97) (by decide +kernel))) rfl
theorem cd_X4_notes {c0 : Cond} : (.code yX4_notes prog_6_method_27_code 7 (some .int) : Cond) ∈ c0 :: GW := gw_of (tb5 (List.mem_of_getElem? (i := 98) (by decide +kernel))) rfl
theorem ml_X4_116 {c0 : Cond} : (.methodLink RX4 116 yX4_longer : Cond) ∈ c0 :: GW := gw_of (tb5 (List.mem_of_getElem? (i := 99) (by decide +kernel))) rfl
theorem sm_X4_longer {c0 : Cond} : (.static yX4_longer : Cond) ∈ c0 :: GW := gw_of (tb5 (List.mem_of_getElem? (i := 100) (by decide +kernel))) rfl
theorem cd_X4_longer {c0 : Cond} : (.code yX4_longer prog_6_method_26_code 3 (some (.array .int)) : Cond) ∈ c0 :: GW := gw_of (tb5 (List.mem_of_getElem? (i := 101) (by decide +kernel))) rfl
theorem ml_X4_145 {c0 : Cond} : (.methodLink RX4 145 yX4_causeFor : Cond) ∈ c0 :: GW := gw_of (tb5 (List.mem_of_getElem? (i := 102) (by decide +kernel))) rfl
theorem im_X4_causeFor {c0 : Cond} : (.instanceMethod yX4_causeFor : Cond) ∈ c0 :: GW := gw_of (tb5 (List.mem_of_getElem? (i := 104) (by decide +kernel))) rfl
theorem cd_X4_causeFor {c0 : Cond} : (.code yX4_causeFor prog_6_method_25_code 5 (some .char) : Cond) ∈ c0 :: GW := gw_of (tb5 (List.mem_of_getElem? (i := 105) (by decide +kernel))) rfl
theorem ml_X4_123 {c0 : Cond} : (.methodLink RX4 123 yX4_othersWith : Cond) ∈ c0 :: GW := gw_of (tb5 (List.mem_of_getElem? (i := 106) (by decide +kernel))) rfl
theorem im_X4_othersWith {c0 : Cond} : (.instanceMethod yX4_othersWith : Cond) ∈ c0 :: GW := gw_of (tb5 (List.mem_of_getElem? (i := 108) (by decide +kernel))) rfl
theorem cd_X4_othersWith {c0 : Cond} : (.code yX4_othersWith prog_6_method_23_code 5 (some .int) : Cond) ∈ c0 :: GW := gw_of (tb5 (List.mem_of_getElem? (i := 109) (by decide +kernel))) rfl
theorem ml_X4_126 {c0 : Cond} : (.methodLink RX4 126 yX4_comes : Cond) ∈ c0 :: GW := gw_of (tb5 (List.mem_of_getElem? (i := 110) (by decide +kernel))) rfl
theorem im_X4_comes {c0 : Cond} : (.instanceMethod yX4_comes : Cond) ∈ c0 :: GW := gw_of (tb5 (List.mem_of_getElem? (i := 112) (by decide +kernel))) rfl
theorem cd_X4_comes {c0 : Cond} : (.code yX4_comes prog_6_method_22_code 6 (some .boolean) : Cond) ∈ c0 :: GW := gw_of (tb5 (List.mem_of_getElem? (i := 113) (by decide +kernel))) rfl
theorem ml_X4_106 {c0 : Cond} : (.methodLink RX4 106 yX4_manyIn : Cond) ∈ c0 :: GW := gw_of (tb5 (List.mem_of_getElem? (i := 114) (by decide +kernel))) rfl
theorem im_X4_manyIn {c0 : Cond} : (.instanceMethod yX4_manyIn : Cond) ∈ c0 :: GW := gw_of (tb5 (List.mem_of_getElem? (i := 116) (by decide +kernel))) rfl
theorem cd_X4_manyIn {c0 : Cond} : (.code yX4_manyIn prog_6_method_20_code 5 (some .int) : Cond) ∈ c0 :: GW := gw_of (tb5 (List.mem_of_getElem? (i := 117) (by decide +kernel))) rfl
theorem ml_X4_109 {c0 : Cond} : (.methodLink RX4 109 yX4_oldestIn : Cond) ∈ c0 :: GW := gw_of (tb5 (List.mem_of_getElem? (i := 118) (by decide +kernel))) rfl
theorem im_X4_oldestIn {c0 : Cond} : (.instanceMethod yX4_oldestIn : Cond) ∈ c0 :: GW := gw_of (tb5 (List.mem_of_getElem? (i := 120) (by decide +kernel))) rfl
theorem cd_X4_oldestIn {c0 : Cond} : (.code yX4_oldestIn prog_6_method_19_code 5 (some .int) : Cond) ∈ c0 :: GW := gw_of (tb5 (List.mem_of_getElem? (i := 121) (by decide +kernel))) rfl
theorem ml_X4_112 {c0 : Cond} : (.methodLink RX4 112 yX4_leaves : Cond) ∈ c0 :: GW := gw_of (tb5 (List.mem_of_getElem? (i := 122) (by decide +kernel))) rfl
theorem im_X4_leaves {c0 : Cond} : (.instanceMethod yX4_leaves : Cond) ∈ c0 :: GW := gw_of (tb5 (List.mem_of_getElem? (i := 124) (by decide +kernel))) rfl
theorem cd_X4_leaves {c0 : Cond} : (.code yX4_leaves prog_6_method_21_code 5 none : Cond) ∈ c0 :: GW := gw_of (tb5 (List.mem_of_getElem? (i := 125) (by decide +kernel))) rfl
theorem ml_X4_149 {c0 : Cond} : (.methodLink RX4 149 yX4_learns : Cond) ∈ c0 :: GW := gw_of (tb5 (List.mem_of_getElem? (i := 126) (by decide +kernel))) rfl
theorem im_X4_learns {c0 : Cond} : (.instanceMethod yX4_learns : Cond) ∈ c0 :: GW := gw_of (tb5 (List.mem_of_getElem? (i := 128) (by decide +kernel))) rfl
theorem cd_X4_learns {c0 : Cond} : (.code yX4_learns prog_6_method_29_code 7 none : Cond) ∈ c0 :: GW := gw_of (tb5 (List.mem_of_getElem? (i := 129) (by decide +kernel))) rfl
theorem ml_X4_120 {c0 : Cond} : (.methodLink RX4 120 yX4_ownerOf : Cond) ∈ c0 :: GW := gw_of (tb5 (List.mem_of_getElem? (i := 130) (by decide +kernel))) rfl
theorem im_X4_ownerOf {c0 : Cond} : (.instanceMethod yX4_ownerOf : Cond) ∈ c0 :: GW := gw_of (tb5 (List.mem_of_getElem? (i := 132) (by decide +kernel))) rfl
theorem cd_X4_ownerOf {c0 : Cond} : (.code yX4_ownerOf prog_6_method_24_code 3 (some .int) : Cond) ∈ c0 :: GW := gw_of (tb5 (List.mem_of_getElem? (i := 133) (by decide +kernel))) rfl
theorem ml_L_155 {c0 : Cond} : (.methodLink RL 155 yX4_write : Cond) ∈ c0 :: GW := gw_of (tb5 (List.mem_of_getElem? (i := 134) (by decide +kernel))) rfl
theorem im_X4_write {c0 : Cond} : (.instanceMethod yX4_write : Cond) ∈ c0 :: GW := gw_of (tb5 (List.mem_of_getElem? (i := 135) (by decide +kernel))) rfl
theorem se_X4_X4_write {c0 : Cond} : (.selects RX4 yX4_write yX4_write : Cond) ∈ c0 :: GW := gw_of (tb5 (List.mem_of_getElem? (i := 136) (by decide +kernel))) rfl
theorem cd_X4_write {c0 : Cond} : (.code yX4_write prog_6_method_33_code 9 (some .int) : Cond) ∈ c0 :: GW := gw_of (tb5 (List.mem_of_getElem? (i := 137) (by decide +kernel))) rfl
theorem ml_X4_152 {c0 : Cond} : (.methodLink RX4 152 yX4_takesFromOthers : Cond) ∈ c0 :: GW := gw_of (tb5 (List.mem_of_getElem? (i := 138) (by decide +kernel))) rfl
theorem im_X4_takesFromOthers {c0 : Cond} : (.instanceMethod yX4_takesFromOthers : Cond) ∈ c0 :: GW := gw_of (tb5 (List.mem_of_getElem? (i := 140) (by decide +kernel))) rfl
theorem cd_X4_takesFromOthers {c0 : Cond} : (.code yX4_takesFromOthers prog_6_method_32_code 5 none : Cond) ∈ c0 :: GW := gw_of (tb5 (List.mem_of_getElem? (i := 141) (by decide +kernel))) rfl
theorem ml_L_158 {c0 : Cond} : (.methodLink RL 158 yX4_empty : Cond) ∈ c0 :: GW := gw_of (tb5 (List.mem_of_getElem? (i := 142) (by decide +kernel))) rfl
theorem im_X4_empty {c0 : Cond} : (.instanceMethod yX4_empty : Cond) ∈ c0 :: GW := gw_of (tb5 (List.mem_of_getElem? (i := 143) (by decide +kernel))) rfl
theorem se_X4_X4_empty {c0 : Cond} : (.selects RX4 yX4_empty yX4_empty : Cond) ∈ c0 :: GW := gw_of (tb5 (List.mem_of_getElem? (i := 144) (by decide +kernel))) rfl
theorem cd_X4_empty {c0 : Cond} : (.code yX4_empty prog_6_method_34_code 4 (some .int) : Cond) ∈ c0 :: GW := gw_of (tb5 (List.mem_of_getElem? (i := 145) (by decide +kernel))) rfl
theorem ml_L_162 {c0 : Cond} : (.methodLink RL 162 yX4_setAhead : Cond) ∈ c0 :: GW := gw_of (tb5 (List.mem_of_getElem? (i := 146) (by decide +kernel))) rfl
theorem im_X4_setAhead {c0 : Cond} : (.instanceMethod yX4_setAhead : Cond) ∈ c0 :: GW := gw_of (tb5 (List.mem_of_getElem? (i := 147) (by decide +kernel))) rfl
theorem se_X4_X4_setAhead {c0 : Cond} : (.selects RX4 yX4_setAhead yX4_setAhead : Cond) ∈ c0 :: GW := gw_of (tb5 (List.mem_of_getElem? (i := 148) (by decide +kernel))) rfl
theorem cd_X4_setAhead {c0 : Cond} : (.code yX4_setAhead prog_6_method_35_code 4 (some .boolean) : Cond) ∈ c0 :: GW := gw_of (tb5 (List.mem_of_getElem? (i := 149) (by decide +kernel))) rfl
theorem ml_L_166 {c0 : Cond} : (.methodLink RL 166 yX4_accesses : Cond) ∈ c0 :: GW := gw_of (tb5 (List.mem_of_getElem? (i := 150) (by decide +kernel))) rfl
theorem im_X4_accesses {c0 : Cond} : (.instanceMethod yX4_accesses : Cond) ∈ c0 :: GW := gw_of (tb5 (List.mem_of_getElem? (i := 151) (by decide +kernel))) rfl
theorem se_X4_X4_accesses {c0 : Cond} : (.selects RX4 yX4_accesses yX4_accesses : Cond) ∈ c0 :: GW := gw_of (tb5 (List.mem_of_getElem? (i := 152) (by decide +kernel))) rfl
theorem cd_X4_accesses {c0 : Cond} : (.code yX4_accesses prog_6_method_36_code 1 (some .int) : Cond) ∈ c0 :: GW := gw_of (tb5 (List.mem_of_getElem? (i := 153) (by decide +kernel))) rfl
theorem ml_L_169 {c0 : Cond} : (.methodLink RL 169 yX4_costOf : Cond) ∈ c0 :: GW := gw_of (tb5 (List.mem_of_getElem? (i := 154) (by decide +kernel))) rfl
theorem im_X4_costOf {c0 : Cond} : (.instanceMethod yX4_costOf : Cond) ∈ c0 :: GW := gw_of (tb5 (List.mem_of_getElem? (i := 155) (by decide +kernel))) rfl
theorem se_X4_X4_costOf {c0 : Cond} : (.selects RX4 yX4_costOf yX4_costOf : Cond) ∈ c0 :: GW := gw_of (tb5 (List.mem_of_getElem? (i := 156) (by decide +kernel))) rfl
theorem cd_X4_costOf {c0 : Cond} : (.code yX4_costOf prog_6_method_38_code 2 (some .int) : Cond) ∈ c0 :: GW := gw_of (tb5 (List.mem_of_getElem? (i := 157) (by decide +kernel))) rfl
theorem ml_X4_155 {c0 : Cond} : (.methodLink RX4 155 yX4_isAccess : Cond) ∈ c0 :: GW := gw_of (tb5 (List.mem_of_getElem? (i := 158) (by decide +kernel))) rfl
theorem im_X4_isAccess {c0 : Cond} : (.instanceMethod yX4_isAccess : Cond) ∈ c0 :: GW := gw_of (tb5 (List.mem_of_getElem? (i := 160) (by decide +kernel))) rfl
theorem cd_X4_isAccess {c0 : Cond} : (.code yX4_isAccess prog_6_method_37_code 2 (some .boolean) : Cond) ∈ c0 :: GW := gw_of (tb5 (List.mem_of_getElem? (i := 161) (by decide +kernel))) rfl
theorem ml_L_172 {c0 : Cond} : (.methodLink RL 172 yX4_costByReplay : Cond) ∈ c0 :: GW := gw_of (tb5 (List.mem_of_getElem? (i := 162) (by decide +kernel))) rfl
theorem im_X4_costByReplay {c0 : Cond} : (.instanceMethod yX4_costByReplay : Cond) ∈ c0 :: GW := gw_of (tb5 (List.mem_of_getElem? (i := 163) (by decide +kernel))) rfl
theorem se_X4_X4_costByReplay {c0 : Cond} : (.selects RX4 yX4_costByReplay yX4_costByReplay : Cond) ∈ c0 :: GW := gw_of (tb5 (List.mem_of_getElem? (i := 164) (by decide +kernel))) rfl
theorem cd_X4_costByReplay {c0 : Cond} : (.code yX4_costByReplay prog_6_method_39_code 2 (some .int) : Cond) ∈ c0 :: GW := gw_of (tb5 (List.mem_of_getElem? (i := 165) (by decide +kernel))) rfl
theorem ml_X4_158 {c0 : Cond} : (.methodLink RX4 158 yX4_costOf : Cond) ∈ c0 :: GW := gw_of (tb5 (List.mem_of_getElem? (i := 166) (by decide +kernel))) rfl
theorem ml_L_175 {c0 : Cond} : (.methodLink RL 175 yX4_causeOf : Cond) ∈ c0 :: GW := gw_of (tb5 (List.mem_of_getElem? (i := 167) (by decide +kernel))) rfl
theorem im_X4_causeOf {c0 : Cond} : (.instanceMethod yX4_causeOf : Cond) ∈ c0 :: GW := gw_of (tb5 (List.mem_of_getElem? (i := 168) (by decide +kernel))) rfl
theorem se_X4_X4_causeOf {c0 : Cond} : (.selects RX4 yX4_causeOf yX4_causeOf : Cond) ∈ c0 :: GW := gw_of (tb5 (List.mem_of_getElem? (i := 169) (by decide +kernel))) rfl
theorem cd_X4_causeOf {c0 : Cond} : (.code yX4_causeOf prog_6_method_40_code 2 (some .char) : Cond) ∈ c0 :: GW := gw_of (tb5 (List.mem_of_getElem? (i := 170) (by decide +kernel))) rfl
theorem ml_L_178 {c0 : Cond} : (.methodLink RL 178 yX4_state : Cond) ∈ c0 :: GW := gw_of (tb5 (List.mem_of_getElem? (i := 171) (by decide +kernel))) rfl
theorem im_X4_state {c0 : Cond} : (.instanceMethod yX4_state : Cond) ∈ c0 :: GW := gw_of (tb5 (List.mem_of_getElem? (i := 172) (by decide +kernel))) rfl
theorem se_X4_X4_state {c0 : Cond} : (.selects RX4 yX4_state yX4_state : Cond) ∈ c0 :: GW := gw_of (tb5 (List.mem_of_getElem? (i := 173) (by decide +kernel))) rfl
theorem cd_X4_state {c0 : Cond} : (.code yX4_state prog_6_method_42_code 3 (some .char) : Cond) ∈ c0 :: GW := gw_of (tb5 (List.mem_of_getElem? (i := 174) (by decide +kernel))) rfl
theorem ml_X4_161 {c0 : Cond} : (.methodLink RX4 161 yX4_isLine : Cond) ∈ c0 :: GW := gw_of (tb5 (List.mem_of_getElem? (i := 175) (by decide +kernel))) rfl
theorem sm_X4_isLine {c0 : Cond} : (.static yX4_isLine : Cond) ∈ c0 :: GW := gw_of (tb5 (List.mem_of_getElem? (i := 176) (by decide +kernel))) rfl
theorem cd_X4_isLine {c0 : Cond} : (.code yX4_isLine prog_6_method_41_code 1 (some .boolean) : Cond) ∈ c0 :: GW := gw_of (tb5 (List.mem_of_getElem? (i := 177) (by decide +kernel))) rfl
theorem ml_L_181 {c0 : Cond} : (.methodLink RL 181 yX4_owner : Cond) ∈ c0 :: GW := gw_of (tb5 (List.mem_of_getElem? (i := 178) (by decide +kernel))) rfl
theorem im_X4_owner {c0 : Cond} : (.instanceMethod yX4_owner : Cond) ∈ c0 :: GW := gw_of (tb5 (List.mem_of_getElem? (i := 179) (by decide +kernel))) rfl
theorem se_X4_X4_owner {c0 : Cond} : (.selects RX4 yX4_owner yX4_owner : Cond) ∈ c0 :: GW := gw_of (tb5 (List.mem_of_getElem? (i := 180) (by decide +kernel))) rfl
theorem cd_X4_owner {c0 : Cond} : (.code yX4_owner prog_6_method_43_code 2 (some .int) : Cond) ∈ c0 :: GW := gw_of (tb5 (List.mem_of_getElem? (i := 181) (by decide +kernel))) rfl
theorem ml_L_184 {c0 : Cond} : (.methodLink RL 184 yX4_holders : Cond) ∈ c0 :: GW := gw_of (tb5 (List.mem_of_getElem? (i := 182) (by decide +kernel))) rfl
theorem im_X4_holders {c0 : Cond} : (.instanceMethod yX4_holders : Cond) ∈ c0 :: GW := gw_of (tb5 (List.mem_of_getElem? (i := 183) (by decide +kernel))) rfl
theorem se_X4_X4_holders {c0 : Cond} : (.selects RX4 yX4_holders yX4_holders : Cond) ∈ c0 :: GW := gw_of (tb5 (List.mem_of_getElem? (i := 184) (by decide +kernel))) rfl
theorem cd_X4_holders {c0 : Cond} : (.code yX4_holders prog_6_method_44_code 2 (some .int) : Cond) ∈ c0 :: GW := gw_of (tb5 (List.mem_of_getElem? (i := 185) (by decide +kernel))) rfl
theorem ml_L_187 {c0 : Cond} : (.methodLink RL 187 yX4_lines : Cond) ∈ c0 :: GW := gw_of (tb5 (List.mem_of_getElem? (i := 186) (by decide +kernel))) rfl
theorem im_X4_lines {c0 : Cond} : (.instanceMethod yX4_lines : Cond) ∈ c0 :: GW := gw_of (tb5 (List.mem_of_getElem? (i := 187) (by decide +kernel))) rfl
theorem se_X4_X4_lines {c0 : Cond} : (.selects RX4 yX4_lines yX4_lines : Cond) ∈ c0 :: GW := gw_of (tb5 (List.mem_of_getElem? (i := 188) (by decide +kernel))) rfl
theorem cd_X4_lines {c0 : Cond} : (.code yX4_lines prog_6_method_45_code 4 (some .int) : Cond) ∈ c0 :: GW := gw_of (tb5 (List.mem_of_getElem? (i := 189) (by decide +kernel))) rfl
theorem ml_L_190 {c0 : Cond} : (.methodLink RL 190 yX4_oldest : Cond) ∈ c0 :: GW := gw_of (tb5 (List.mem_of_getElem? (i := 190) (by decide +kernel))) rfl
theorem im_X4_oldest {c0 : Cond} : (.instanceMethod yX4_oldest : Cond) ∈ c0 :: GW := gw_of (tb5 (List.mem_of_getElem? (i := 191) (by decide +kernel))) rfl
theorem se_X4_X4_oldest {c0 : Cond} : (.selects RX4 yX4_oldest yX4_oldest : Cond) ∈ c0 :: GW := gw_of (tb5 (List.mem_of_getElem? (i := 192) (by decide +kernel))) rfl
theorem cd_X4_oldest {c0 : Cond} : (.code yX4_oldest prog_6_method_46_code 3 (some .int) : Cond) ∈ c0 :: GW := gw_of (tb5 (List.mem_of_getElem? (i := 193) (by decide +kernel))) rfl
theorem ml_L_194 {c0 : Cond} : (.methodLink RL 194 yX4_count : Cond) ∈ c0 :: GW := gw_of (tb5 (List.mem_of_getElem? (i := 194) (by decide +kernel))) rfl
theorem im_X4_count {c0 : Cond} : (.instanceMethod yX4_count : Cond) ∈ c0 :: GW := gw_of (tb5 (List.mem_of_getElem? (i := 195) (by decide +kernel))) rfl
theorem se_X4_X4_count {c0 : Cond} : (.selects RX4 yX4_count yX4_count : Cond) ∈ c0 :: GW := gw_of (tb5 (List.mem_of_getElem? (i := 196) (by decide +kernel))) rfl
theorem cd_X4_count {c0 : Cond} : (.code yX4_count prog_6_method_48_code 5 (some .int) : Cond) ∈ c0 :: GW := gw_of (tb5 (List.mem_of_getElem? (i := 197) (by decide +kernel))) rfl
theorem ml_X4_164 {c0 : Cond} : (.methodLink RX4 164 yX4_isCause : Cond) ∈ c0 :: GW := gw_of (tb5 (List.mem_of_getElem? (i := 198) (by decide +kernel))) rfl
theorem sm_X4_isCause {c0 : Cond} : (.static yX4_isCause : Cond) ∈ c0 :: GW := gw_of (tb5 (List.mem_of_getElem? (i := 199) (by decide +kernel))) rfl
theorem cd_X4_isCause {c0 : Cond} : (.code yX4_isCause prog_6_method_47_code 1 (some .boolean) : Cond) ∈ c0 :: GW := gw_of (tb5 (List.mem_of_getElem? (i := 200) (by decide +kernel))) rfl
theorem ml_L_197 {c0 : Cond} : (.methodLink RL 197 yX4_bill : Cond) ∈ c0 :: GW := gw_of (tb5 (List.mem_of_getElem? (i := 201) (by decide +kernel))) rfl
theorem im_X4_bill {c0 : Cond} : (.instanceMethod yX4_bill : Cond) ∈ c0 :: GW := gw_of (tb5 (List.mem_of_getElem? (i := 202) (by decide +kernel))) rfl
theorem se_X4_X4_bill {c0 : Cond} : (.selects RX4 yX4_bill yX4_bill : Cond) ∈ c0 :: GW := gw_of (tb5 (List.mem_of_getElem? (i := 203) (by decide +kernel))) rfl
theorem cd_X4_bill {c0 : Cond} : (.code yX4_bill prog_6_method_50_code 2 (some .long) : Cond) ∈ c0 :: GW := gw_of (tb5 (List.mem_of_getElem? (i := 204) (by decide +kernel))) rfl
theorem ml_X4_168 {c0 : Cond} : (.methodLink RX4 168 yX4_billFor : Cond) ∈ c0 :: GW := gw_of (tb5 (List.mem_of_getElem? (i := 205) (by decide +kernel))) rfl
theorem im_X4_billFor {c0 : Cond} : (.instanceMethod yX4_billFor : Cond) ∈ c0 :: GW := gw_of (tb5 (List.mem_of_getElem? (i := 207) (by decide +kernel))) rfl
theorem cd_X4_billFor {c0 : Cond} : (.code yX4_billFor prog_6_method_49_code 5 (some .long) : Cond) ∈ c0 :: GW := gw_of (tb5 (List.mem_of_getElem? (i := 208) (by decide +kernel))) rfl
theorem ml_L_201 {c0 : Cond} : (.methodLink RL 201 yX4_worst : Cond) ∈ c0 :: GW := gw_of (tb5 (List.mem_of_getElem? (i := 209) (by decide +kernel))) rfl
theorem im_X4_worst {c0 : Cond} : (.instanceMethod yX4_worst : Cond) ∈ c0 :: GW := gw_of (tb5 (List.mem_of_getElem? (i := 210) (by decide +kernel))) rfl
theorem se_X4_X4_worst {c0 : Cond} : (.selects RX4 yX4_worst yX4_worst : Cond) ∈ c0 :: GW := gw_of (tb5 (List.mem_of_getElem? (i := 211) (by decide +kernel))) rfl
theorem cd_X4_worst {c0 : Cond} : (.code yX4_worst prog_6_method_51_code 3 (some .int) : Cond) ∈ c0 :: GW := gw_of (tb5 (List.mem_of_getElem? (i := 212) (by decide +kernel))) rfl
theorem ml_L_204 {c0 : Cond} : (.methodLink RL 204 yX4_cycles : Cond) ∈ c0 :: GW := gw_of (tb5 (List.mem_of_getElem? (i := 213) (by decide +kernel))) rfl
theorem im_X4_cycles {c0 : Cond} : (.instanceMethod yX4_cycles : Cond) ∈ c0 :: GW := gw_of (tb5 (List.mem_of_getElem? (i := 214) (by decide +kernel))) rfl
theorem se_X4_X4_cycles {c0 : Cond} : (.selects RX4 yX4_cycles yX4_cycles : Cond) ∈ c0 :: GW := gw_of (tb5 (List.mem_of_getElem? (i := 215) (by decide +kernel))) rfl
theorem cd_X4_cycles {c0 : Cond} : (.code yX4_cycles prog_6_method_52_code 5 (some .long) : Cond) ∈ c0 :: GW := gw_of (tb5 (List.mem_of_getElem? (i := 216) (by decide +kernel))) rfl
theorem ml_L_207 {c0 : Cond} : (.methodLink RL 207 yX4_fetched : Cond) ∈ c0 :: GW := gw_of (tb5 (List.mem_of_getElem? (i := 217) (by decide +kernel))) rfl
theorem im_X4_fetched {c0 : Cond} : (.instanceMethod yX4_fetched : Cond) ∈ c0 :: GW := gw_of (tb5 (List.mem_of_getElem? (i := 218) (by decide +kernel))) rfl
theorem se_X4_X4_fetched {c0 : Cond} : (.selects RX4 yX4_fetched yX4_fetched : Cond) ∈ c0 :: GW := gw_of (tb5 (List.mem_of_getElem? (i := 219) (by decide +kernel))) rfl
theorem cd_X4_fetched {c0 : Cond} : (.code yX4_fetched prog_6_method_53_code 2 (some .int) : Cond) ∈ c0 :: GW := gw_of (tb5 (List.mem_of_getElem? (i := 220) (by decide +kernel))) rfl
theorem ml_L_210 {c0 : Cond} : (.methodLink RL 210 yX4_useful : Cond) ∈ c0 :: GW := gw_of (tb5 (List.mem_of_getElem? (i := 221) (by decide +kernel))) rfl
theorem im_X4_useful {c0 : Cond} : (.instanceMethod yX4_useful : Cond) ∈ c0 :: GW := gw_of (tb5 (List.mem_of_getElem? (i := 222) (by decide +kernel))) rfl
theorem se_X4_X4_useful {c0 : Cond} : (.selects RX4 yX4_useful yX4_useful : Cond) ∈ c0 :: GW := gw_of (tb5 (List.mem_of_getElem? (i := 223) (by decide +kernel))) rfl
theorem cd_X4_useful {c0 : Cond} : (.code yX4_useful prog_6_method_54_code 2 (some .int) : Cond) ∈ c0 :: GW := gw_of (tb5 (List.mem_of_getElem? (i := 224) (by decide +kernel))) rfl
theorem ml_L_213 {c0 : Cond} : (.methodLink RL 213 yX4_wrong : Cond) ∈ c0 :: GW := gw_of (tb5 (List.mem_of_getElem? (i := 225) (by decide +kernel))) rfl
theorem im_X4_wrong {c0 : Cond} : (.instanceMethod yX4_wrong : Cond) ∈ c0 :: GW := gw_of (tb5 (List.mem_of_getElem? (i := 226) (by decide +kernel))) rfl
theorem se_X4_X4_wrong {c0 : Cond} : (.selects RX4 yX4_wrong yX4_wrong : Cond) ∈ c0 :: GW := gw_of (tb5 (List.mem_of_getElem? (i := 227) (by decide +kernel))) rfl
theorem cd_X4_wrong {c0 : Cond} : (.code yX4_wrong prog_6_method_55_code 2 (some .int) : Cond) ∈ c0 :: GW := gw_of (tb5 (List.mem_of_getElem? (i := 228) (by decide +kernel))) rfl
theorem ml_L_217 {c0 : Cond} : (.methodLink RL 217 yX4_missShare : Cond) ∈ c0 :: GW := gw_of (tb5 (List.mem_of_getElem? (i := 229) (by decide +kernel))) rfl
theorem im_X4_missShare {c0 : Cond} : (.instanceMethod yX4_missShare : Cond) ∈ c0 :: GW := gw_of (tb5 (List.mem_of_getElem? (i := 230) (by decide +kernel))) rfl
theorem se_X4_X4_missShare {c0 : Cond} : (.selects RX4 yX4_missShare yX4_missShare : Cond) ∈ c0 :: GW := gw_of (tb5 (List.mem_of_getElem? (i := 231) (by decide +kernel))) rfl
theorem cd_X4_missShare {c0 : Cond} : (.code yX4_missShare prog_6_method_56_code 3 (some .float) : Cond) ∈ c0 :: GW := gw_of (tb5 (List.mem_of_getElem? (i := 232) (by decide +kernel))) rfl
theorem ml_L_220 {c0 : Cond} : (.methodLink RL 220 yX4_meanCost : Cond) ∈ c0 :: GW := gw_of (tb5 (List.mem_of_getElem? (i := 233) (by decide +kernel))) rfl
theorem im_X4_meanCost {c0 : Cond} : (.instanceMethod yX4_meanCost : Cond) ∈ c0 :: GW := gw_of (tb5 (List.mem_of_getElem? (i := 234) (by decide +kernel))) rfl
theorem se_X4_X4_meanCost {c0 : Cond} : (.selects RX4 yX4_meanCost yX4_meanCost : Cond) ∈ c0 :: GW := gw_of (tb5 (List.mem_of_getElem? (i := 235) (by decide +kernel))) rfl
theorem cd_X4_meanCost {c0 : Cond} : (.code yX4_meanCost prog_6_method_57_code 4 (some .double) : Cond) ∈ c0 :: GW := gw_of (tb5 (List.mem_of_getElem? (i := 236) (by decide +kernel))) rfl
theorem ml_L_225 {c0 : Cond} : (.methodLink RL 225 yX4_isCoherent : Cond) ∈ c0 :: GW := gw_of (tb5 (List.mem_of_getElem? (i := 237) (by decide +kernel))) rfl
theorem im_X4_isCoherent {c0 : Cond} : (.instanceMethod yX4_isCoherent : Cond) ∈ c0 :: GW := gw_of (tb5 (List.mem_of_getElem? (i := 238) (by decide +kernel))) rfl
theorem se_X4_X4_isCoherent {c0 : Cond} : (.selects RX4 yX4_isCoherent yX4_isCoherent : Cond) ∈ c0 :: GW := gw_of (tb5 (List.mem_of_getElem? (i := 239) (by decide +kernel))) rfl
theorem cd_X4_isCoherent {c0 : Cond} : (.code yX4_isCoherent prog_6_method_58_code 1 (some .boolean) : Cond) ∈ c0 :: GW := gw_of (tb6 (List.mem_of_getElem? (i := 0) (by decide +kernel))) rfl
theorem ac_1201 {c0 : Cond} : (.arrayClass .long : Cond) ∈ c0 :: GW := gw_of (tb6 (List.mem_of_getElem? (i := 1) (by decide +kernel))) rfl
theorem ac_1202 {c0 : Cond} : (.arrayClass .double : Cond) ∈ c0 :: GW := gw_of (tb6 (List.mem_of_getElem? (i := 2) (by decide +kernel))) rfl
theorem w_1203 {c0 : Cond} : (.sameMethod "java/lang/Throwable" "java/lang/Throwable" "fillInStackTrace" "(I)Ljava/lang/Throwable;" : Cond) ∈ c0 :: GW := gw_of (tb6 (List.mem_of_getElem? (i := 3) (by decide +kernel))) rfl
theorem n_1204 : (.castable "java/lang/ArrayIndexOutOfBoundsException" "java/lang/IndexOutOfBoundsException" : Cond) ∈ lw_tbl := tb6 (List.mem_of_getElem? (i := 4) (by decide +kernel))
theorem n_1205 : (.castable "LineKeeper" "java/lang/Object" : Cond) ∈ lw_tbl := tb6 (List.mem_of_getElem? (i := 5) (by decide +kernel))
theorem n_1206 : (.castable "LineKeeper$Layout" "java/lang/Object" : Cond) ∈ lw_tbl := tb6 (List.mem_of_getElem? (i := 6) (by decide +kernel))
theorem n_1207 : (.castable "LineKeeper$Caches" "java/lang/Object" : Cond) ∈ lw_tbl := tb6 (List.mem_of_getElem? (i := 7) (by decide +kernel))
theorem n_1208 : (.castable "java/util/ArrayList" "java/lang/Object" : Cond) ∈ lw_tbl := tb6 (List.mem_of_getElem? (i := 8) (by decide +kernel))
theorem n_1209 : (.castable "LineKeeperModel" "java/lang/Object" : Cond) ∈ lw_tbl := tb6 (List.mem_of_getElem? (i := 9) (by decide +kernel))
theorem n_1210 : (.castable "java/lang/IllegalArgumentException" "java/lang/Object" : Cond) ∈ lw_tbl := tb6 (List.mem_of_getElem? (i := 10) (by decide +kernel))
theorem n_1211 : (.castable "java/lang/IllegalStateException" "java/lang/Object" : Cond) ∈ lw_tbl := tb6 (List.mem_of_getElem? (i := 11) (by decide +kernel))
theorem n_1212 : (.castable "java/util/NoSuchElementException" "java/lang/Object" : Cond) ∈ lw_tbl := tb6 (List.mem_of_getElem? (i := 12) (by decide +kernel))
theorem n_1213 : (.castable "java/lang/UnsupportedOperationException" "java/lang/Object" : Cond) ∈ lw_tbl := tb6 (List.mem_of_getElem? (i := 13) (by decide +kernel))
theorem n_1214 : (.castable "java/lang/ArrayIndexOutOfBoundsException" "java/lang/Object" : Cond) ∈ lw_tbl := tb6 (List.mem_of_getElem? (i := 14) (by decide +kernel))
theorem n_1215 : (.castable "java/lang/IndexOutOfBoundsException" "java/lang/Object" : Cond) ∈ lw_tbl := tb6 (List.mem_of_getElem? (i := 15) (by decide +kernel))
theorem n_1216 : (.castable "LineKeeper$Event" "java/lang/Object" : Cond) ∈ lw_tbl := tb6 (List.mem_of_getElem? (i := 16) (by decide +kernel))
theorem n_1217 : (.castable "java/lang/ArithmeticException" "java/lang/Object" : Cond) ∈ lw_tbl := tb6 (List.mem_of_getElem? (i := 17) (by decide +kernel))
theorem n_1218 : (.castable "java/lang/Throwable" "java/lang/Object" : Cond) ∈ lw_tbl := tb6 (List.mem_of_getElem? (i := 18) (by decide +kernel))
theorem n_1219 : (.castable "java/lang/String" "java/lang/Object" : Cond) ∈ lw_tbl := tb6 (List.mem_of_getElem? (i := 19) (by decide +kernel))
theorem w_1220 {c0 : Cond} : (.sameMethod "[Ljava/lang/Object;" "java/lang/Object" "getClass" "()Ljava/lang/Class;" : Cond) ∈ c0 :: GW := gw_of (tb6 (List.mem_of_getElem? (i := 20) (by decide +kernel))) rfl
theorem se_Object__Object_getClass_9700 {c0 : Cond} : (.selects "[Ljava/lang/Object;" ⟨"java/lang/Object", "getClass", "()Ljava/lang/Class;"⟩ ⟨"java/lang/Object", "getClass", "()Ljava/lang/Class;"⟩ : Cond) ∈ c0 :: GW := gw_of (tb6 (List.mem_of_getElem? (i := 21) (by decide +kernel))) rfl
theorem n_1222 : (.declares ⟨"java/lang/Object", "getClass", "()Ljava/lang/Class;"⟩ : Cond) ∈ lw_tbl := tb6 (List.mem_of_getElem? (i := 22) (by decide +kernel))
theorem n_1223 : (.castable "[I" "java/lang/Object" : Cond) ∈ lw_tbl := tb6 (List.mem_of_getElem? (i := 23) (by decide +kernel))
theorem n_1224 : (.castable "[C" "java/lang/Object" : Cond) ∈ lw_tbl := tb6 (List.mem_of_getElem? (i := 24) (by decide +kernel))
theorem n_1225 : (.castable "[Z" "java/lang/Object" : Cond) ∈ lw_tbl := tb6 (List.mem_of_getElem? (i := 25) (by decide +kernel))
theorem n_1226 : (.castable "[B" "java/lang/Object" : Cond) ∈ lw_tbl := tb6 (List.mem_of_getElem? (i := 26) (by decide +kernel))
theorem n_1227 : (.castable "[Ljava/lang/Object;" "java/lang/Object" : Cond) ∈ lw_tbl := tb6 (List.mem_of_getElem? (i := 27) (by decide +kernel))
theorem n_1228 : (.castable "[J" "java/lang/Object" : Cond) ∈ lw_tbl := tb6 (List.mem_of_getElem? (i := 28) (by decide +kernel))
theorem n_1229 : (.castable "[D" "java/lang/Object" : Cond) ∈ lw_tbl := tb6 (List.mem_of_getElem? (i := 29) (by decide +kernel))
theorem se_X3_X3_isSameByReplay {c0 : Cond} : (.selects RX3 yX3_isSameByReplay yX3_isSameByReplay : Cond) ∈ c0 :: GW := gw_of (tbp1 (List.mem_of_getElem? (i := 0) (by decide +kernel))) rfl
theorem se_X3_X3_replay {c0 : Cond} : (.selects RX3 yX3_replay yX3_replay : Cond) ∈ c0 :: GW := gw_of (tbp1 (List.mem_of_getElem? (i := 1) (by decide +kernel))) rfl
theorem se_X0_X0_costOfNext {c0 : Cond} : (.selects RX0 yX0_costOfNext yX0_costOfNext : Cond) ∈ c0 :: GW := gw_of (tbp1 (List.mem_of_getElem? (i := 2) (by decide +kernel))) rfl
theorem se_X0_X0_makeRoom {c0 : Cond} : (.selects RX0 yX0_makeRoom yX0_makeRoom : Cond) ∈ c0 :: GW := gw_of (tbp1 (List.mem_of_getElem? (i := 3) (by decide +kernel))) rfl
theorem se_X0_X0_drop {c0 : Cond} : (.selects RX0 yX0_drop yX0_drop : Cond) ∈ c0 :: GW := gw_of (tbp1 (List.mem_of_getElem? (i := 4) (by decide +kernel))) rfl
theorem se_X0_X0_shareAll {c0 : Cond} : (.selects RX0 yX0_shareAll yX0_shareAll : Cond) ∈ c0 :: GW := gw_of (tbp1 (List.mem_of_getElem? (i := 5) (by decide +kernel))) rfl
theorem se_X0_X0_bring {c0 : Cond} : (.selects RX0 yX0_bring yX0_bring : Cond) ∈ c0 :: GW := gw_of (tbp1 (List.mem_of_getElem? (i := 6) (by decide +kernel))) rfl
theorem se_X0_X0_dropElsewhere {c0 : Cond} : (.selects RX0 yX0_dropElsewhere yX0_dropElsewhere : Cond) ∈ c0 :: GW := gw_of (tbp1 (List.mem_of_getElem? (i := 7) (by decide +kernel))) rfl
theorem se_X0_X0_use {c0 : Cond} : (.selects RX0 yX0_use yX0_use : Cond) ∈ c0 :: GW := gw_of (tbp1 (List.mem_of_getElem? (i := 8) (by decide +kernel))) rfl
theorem se_X0_X0_learn {c0 : Cond} : (.selects RX0 yX0_learn yX0_learn : Cond) ∈ c0 :: GW := gw_of (tbp1 (List.mem_of_getElem? (i := 9) (by decide +kernel))) rfl
theorem se_X0_X0_canFetch {c0 : Cond} : (.selects RX0 yX0_canFetch yX0_canFetch : Cond) ∈ c0 :: GW := gw_of (tbp1 (List.mem_of_getElem? (i := 10) (by decide +kernel))) rfl
theorem se_X0_X0_fetch {c0 : Cond} : (.selects RX0 yX0_fetch yX0_fetch : Cond) ∈ c0 :: GW := gw_of (tbp1 (List.mem_of_getElem? (i := 11) (by decide +kernel))) rfl
theorem se_Throwable_Throwable_fillInStackTrace_1602 {c0 : Cond} : (.selects "java/lang/Throwable" ⟨"java/lang/Throwable", "fillInStackTrace", "(I)Ljava/lang/Throwable;"⟩ ⟨"java/lang/Throwable", "fillInStackTrace", "(I)Ljava/lang/Throwable;"⟩ : Cond) ∈ c0 :: GW := gw_of (tbp1 (List.mem_of_getElem? (i := 12) (by decide +kernel))) rfl
theorem se_X3_X3_checkName {c0 : Cond} : (.selects RX3 yX3_checkName yX3_checkName : Cond) ∈ c0 :: GW := gw_of (tbp1 (List.mem_of_getElem? (i := 13) (by decide +kernel))) rfl
theorem se_X2_X2_lowestFor {c0 : Cond} : (.selects RX2 yX2_lowestFor yX2_lowestFor : Cond) ∈ c0 :: GW := gw_of (tbp1 (List.mem_of_getElem? (i := 14) (by decide +kernel))) rfl
theorem se_X3_X3_checkPlacedName {c0 : Cond} : (.selects RX3 yX3_checkPlacedName yX3_checkPlacedName : Cond) ∈ c0 :: GW := gw_of (tbp1 (List.mem_of_getElem? (i := 15) (by decide +kernel))) rfl
theorem se_X3_X3_checkWord {c0 : Cond} : (.selects RX3 yX3_checkWord yX3_checkWord : Cond) ∈ c0 :: GW := gw_of (tbp2 (List.mem_of_getElem? (i := 0) (by decide +kernel))) rfl
theorem se_X2_X2_lastLineOf {c0 : Cond} : (.selects RX2 yX2_lastLineOf yX2_lastLineOf : Cond) ∈ c0 :: GW := gw_of (tbp2 (List.mem_of_getElem? (i := 1) (by decide +kernel))) rfl
theorem se_X3_X3_access {c0 : Cond} : (.selects RX3 yX3_access yX3_access : Cond) ∈ c0 :: GW := gw_of (tbp2 (List.mem_of_getElem? (i := 2) (by decide +kernel))) rfl
theorem se_X3_X3_isFull {c0 : Cond} : (.selects RX3 yX3_isFull yX3_isFull : Cond) ∈ c0 :: GW := gw_of (tbp2 (List.mem_of_getElem? (i := 3) (by decide +kernel))) rfl
theorem se_Jx4a65c_Jx4a65c_add_72be8 {c0 : Cond} : (.selects RJx4a65c yJx4a65c_add_72be8 yJx4a65c_add_72be8 : Cond) ∈ c0 :: GW := gw_of (tbp2 (List.mem_of_getElem? (i := 4) (by decide +kernel))) rfl
theorem se_Jx4a65c_Jx4a65c_grow_d5877 {c0 : Cond} : (.selects RJx4a65c yJx4a65c_grow_d5877 yJx4a65c_grow_d5877 : Cond) ∈ c0 :: GW := gw_of (tbp2 (List.mem_of_getElem? (i := 5) (by decide +kernel))) rfl
theorem se_Jx4a65c_Jx4a65c_grow_92f84 {c0 : Cond} : (.selects RJx4a65c yJx4a65c_grow_92f84 yJx4a65c_grow_92f84 : Cond) ∈ c0 :: GW := gw_of (tbp2 (List.mem_of_getElem? (i := 6) (by decide +kernel))) rfl
theorem se_X3_X3_checkIndex {c0 : Cond} : (.selects RX3 yX3_checkIndex yX3_checkIndex : Cond) ∈ c0 :: GW := gw_of (tbp2 (List.mem_of_getElem? (i := 7) (by decide +kernel))) rfl
theorem se_X3_X3_replayUpTo {c0 : Cond} : (.selects RX3 yX3_replayUpTo yX3_replayUpTo : Cond) ∈ c0 :: GW := gw_of (tbp2 (List.mem_of_getElem? (i := 8) (by decide +kernel))) rfl
theorem se_X3_X3_sumOfName {c0 : Cond} : (.selects RX3 yX3_sumOfName yX3_sumOfName : Cond) ∈ c0 :: GW := gw_of (tbp2 (List.mem_of_getElem? (i := 9) (by decide +kernel))) rfl
theorem se_X4_X4_isName {c0 : Cond} : (.selects RX4 yX4_isName yX4_isName : Cond) ∈ c0 :: GW := gw_of (tbp2 (List.mem_of_getElem? (i := 10) (by decide +kernel))) rfl
theorem se_X4_X4_fits {c0 : Cond} : (.selects RX4 yX4_fits yX4_fits : Cond) ∈ c0 :: GW := gw_of (tbp2 (List.mem_of_getElem? (i := 11) (by decide +kernel))) rfl
theorem se_X4_X4_nameOn {c0 : Cond} : (.selects RX4 yX4_nameOn yX4_nameOn : Cond) ∈ c0 :: GW := gw_of (tbp2 (List.mem_of_getElem? (i := 12) (by decide +kernel))) rfl
theorem se_X4_X4_checked {c0 : Cond} : (.selects RX4 yX4_checked yX4_checked : Cond) ∈ c0 :: GW := gw_of (tbp2 (List.mem_of_getElem? (i := 13) (by decide +kernel))) rfl
theorem se_X4_X4_lowest {c0 : Cond} : (.selects RX4 yX4_lowest yX4_lowest : Cond) ∈ c0 :: GW := gw_of (tbp2 (List.mem_of_getElem? (i := 14) (by decide +kernel))) rfl
theorem se_X4_X4_wrongAccess {c0 : Cond} : (.selects RX4 yX4_wrongAccess yX4_wrongAccess : Cond) ∈ c0 :: GW := gw_of (tbp2 (List.mem_of_getElem? (i := 15) (by decide +kernel))) rfl
theorem se_X4_X4_has {c0 : Cond} : (.selects RX4 yX4_has yX4_has : Cond) ∈ c0 :: GW := gw_of (tbp3 (List.mem_of_getElem? (i := 0) (by decide +kernel))) rfl
theorem se_X4_X4_uses {c0 : Cond} : (.selects RX4 yX4_uses yX4_uses : Cond) ∈ c0 :: GW := gw_of (tbp3 (List.mem_of_getElem? (i := 1) (by decide +kernel))) rfl
theorem se_X4_X4_notes {c0 : Cond} : (.selects RX4 yX4_notes yX4_notes : Cond) ∈ c0 :: GW := gw_of (tbp3 (List.mem_of_getElem? (i := 2) (by decide +kernel))) rfl
theorem se_X4_X4_causeFor {c0 : Cond} : (.selects RX4 yX4_causeFor yX4_causeFor : Cond) ∈ c0 :: GW := gw_of (tbp3 (List.mem_of_getElem? (i := 3) (by decide +kernel))) rfl
theorem se_X4_X4_othersWith {c0 : Cond} : (.selects RX4 yX4_othersWith yX4_othersWith : Cond) ∈ c0 :: GW := gw_of (tbp3 (List.mem_of_getElem? (i := 4) (by decide +kernel))) rfl
theorem se_X4_X4_comes {c0 : Cond} : (.selects RX4 yX4_comes yX4_comes : Cond) ∈ c0 :: GW := gw_of (tbp3 (List.mem_of_getElem? (i := 5) (by decide +kernel))) rfl
theorem se_X4_X4_manyIn {c0 : Cond} : (.selects RX4 yX4_manyIn yX4_manyIn : Cond) ∈ c0 :: GW := gw_of (tbp3 (List.mem_of_getElem? (i := 6) (by decide +kernel))) rfl
theorem se_X4_X4_oldestIn {c0 : Cond} : (.selects RX4 yX4_oldestIn yX4_oldestIn : Cond) ∈ c0 :: GW := gw_of (tbp3 (List.mem_of_getElem? (i := 7) (by decide +kernel))) rfl
theorem se_X4_X4_leaves {c0 : Cond} : (.selects RX4 yX4_leaves yX4_leaves : Cond) ∈ c0 :: GW := gw_of (tbp3 (List.mem_of_getElem? (i := 8) (by decide +kernel))) rfl
theorem se_X4_X4_learns {c0 : Cond} : (.selects RX4 yX4_learns yX4_learns : Cond) ∈ c0 :: GW := gw_of (tbp3 (List.mem_of_getElem? (i := 9) (by decide +kernel))) rfl
theorem se_X4_X4_ownerOf {c0 : Cond} : (.selects RX4 yX4_ownerOf yX4_ownerOf : Cond) ∈ c0 :: GW := gw_of (tbp3 (List.mem_of_getElem? (i := 10) (by decide +kernel))) rfl
theorem se_X4_X4_takesFromOthers {c0 : Cond} : (.selects RX4 yX4_takesFromOthers yX4_takesFromOthers : Cond) ∈ c0 :: GW := gw_of (tbp3 (List.mem_of_getElem? (i := 11) (by decide +kernel))) rfl
theorem se_X4_X4_isAccess {c0 : Cond} : (.selects RX4 yX4_isAccess yX4_isAccess : Cond) ∈ c0 :: GW := gw_of (tbp3 (List.mem_of_getElem? (i := 12) (by decide +kernel))) rfl
theorem se_X4_X4_billFor {c0 : Cond} : (.selects RX4 yX4_billFor yX4_billFor : Cond) ∈ c0 :: GW := gw_of (tbp3 (List.mem_of_getElem? (i := 13) (by decide +kernel))) rfl
