/-! The law's walk: a call of the class, the reference's, their answers side by side. -/
section LAW0
variable {p : Program} {l : Launch} {e : Env} {s : State} {m : MethodId} {below : List Frame} {meth : Method} {c : Code} {D : va_G} {g : Nat → ClassId} {ev : Nat × Nat × (Nat → Nat)} {A : Nat → Nat → Nat} {h o od b L i cells slots : Nat} {xs : Nat → Int32} {X : XS} {M : MdS} {a : Nat → Nat} {f : Nat → Int64} {fd : Nat → UInt64} {H : Heap} {locs : List Loc} {ls : Array Slot} {Q : State → Prop} {w0 : Cond}
set_option maxHeartbeats 4000000 in
set_option maxRecDepth 100000 in
theorem lw_addName (C : CallFix p m c cL_law 9 s #[Value.ref b] (w0 :: GW) RL) (hst : l.stackTraces = false) (hE : qE D g ev (fun q => s.heap.size ≤ q) s s.heap) (hN : qNC s) (hX0 : va_X b L xs s s.heap) (hbl : b < s.heap.size) (hL : L ≤ 2048) (hi : i + 4 ≤ L) (hX : XOK ev.1 X) (hR : Rel (pX X) M) (hlen : (sE (pX X)).length < 512) (hf : cells + 11 ≤ 603072 ∧ slots + 6174 ≤ 7219306)
    (hl : lv_has ls 9 (lwl b A h o od i)) (hW : qW D g (fun q => s.heap.size ≤ q) s.heap s (lwW g A h o od X M a f fd) H locs)
    (kk : LK p l e s m b below meth c D g ev A h o od i X cells slots Q) : W p l e room_1 s m #[Value.ref b] below meth c H locs cells slots Q (F0 m 180 ls []) := by
  have hl : lv_has ls 9 [(5, .int (nI i)), (0, .ref b), (1, .ref (A 0 0)), (2, .ref h), (3, .ref o), (4, .ref od)] := hl
  have hW : qW D g (fun q => s.heap.size ≤ q) s.heap s (oL g o f ++ (oD g od fd ++ (wX g A X ++ wM g h a M))) H locs := hW
  have hM := hR.1
  have hac : mAc M < 512 := Nat.lt_of_le_of_lt hR.ac512 hlen
  have hfull : (xE X).length < 512 := by rw [← evs_len]; exact hlen
  have hL3 := hR.l3
  refine lv_aload_n C.1 C.2.1 dL_law_180 rfl (lv_at hl 2 rfl) ?_
  refine lv_aload_n C.1 C.2.1 dL_law_181 rfl (lv_at hl 1 rfl) ?_
  refine lv_iload C.1 C.2.1 dL_law_182 (lv_at hl 0 rfl) ?_
  refine lv_iconst (v := nI 1) C.1 C.2.1 dL_law_184 (by decide) ?_
  refine q_iadd C dL_law_185 ?_
  refine q_sld C hX0 hbl hW (k := i + 1) (by omega) (by omega) dL_law_186 ?_
  refine lv_aload_n C.1 C.2.1 dL_law_187 rfl (lv_at hl 4 rfl) ?_
  refine qh_callS (rest := []) C hE hN (c_L_addName l hst D g ev A X hX (xs (i + 1)) o f _) (gw_S ml_L_121 sm_L_addName ini_L cw_L_addName rfl) rfl rfl rfl hd_L_addName ⟨(Nat.le_of_ble_eq_true rfl), (Nat.le_of_ble_eq_true rfl)⟩ hW pm_hL (fun (u : XS × (Nat → Int64)) => (oL g o u.2 ++ (oD g od fd ++ (wX g A u.1 ++ wM g h a M)))) (fun _ => pm_hL) hl.1 rfl (Nat.le_of_ble_eq_true rfl) ⟨by show cells + 1 ≤ 603072; omega, by show slots + 6 ≤ 7219306; omega⟩ dL_law_188 (fun r u H locs hp hW => ?_)
  obtain ⟨hu, k, rr, hk4, rfl, hF, hans⟩ := hp
  obtain ⟨s1, s2, s3⟩ := sim_add hR (xs (i + 1))
  rw [hF] at s1 s2 s3
  have hk : mTh (mAdd M (xs (i + 1))).2 = k := s1
  have hR2 : Rel (pX u.1) (mAdd M (xs (i + 1))).2 := s3
  have hlen2 : (sE (pX u.1)).length ≤ (sE (pX X)).length + 1 := by have h9 := len_add (pX X) (xs (i + 1)); rw [hF] at h9; exact h9
  have hA : k = 0 → u.2 0 = (nI (mAdd M (xs (i + 1))).1).toInt64 := fun z => by rw [hans z, s2 z]
  refine lv_istore (lv' := [(6, .int (nI k)), (5, .int (nI i)), (0, .ref b), (1, .ref (A 0 0)), (2, .ref h), (3, .ref o), (4, .ref od)]) C.1 C.2.1 dL_law_191 hl (by decide) rfl (fun ls hl => ?_)
  refine lv_aload_n C.1 C.2.1 dL_law_193 rfl (lv_at hl 4 rfl) ?_
  refine lv_aload_n C.1 C.2.1 dL_law_194 rfl (lv_at hl 2 rfl) ?_
  refine lv_iload C.1 C.2.1 dL_law_195 (lv_at hl 1 rfl) ?_
  refine lv_iconst (v := nI 1) C.1 C.2.1 dL_law_197 (by decide) ?_
  refine q_iadd C dL_law_198 ?_
  refine q_sld C hX0 hbl hW (k := i + 1) (by omega) (by omega) dL_law_199 ?_
  refine q_callVi (rest := []) C (c_X4_addName l D g h a M (xs (i + 1)) hM _) (gw_V ml_L_126 im_X4_addName se_X4_X4_addName ini_X4 cd_X4_addName rfl) rfl rfl rfl hd_X4_addName ⟨(Nat.le_of_ble_eq_true rfl), (Nat.le_of_ble_eq_true rfl)⟩ hW pm_l3 (fun (u2 : MdS) => (oL g o u.2 ++ (oD g od fd ++ (wX g A u.1 ++ wM g h a u2)))) (fun _ => pm_l3) rfl rfl hl.1 rfl (Nat.le_of_ble_eq_true rfl) ⟨by show _ + 0 ≤ 603072; omega, by show _ + 0 ≤ 7219306; omega⟩ dL_law_200 (fun r2 u2 H locs hp hW => ?_)
  obtain ⟨rfl, rfl⟩ := hp
  have hW : qW D g (fun q => s.heap.size ≤ q) s.heap s (oL g o u.2 ++ (oD g od fd ++ (wX g A u.1 ++ wM g h a (mAdd M (xs (i + 1))).2))) H _ := hW
  refine lv_istore (lv' := [(7, .int (nI (mAdd M (xs (i + 1))).1)), (6, .int (nI k)), (5, .int (nI i)), (0, .ref b), (1, .ref (A 0 0)), (2, .ref h), (3, .ref o), (4, .ref od)]) C.1 C.2.1 dL_law_203 hl (by decide) rfl (fun ls hl => ?_)
  refine lv_aload_n C.1 C.2.1 dL_law_205 rfl (lv_at hl 5 rfl) ?_
  refine q_callVi (rest := []) C (c_X4_thrown l D g h a ((mAdd M (xs (i + 1))).2) (hR2.1) _) (gw_V ml_L_127 im_X4_thrown se_X4_X4_thrown ini_X4 cd_X4_thrown rfl) rfl rfl rfl hd_X4_thrown ⟨(Nat.le_of_ble_eq_true rfl), (Nat.le_of_ble_eq_true rfl)⟩ hW pm_l3 (fun u2 => (oL g o u.2 ++ (oD g od fd ++ (wX g A u.1 ++ wM g h a u2)))) (fun _ => pm_l3) rfl rfl hl.1 rfl (Nat.le_of_ble_eq_true rfl) ⟨by show _ ≤ 603072; omega, by show _ ≤ 7219306; omega⟩ dL_law_206 (fun r2 u2 H locs hp hW => ?_)
  obtain ⟨rfl, rfl⟩ := hp
  refine lv_iload C.1 C.2.1 dL_law_209 (lv_at hl 1 rfl) ?_
  refine lv_icmp_eq (tgt := 216) C.1 C.2.1 dL_law_211 (by decide) (fun _ => ?_) (fun z9 => absurd (by rw [hk]) z9)
  refine lv_iload C.1 C.2.1 dL_law_216 (lv_at hl 1 rfl) ?_
  refine lv_if_ne (tgt := 233) C.1 C.2.1 dL_law_218 (by decide) (fun _ => ?_) (fun z0 => ?_)
  · refine lv_goto (tgt := 1943) C.1 C.2.1 dL_law_233 (by decide) ?_
    refine W.widen (k := cells + 11) (n := slots + 6174) (by omega) (by omega) ?_
    exact kk u.1 _ a u.2 fd _ _ ls hu hR2 hlen2 (lv_sub hl [2, 3, 4, 5, 6, 7] rfl) hW
  have z0 : k = 0 := nI_k0 hk4 z0
  have hA := hA z0
  refine lv_aload_n C.1 C.2.1 dL_law_221 rfl (lv_at hl 6 rfl) ?_
  refine lv_iconst (v := nI 0) C.1 C.2.1 dL_law_222 (by decide) ?_
  refine q_lald (f := u.2) C hW 0 rfl (k := 0) (by decide) (by decide) dL_law_223 ?_
  refine lv_iload C.1 C.2.1 dL_law_224 (lv_at hl 0 rfl) ?_
  refine lv_i2l (v := (nI (mAdd M (xs (i + 1))).1).toInt64) C.1 C.2.1 dL_law_226 rfl ?_
  refine W.lcmp C.1 C.2.1 dL_law_227 ?_
  refine lv_if_eq (tgt := 233) C.1 C.2.1 dL_law_228 (by decide) (fun _ => ?_) (fun z9 => absurd (by rw [hA]; exact lcmp_self _) z9)
  refine lv_goto (tgt := 1943) C.1 C.2.1 dL_law_233 (by decide) ?_
  refine W.widen (k := cells + 11) (n := slots + 6174) (by omega) (by omega) ?_
  exact kk u.1 _ a u.2 fd _ _ ls hu hR2 hlen2 (lv_sub hl [2, 3, 4, 5, 6, 7] rfl) hW

set_option maxHeartbeats 4000000 in
set_option maxRecDepth 100000 in
theorem lw_place (C : CallFix p m c cL_law 9 s #[Value.ref b] (w0 :: GW) RL) (hst : l.stackTraces = false) (hE : qE D g ev (fun q => s.heap.size ≤ q) s s.heap) (hN : qNC s) (hX0 : va_X b L xs s s.heap) (hbl : b < s.heap.size) (hL : L ≤ 2048) (hi : i + 4 ≤ L) (hX : XOK ev.1 X) (hR : Rel (pX X) M) (hlen : (sE (pX X)).length < 512) (hf : cells + 11 ≤ 603072 ∧ slots + 6174 ≤ 7219306)
    (hl : lv_has ls 9 (lwl b A h o od i)) (hW : qW D g (fun q => s.heap.size ≤ q) s.heap s (lwW g A h o od X M a f fd) H locs)
    (kk : LK p l e s m b below meth c D g ev A h o od i X cells slots Q) : W p l e room_1 s m #[Value.ref b] below meth c H locs cells slots Q (F0 m 236 ls []) := by
  have hl : lv_has ls 9 [(5, .int (nI i)), (0, .ref b), (1, .ref (A 0 0)), (2, .ref h), (3, .ref o), (4, .ref od)] := hl
  have hW : qW D g (fun q => s.heap.size ≤ q) s.heap s (oL g o f ++ (oD g od fd ++ (wX g A X ++ wM g h a M))) H locs := hW
  have hM := hR.1
  have hac : mAc M < 512 := Nat.lt_of_le_of_lt hR.ac512 hlen
  have hfull : (xE X).length < 512 := by rw [← evs_len]; exact hlen
  have hL3 := hR.l3
  refine lv_aload_n C.1 C.2.1 dL_law_236 rfl (lv_at hl 2 rfl) ?_
  refine lv_aload_n C.1 C.2.1 dL_law_237 rfl (lv_at hl 1 rfl) ?_
  refine lv_iload C.1 C.2.1 dL_law_238 (lv_at hl 0 rfl) ?_
  refine lv_iconst (v := nI 1) C.1 C.2.1 dL_law_240 (by decide) ?_
  refine q_iadd C dL_law_241 ?_
  refine q_sld C hX0 hbl hW (k := i + 1) (by omega) (by omega) dL_law_242 ?_
  refine lv_aload_n C.1 C.2.1 dL_law_243 rfl (lv_at hl 1 rfl) ?_
  refine lv_iload C.1 C.2.1 dL_law_244 (lv_at hl 0 rfl) ?_
  refine lv_iconst (v := nI 2) C.1 C.2.1 dL_law_246 (by decide) ?_
  refine q_iadd C dL_law_247 ?_
  refine q_sld C hX0 hbl hW (k := i + 2) (by omega) (by omega) dL_law_248 ?_
  refine lv_aload_n C.1 C.2.1 dL_law_249 rfl (lv_at hl 4 rfl) ?_
  refine qh_callS (rest := []) C hE hN (c_L_place l hst D g ev A X hX (xs (i + 1)) (xs (i + 2)) o f _) (gw_S ml_L_130 sm_L_place ini_L cw_L_place rfl) rfl rfl rfl hd_L_place ⟨(Nat.le_of_ble_eq_true rfl), (Nat.le_of_ble_eq_true rfl)⟩ hW pm_hL (fun (u : XS × (Nat → Int64)) => (oL g o u.2 ++ (oD g od fd ++ (wX g A u.1 ++ wM g h a M)))) (fun _ => pm_hL) hl.1 rfl (Nat.le_of_ble_eq_true rfl) ⟨by show cells + 2 ≤ 603072; omega, by show slots + 12 ≤ 7219306; omega⟩ dL_law_250 (fun r u H locs hp hW => ?_)
  obtain ⟨hu, k, rr, hk4, rfl, hF, hans⟩ := hp
  obtain ⟨s1, s2, s3⟩ := sim_place hR (xs (i + 1)) (xs (i + 2))
  rw [hF] at s1 s2 s3
  have hk : mTh (mPlace M (xs (i + 1)) (xs (i + 2))).2 = k := s1
  have hR2 : Rel (pX u.1) (mPlace M (xs (i + 1)) (xs (i + 2))).2 := s3
  have hlen2 : (sE (pX u.1)).length ≤ (sE (pX X)).length + 1 := by have h9 := len_place (pX X) (xs (i + 1)) (xs (i + 2)); rw [hF] at h9; exact h9
  have hA : k = 0 → u.2 0 = (nI (mPlace M (xs (i + 1)) (xs (i + 2))).1).toInt64 := fun z => by rw [hans z, s2 z]
  refine lv_istore (lv' := [(6, .int (nI k)), (5, .int (nI i)), (0, .ref b), (1, .ref (A 0 0)), (2, .ref h), (3, .ref o), (4, .ref od)]) C.1 C.2.1 dL_law_253 hl (by decide) rfl (fun ls hl => ?_)
  refine lv_aload_n C.1 C.2.1 dL_law_255 rfl (lv_at hl 4 rfl) ?_
  refine lv_aload_n C.1 C.2.1 dL_law_256 rfl (lv_at hl 2 rfl) ?_
  refine lv_iload C.1 C.2.1 dL_law_257 (lv_at hl 1 rfl) ?_
  refine lv_iconst (v := nI 1) C.1 C.2.1 dL_law_259 (by decide) ?_
  refine q_iadd C dL_law_260 ?_
  refine q_sld C hX0 hbl hW (k := i + 1) (by omega) (by omega) dL_law_261 ?_
  refine lv_aload_n C.1 C.2.1 dL_law_262 rfl (lv_at hl 2 rfl) ?_
  refine lv_iload C.1 C.2.1 dL_law_263 (lv_at hl 1 rfl) ?_
  refine lv_iconst (v := nI 2) C.1 C.2.1 dL_law_265 (by decide) ?_
  refine q_iadd C dL_law_266 ?_
  refine q_sld C hX0 hbl hW (k := i + 2) (by omega) (by omega) dL_law_267 ?_
  refine q_callVi (rest := []) C (c_X4_place l D g h a M (xs (i + 1)) (xs (i + 2)) hM _) (gw_V ml_L_133 im_X4_place se_X4_X4_place ini_X4 cd_X4_place rfl) rfl rfl rfl hd_X4_place ⟨(Nat.le_of_ble_eq_true rfl), (Nat.le_of_ble_eq_true rfl)⟩ hW pm_l3 (fun (u2 : MdS) => (oL g o u.2 ++ (oD g od fd ++ (wX g A u.1 ++ wM g h a u2)))) (fun _ => pm_l3) rfl rfl hl.1 rfl (Nat.le_of_ble_eq_true rfl) ⟨by show _ + 0 ≤ 603072; omega, by show _ + 0 ≤ 7219306; omega⟩ dL_law_268 (fun r2 u2 H locs hp hW => ?_)
  obtain ⟨rfl, rfl⟩ := hp
  have hW : qW D g (fun q => s.heap.size ≤ q) s.heap s (oL g o u.2 ++ (oD g od fd ++ (wX g A u.1 ++ wM g h a (mPlace M (xs (i + 1)) (xs (i + 2))).2))) H _ := hW
  refine lv_istore (lv' := [(7, .int (nI (mPlace M (xs (i + 1)) (xs (i + 2))).1)), (6, .int (nI k)), (5, .int (nI i)), (0, .ref b), (1, .ref (A 0 0)), (2, .ref h), (3, .ref o), (4, .ref od)]) C.1 C.2.1 dL_law_271 hl (by decide) rfl (fun ls hl => ?_)
  refine lv_aload_n C.1 C.2.1 dL_law_273 rfl (lv_at hl 5 rfl) ?_
  refine q_callVi (rest := []) C (c_X4_thrown l D g h a ((mPlace M (xs (i + 1)) (xs (i + 2))).2) (hR2.1) _) (gw_V ml_L_127 im_X4_thrown se_X4_X4_thrown ini_X4 cd_X4_thrown rfl) rfl rfl rfl hd_X4_thrown ⟨(Nat.le_of_ble_eq_true rfl), (Nat.le_of_ble_eq_true rfl)⟩ hW pm_l3 (fun u2 => (oL g o u.2 ++ (oD g od fd ++ (wX g A u.1 ++ wM g h a u2)))) (fun _ => pm_l3) rfl rfl hl.1 rfl (Nat.le_of_ble_eq_true rfl) ⟨by show _ ≤ 603072; omega, by show _ ≤ 7219306; omega⟩ dL_law_274 (fun r2 u2 H locs hp hW => ?_)
  obtain ⟨rfl, rfl⟩ := hp
  refine lv_iload C.1 C.2.1 dL_law_277 (lv_at hl 1 rfl) ?_
  refine lv_icmp_eq (tgt := 284) C.1 C.2.1 dL_law_279 (by decide) (fun _ => ?_) (fun z9 => absurd (by rw [hk]) z9)
  refine lv_iload C.1 C.2.1 dL_law_284 (lv_at hl 1 rfl) ?_
  refine lv_if_ne (tgt := 301) C.1 C.2.1 dL_law_286 (by decide) (fun _ => ?_) (fun z0 => ?_)
  · refine lv_goto (tgt := 1943) C.1 C.2.1 dL_law_301 (by decide) ?_
    refine W.widen (k := cells + 11) (n := slots + 6174) (by omega) (by omega) ?_
    exact kk u.1 _ a u.2 fd _ _ ls hu hR2 hlen2 (lv_sub hl [2, 3, 4, 5, 6, 7] rfl) hW
  have z0 : k = 0 := nI_k0 hk4 z0
  have hA := hA z0
  refine lv_aload_n C.1 C.2.1 dL_law_289 rfl (lv_at hl 6 rfl) ?_
  refine lv_iconst (v := nI 0) C.1 C.2.1 dL_law_290 (by decide) ?_
  refine q_lald (f := u.2) C hW 0 rfl (k := 0) (by decide) (by decide) dL_law_291 ?_
  refine lv_iload C.1 C.2.1 dL_law_292 (lv_at hl 0 rfl) ?_
  refine lv_i2l (v := (nI (mPlace M (xs (i + 1)) (xs (i + 2))).1).toInt64) C.1 C.2.1 dL_law_294 rfl ?_
  refine W.lcmp C.1 C.2.1 dL_law_295 ?_
  refine lv_if_eq (tgt := 301) C.1 C.2.1 dL_law_296 (by decide) (fun _ => ?_) (fun z9 => absurd (by rw [hA]; exact lcmp_self _) z9)
  refine lv_goto (tgt := 1943) C.1 C.2.1 dL_law_301 (by decide) ?_
  refine W.widen (k := cells + 11) (n := slots + 6174) (by omega) (by omega) ?_
  exact kk u.1 _ a u.2 fd _ _ ls hu hR2 hlen2 (lv_sub hl [2, 3, 4, 5, 6, 7] rfl) hW

set_option maxHeartbeats 4000000 in
set_option maxRecDepth 100000 in
theorem lw_link (C : CallFix p m c cL_law 9 s #[Value.ref b] (w0 :: GW) RL) (hst : l.stackTraces = false) (hE : qE D g ev (fun q => s.heap.size ≤ q) s s.heap) (hN : qNC s) (hX0 : va_X b L xs s s.heap) (hbl : b < s.heap.size) (hL : L ≤ 2048) (hi : i + 4 ≤ L) (hX : XOK ev.1 X) (hR : Rel (pX X) M) (hlen : (sE (pX X)).length < 512) (hf : cells + 11 ≤ 603072 ∧ slots + 6174 ≤ 7219306)
    (hl : lv_has ls 9 (lwl b A h o od i)) (hW : qW D g (fun q => s.heap.size ≤ q) s.heap s (lwW g A h o od X M a f fd) H locs)
    (kk : LK p l e s m b below meth c D g ev A h o od i X cells slots Q) : W p l e room_1 s m #[Value.ref b] below meth c H locs cells slots Q (F0 m 304 ls []) := by
  have hl : lv_has ls 9 [(5, .int (nI i)), (0, .ref b), (1, .ref (A 0 0)), (2, .ref h), (3, .ref o), (4, .ref od)] := hl
  have hW : qW D g (fun q => s.heap.size ≤ q) s.heap s (oL g o f ++ (oD g od fd ++ (wX g A X ++ wM g h a M))) H locs := hW
  have hM := hR.1
  have hac : mAc M < 512 := Nat.lt_of_le_of_lt hR.ac512 hlen
  have hfull : (xE X).length < 512 := by rw [← evs_len]; exact hlen
  have hL3 := hR.l3
  refine lv_aload_n C.1 C.2.1 dL_law_304 rfl (lv_at hl 2 rfl) ?_
  refine lv_aload_n C.1 C.2.1 dL_law_305 rfl (lv_at hl 1 rfl) ?_
  refine lv_iload C.1 C.2.1 dL_law_306 (lv_at hl 0 rfl) ?_
  refine lv_iconst (v := nI 1) C.1 C.2.1 dL_law_308 (by decide) ?_
  refine q_iadd C dL_law_309 ?_
  refine q_sld C hX0 hbl hW (k := i + 1) (by omega) (by omega) dL_law_310 ?_
  refine lv_aload_n C.1 C.2.1 dL_law_311 rfl (lv_at hl 4 rfl) ?_
  refine qh_callS (rest := []) C hE hN (c_L_link l hst D g ev A X hX (xs (i + 1)) o f _) (gw_S ml_L_134 sm_L_link ini_L cw_L_link rfl) rfl rfl rfl hd_L_link ⟨(Nat.le_of_ble_eq_true rfl), (Nat.le_of_ble_eq_true rfl)⟩ hW pm_hL (fun (u : XS × (Nat → Int64)) => (oL g o u.2 ++ (oD g od fd ++ (wX g A u.1 ++ wM g h a M)))) (fun _ => pm_hL) hl.1 rfl (Nat.le_of_ble_eq_true rfl) ⟨by show cells + 1 ≤ 603072; omega, by show slots + 6 ≤ 7219306; omega⟩ dL_law_312 (fun r u H locs hp hW => ?_)
  obtain ⟨hu, k, rr, hk4, rfl, hF, hans⟩ := hp
  obtain ⟨s1, s2, s3⟩ := sim_link hR (xs (i + 1))
  rw [hF] at s1 s2 s3
  have hk : mTh (mLink M (xs (i + 1))).2 = k := s1
  have hR2 : Rel (pX u.1) (mLink M (xs (i + 1))).2 := s3
  have hlen2 : (sE (pX u.1)).length ≤ (sE (pX X)).length + 1 := by have h9 := len_link (pX X) (xs (i + 1)); rw [hF] at h9; exact h9
  have hA : k = 0 → u.2 0 = (nI (mLink M (xs (i + 1))).1).toInt64 := fun z => by rw [hans z, s2 z]
  refine lv_istore (lv' := [(6, .int (nI k)), (5, .int (nI i)), (0, .ref b), (1, .ref (A 0 0)), (2, .ref h), (3, .ref o), (4, .ref od)]) C.1 C.2.1 dL_law_315 hl (by decide) rfl (fun ls hl => ?_)
  refine lv_aload_n C.1 C.2.1 dL_law_317 rfl (lv_at hl 4 rfl) ?_
  refine lv_aload_n C.1 C.2.1 dL_law_318 rfl (lv_at hl 2 rfl) ?_
  refine lv_iload C.1 C.2.1 dL_law_319 (lv_at hl 1 rfl) ?_
  refine lv_iconst (v := nI 1) C.1 C.2.1 dL_law_321 (by decide) ?_
  refine q_iadd C dL_law_322 ?_
  refine q_sld C hX0 hbl hW (k := i + 1) (by omega) (by omega) dL_law_323 ?_
  refine q_callVi (rest := []) C (c_X4_link l D g h a M (xs (i + 1)) hM _) (gw_V ml_L_136 im_X4_link se_X4_X4_link ini_X4 cd_X4_link rfl) rfl rfl rfl hd_X4_link ⟨(Nat.le_of_ble_eq_true rfl), (Nat.le_of_ble_eq_true rfl)⟩ hW pm_l3 (fun (u2 : MdS) => (oL g o u.2 ++ (oD g od fd ++ (wX g A u.1 ++ wM g h a u2)))) (fun _ => pm_l3) rfl rfl hl.1 rfl (Nat.le_of_ble_eq_true rfl) ⟨by show _ + 1 ≤ 603072; omega, by show _ + 12 ≤ 7219306; omega⟩ dL_law_324 (fun r2 u2 H locs hp hW => ?_)
  obtain ⟨rfl, rfl⟩ := hp
  have hW : qW D g (fun q => s.heap.size ≤ q) s.heap s (oL g o u.2 ++ (oD g od fd ++ (wX g A u.1 ++ wM g h a (mLink M (xs (i + 1))).2))) H _ := hW
  refine lv_istore (lv' := [(7, .int (nI (mLink M (xs (i + 1))).1)), (6, .int (nI k)), (5, .int (nI i)), (0, .ref b), (1, .ref (A 0 0)), (2, .ref h), (3, .ref o), (4, .ref od)]) C.1 C.2.1 dL_law_327 hl (by decide) rfl (fun ls hl => ?_)
  refine lv_aload_n C.1 C.2.1 dL_law_329 rfl (lv_at hl 5 rfl) ?_
  refine q_callVi (rest := []) C (c_X4_thrown l D g h a ((mLink M (xs (i + 1))).2) (hR2.1) _) (gw_V ml_L_127 im_X4_thrown se_X4_X4_thrown ini_X4 cd_X4_thrown rfl) rfl rfl rfl hd_X4_thrown ⟨(Nat.le_of_ble_eq_true rfl), (Nat.le_of_ble_eq_true rfl)⟩ hW pm_l3 (fun u2 => (oL g o u.2 ++ (oD g od fd ++ (wX g A u.1 ++ wM g h a u2)))) (fun _ => pm_l3) rfl rfl hl.1 rfl (Nat.le_of_ble_eq_true rfl) ⟨by show _ ≤ 603072; omega, by show _ ≤ 7219306; omega⟩ dL_law_330 (fun r2 u2 H locs hp hW => ?_)
  obtain ⟨rfl, rfl⟩ := hp
  refine lv_iload C.1 C.2.1 dL_law_333 (lv_at hl 1 rfl) ?_
  refine lv_icmp_eq (tgt := 340) C.1 C.2.1 dL_law_335 (by decide) (fun _ => ?_) (fun z9 => absurd (by rw [hk]) z9)
  refine lv_iload C.1 C.2.1 dL_law_340 (lv_at hl 1 rfl) ?_
  refine lv_if_ne (tgt := 357) C.1 C.2.1 dL_law_342 (by decide) (fun _ => ?_) (fun z0 => ?_)
  · refine lv_goto (tgt := 1943) C.1 C.2.1 dL_law_357 (by decide) ?_
    refine W.widen (k := cells + 11) (n := slots + 6174) (by omega) (by omega) ?_
    exact kk u.1 _ a u.2 fd _ _ ls hu hR2 hlen2 (lv_sub hl [2, 3, 4, 5, 6, 7] rfl) hW
  have z0 : k = 0 := nI_k0 hk4 z0
  have hA := hA z0
  refine lv_aload_n C.1 C.2.1 dL_law_345 rfl (lv_at hl 6 rfl) ?_
  refine lv_iconst (v := nI 0) C.1 C.2.1 dL_law_346 (by decide) ?_
  refine q_lald (f := u.2) C hW 0 rfl (k := 0) (by decide) (by decide) dL_law_347 ?_
  refine lv_iload C.1 C.2.1 dL_law_348 (lv_at hl 0 rfl) ?_
  refine lv_i2l (v := (nI (mLink M (xs (i + 1))).1).toInt64) C.1 C.2.1 dL_law_350 rfl ?_
  refine W.lcmp C.1 C.2.1 dL_law_351 ?_
  refine lv_if_eq (tgt := 357) C.1 C.2.1 dL_law_352 (by decide) (fun _ => ?_) (fun z9 => absurd (by rw [hA]; exact lcmp_self _) z9)
  refine lv_goto (tgt := 1943) C.1 C.2.1 dL_law_357 (by decide) ?_
  refine W.widen (k := cells + 11) (n := slots + 6174) (by omega) (by omega) ?_
  exact kk u.1 _ a u.2 fd _ _ ls hu hR2 hlen2 (lv_sub hl [2, 3, 4, 5, 6, 7] rfl) hW

set_option maxHeartbeats 4000000 in
set_option maxRecDepth 100000 in
theorem lw_take (C : CallFix p m c cL_law 9 s #[Value.ref b] (w0 :: GW) RL) (hst : l.stackTraces = false) (hE : qE D g ev (fun q => s.heap.size ≤ q) s s.heap) (hN : qNC s) (hX0 : va_X b L xs s s.heap) (hbl : b < s.heap.size) (hL : L ≤ 2048) (hi : i + 4 ≤ L) (hX : XOK ev.1 X) (hR : Rel (pX X) M) (hlen : (sE (pX X)).length < 512) (hf : cells + 11 ≤ 603072 ∧ slots + 6174 ≤ 7219306)
    (hl : lv_has ls 9 (lwl b A h o od i)) (hW : qW D g (fun q => s.heap.size ≤ q) s.heap s (lwW g A h o od X M a f fd) H locs)
    (kk : LK p l e s m b below meth c D g ev A h o od i X cells slots Q) : W p l e room_1 s m #[Value.ref b] below meth c H locs cells slots Q (F0 m 360 ls []) := by
  have hl : lv_has ls 9 [(5, .int (nI i)), (0, .ref b), (1, .ref (A 0 0)), (2, .ref h), (3, .ref o), (4, .ref od)] := hl
  have hW : qW D g (fun q => s.heap.size ≤ q) s.heap s (oL g o f ++ (oD g od fd ++ (wX g A X ++ wM g h a M))) H locs := hW
  have hM := hR.1
  have hac : mAc M < 512 := Nat.lt_of_le_of_lt hR.ac512 hlen
  have hfull : (xE X).length < 512 := by rw [← evs_len]; exact hlen
  have hL3 := hR.l3
  refine lv_aload_n C.1 C.2.1 dL_law_360 rfl (lv_at hl 2 rfl) ?_
  refine lv_aload_n C.1 C.2.1 dL_law_361 rfl (lv_at hl 1 rfl) ?_
  refine lv_iload C.1 C.2.1 dL_law_362 (lv_at hl 0 rfl) ?_
  refine lv_iconst (v := nI 1) C.1 C.2.1 dL_law_364 (by decide) ?_
  refine q_iadd C dL_law_365 ?_
  refine q_sld C hX0 hbl hW (k := i + 1) (by omega) (by omega) dL_law_366 ?_
  refine lv_aload_n C.1 C.2.1 dL_law_367 rfl (lv_at hl 4 rfl) ?_
  refine qh_callS (rest := []) C hE hN (c_L_take l hst D g ev A X hX (xs (i + 1)) o f _) (gw_S ml_L_137 sm_L_take ini_L cw_L_take rfl) rfl rfl rfl hd_L_take ⟨(Nat.le_of_ble_eq_true rfl), (Nat.le_of_ble_eq_true rfl)⟩ hW pm_hL (fun (u : XS × (Nat → Int64)) => (oL g o u.2 ++ (oD g od fd ++ (wX g A u.1 ++ wM g h a M)))) (fun _ => pm_hL) hl.1 rfl (Nat.le_of_ble_eq_true rfl) ⟨by show cells + 2 ≤ 603072; omega, by show slots + 12 ≤ 7219306; omega⟩ dL_law_368 (fun r u H locs hp hW => ?_)
  obtain ⟨hu, k, rr, hk4, rfl, hF, hans⟩ := hp
  obtain ⟨s1, s2, s3⟩ := sim_take hR (xs (i + 1))
  rw [hF] at s1 s2 s3
  have hk : mTh (mTake M (xs (i + 1))).2 = k := s1
  have hR2 : Rel (pX u.1) (mTake M (xs (i + 1))).2 := s3
  have hlen2 : (sE (pX u.1)).length ≤ (sE (pX X)).length + 1 := by have h9 := len_take (pX X) (xs (i + 1)); rw [hF] at h9; exact h9
  have hA : k = 0 → u.2 0 = (nI (mTake M (xs (i + 1))).1).toInt64 := fun z => by rw [hans z, s2 z]
  refine lv_istore (lv' := [(6, .int (nI k)), (5, .int (nI i)), (0, .ref b), (1, .ref (A 0 0)), (2, .ref h), (3, .ref o), (4, .ref od)]) C.1 C.2.1 dL_law_371 hl (by decide) rfl (fun ls hl => ?_)
  refine lv_aload_n C.1 C.2.1 dL_law_373 rfl (lv_at hl 4 rfl) ?_
  refine lv_aload_n C.1 C.2.1 dL_law_374 rfl (lv_at hl 2 rfl) ?_
  refine lv_iload C.1 C.2.1 dL_law_375 (lv_at hl 1 rfl) ?_
  refine lv_iconst (v := nI 1) C.1 C.2.1 dL_law_377 (by decide) ?_
  refine q_iadd C dL_law_378 ?_
  refine q_sld C hX0 hbl hW (k := i + 1) (by omega) (by omega) dL_law_379 ?_
  refine q_callVi (rest := []) C (c_X4_take l D g h a M (xs (i + 1)) hM _) (gw_V ml_L_139 im_X4_take se_X4_X4_take ini_X4 cd_X4_take rfl) rfl rfl rfl hd_X4_take ⟨(Nat.le_of_ble_eq_true rfl), (Nat.le_of_ble_eq_true rfl)⟩ hW pm_l3 (fun (u2 : MdS) => (oL g o u.2 ++ (oD g od fd ++ (wX g A u.1 ++ wM g h a u2)))) (fun _ => pm_l3) rfl rfl hl.1 rfl (Nat.le_of_ble_eq_true rfl) ⟨by show _ + 0 ≤ 603072; omega, by show _ + 0 ≤ 7219306; omega⟩ dL_law_380 (fun r2 u2 H locs hp hW => ?_)
  obtain ⟨rfl, rfl⟩ := hp
  have hW : qW D g (fun q => s.heap.size ≤ q) s.heap s (oL g o u.2 ++ (oD g od fd ++ (wX g A u.1 ++ wM g h a (mTake M (xs (i + 1))).2))) H _ := hW
  refine lv_istore (lv' := [(7, .int (nI (mTake M (xs (i + 1))).1)), (6, .int (nI k)), (5, .int (nI i)), (0, .ref b), (1, .ref (A 0 0)), (2, .ref h), (3, .ref o), (4, .ref od)]) C.1 C.2.1 dL_law_383 hl (by decide) rfl (fun ls hl => ?_)
  refine lv_aload_n C.1 C.2.1 dL_law_385 rfl (lv_at hl 5 rfl) ?_
  refine q_callVi (rest := []) C (c_X4_thrown l D g h a ((mTake M (xs (i + 1))).2) (hR2.1) _) (gw_V ml_L_127 im_X4_thrown se_X4_X4_thrown ini_X4 cd_X4_thrown rfl) rfl rfl rfl hd_X4_thrown ⟨(Nat.le_of_ble_eq_true rfl), (Nat.le_of_ble_eq_true rfl)⟩ hW pm_l3 (fun u2 => (oL g o u.2 ++ (oD g od fd ++ (wX g A u.1 ++ wM g h a u2)))) (fun _ => pm_l3) rfl rfl hl.1 rfl (Nat.le_of_ble_eq_true rfl) ⟨by show _ ≤ 603072; omega, by show _ ≤ 7219306; omega⟩ dL_law_386 (fun r2 u2 H locs hp hW => ?_)
  obtain ⟨rfl, rfl⟩ := hp
  refine lv_iload C.1 C.2.1 dL_law_389 (lv_at hl 1 rfl) ?_
  refine lv_icmp_eq (tgt := 396) C.1 C.2.1 dL_law_391 (by decide) (fun _ => ?_) (fun z9 => absurd (by rw [hk]) z9)
  refine lv_iload C.1 C.2.1 dL_law_396 (lv_at hl 1 rfl) ?_
  refine lv_if_ne (tgt := 413) C.1 C.2.1 dL_law_398 (by decide) (fun _ => ?_) (fun z0 => ?_)
  · refine lv_goto (tgt := 1943) C.1 C.2.1 dL_law_413 (by decide) ?_
    refine W.widen (k := cells + 11) (n := slots + 6174) (by omega) (by omega) ?_
    exact kk u.1 _ a u.2 fd _ _ ls hu hR2 hlen2 (lv_sub hl [2, 3, 4, 5, 6, 7] rfl) hW
  have z0 : k = 0 := nI_k0 hk4 z0
  have hA := hA z0
  refine lv_aload_n C.1 C.2.1 dL_law_401 rfl (lv_at hl 6 rfl) ?_
  refine lv_iconst (v := nI 0) C.1 C.2.1 dL_law_402 (by decide) ?_
  refine q_lald (f := u.2) C hW 0 rfl (k := 0) (by decide) (by decide) dL_law_403 ?_
  refine lv_iload C.1 C.2.1 dL_law_404 (lv_at hl 0 rfl) ?_
  refine lv_i2l (v := (nI (mTake M (xs (i + 1))).1).toInt64) C.1 C.2.1 dL_law_406 rfl ?_
  refine W.lcmp C.1 C.2.1 dL_law_407 ?_
  refine lv_if_eq (tgt := 413) C.1 C.2.1 dL_law_408 (by decide) (fun _ => ?_) (fun z9 => absurd (by rw [hA]; exact lcmp_self _) z9)
  refine lv_goto (tgt := 1943) C.1 C.2.1 dL_law_413 (by decide) ?_
  refine W.widen (k := cells + 11) (n := slots + 6174) (by omega) (by omega) ?_
  exact kk u.1 _ a u.2 fd _ _ ls hu hR2 hlen2 (lv_sub hl [2, 3, 4, 5, 6, 7] rfl) hW

set_option maxHeartbeats 4000000 in
set_option maxRecDepth 100000 in
theorem lw_addressOf (C : CallFix p m c cL_law 9 s #[Value.ref b] (w0 :: GW) RL) (hst : l.stackTraces = false) (hE : qE D g ev (fun q => s.heap.size ≤ q) s s.heap) (hN : qNC s) (hX0 : va_X b L xs s s.heap) (hbl : b < s.heap.size) (hL : L ≤ 2048) (hi : i + 4 ≤ L) (hX : XOK ev.1 X) (hR : Rel (pX X) M) (hlen : (sE (pX X)).length < 512) (hf : cells + 11 ≤ 603072 ∧ slots + 6174 ≤ 7219306)
    (hl : lv_has ls 9 (lwl b A h o od i)) (hW : qW D g (fun q => s.heap.size ≤ q) s.heap s (lwW g A h o od X M a f fd) H locs)
    (kk : LK p l e s m b below meth c D g ev A h o od i X cells slots Q) : W p l e room_1 s m #[Value.ref b] below meth c H locs cells slots Q (F0 m 416 ls []) := by
  have hl : lv_has ls 9 [(5, .int (nI i)), (0, .ref b), (1, .ref (A 0 0)), (2, .ref h), (3, .ref o), (4, .ref od)] := hl
  have hW : qW D g (fun q => s.heap.size ≤ q) s.heap s (oL g o f ++ (oD g od fd ++ (wX g A X ++ wM g h a M))) H locs := hW
  have hM := hR.1
  have hac : mAc M < 512 := Nat.lt_of_le_of_lt hR.ac512 hlen
  have hfull : (xE X).length < 512 := by rw [← evs_len]; exact hlen
  have hL3 := hR.l3
  refine lv_aload_n C.1 C.2.1 dL_law_416 rfl (lv_at hl 2 rfl) ?_
  refine lv_aload_n C.1 C.2.1 dL_law_417 rfl (lv_at hl 1 rfl) ?_
  refine lv_iload C.1 C.2.1 dL_law_418 (lv_at hl 0 rfl) ?_
  refine lv_iconst (v := nI 1) C.1 C.2.1 dL_law_420 (by decide) ?_
  refine q_iadd C dL_law_421 ?_
  refine q_sld C hX0 hbl hW (k := i + 1) (by omega) (by omega) dL_law_422 ?_
  refine lv_aload_n C.1 C.2.1 dL_law_423 rfl (lv_at hl 1 rfl) ?_
  refine lv_iload C.1 C.2.1 dL_law_424 (lv_at hl 0 rfl) ?_
  refine lv_iconst (v := nI 2) C.1 C.2.1 dL_law_426 (by decide) ?_
  refine q_iadd C dL_law_427 ?_
  refine q_sld C hX0 hbl hW (k := i + 2) (by omega) (by omega) dL_law_428 ?_
  refine lv_aload_n C.1 C.2.1 dL_law_429 rfl (lv_at hl 4 rfl) ?_
  refine qh_callS (rest := []) C hE hN (c_L_addressOf l hst D g ev A X hX (xs (i + 1)) (xs (i + 2)) o f _) (gw_S ml_L_140 sm_L_addressOf ini_L cw_L_addressOf rfl) rfl rfl rfl hd_L_addressOf ⟨(Nat.le_of_ble_eq_true rfl), (Nat.le_of_ble_eq_true rfl)⟩ hW pm_hL (fun (u : XS × (Nat → Int64)) => (oL g o u.2 ++ (oD g od fd ++ (wX g A u.1 ++ wM g h a M)))) (fun _ => pm_hL) hl.1 rfl (Nat.le_of_ble_eq_true rfl) ⟨by show cells + 3 ≤ 603072; omega, by show slots + 18 ≤ 7219306; omega⟩ dL_law_430 (fun r u H locs hp hW => ?_)
  obtain ⟨hu, k, rr, hk4, rfl, hF, hans⟩ := hp
  obtain ⟨s1, s2, s3⟩ := sim_addr hR (xs (i + 1)) (xs (i + 2))
  have hF1 := congrArg Prod.fst hF
  have hF2 := congrArg (fun q => q.2.1) hF
  have hF3 : pX X = pX u.1 := congrArg (fun q => q.2.2) hF
  have hk : mTh (mAddr M (xs (i + 1)) (xs (i + 2))).2 = k := s1.trans hF1
  have hR2 : Rel (pX u.1) (mAddr M (xs (i + 1)) (xs (i + 2))).2 := by rw [← hF3]; exact s3
  have hlen2 : (sE (pX u.1)).length ≤ (sE (pX X)).length + 1 := by rw [← hF3]; omega
  have hA : k = 0 → u.2 0 = (nI (mAddr M (xs (i + 1)) (xs (i + 2))).1).toInt64 := fun z => by rw [hans z, s2 (hF1.trans z), show (xAddr (pX X) (xs (i + 1)) (xs (i + 2))).2 = rr from hF2]
  refine lv_istore (lv' := [(6, .int (nI k)), (5, .int (nI i)), (0, .ref b), (1, .ref (A 0 0)), (2, .ref h), (3, .ref o), (4, .ref od)]) C.1 C.2.1 dL_law_433 hl (by decide) rfl (fun ls hl => ?_)
  refine lv_aload_n C.1 C.2.1 dL_law_435 rfl (lv_at hl 4 rfl) ?_
  refine lv_aload_n C.1 C.2.1 dL_law_436 rfl (lv_at hl 2 rfl) ?_
  refine lv_iload C.1 C.2.1 dL_law_437 (lv_at hl 1 rfl) ?_
  refine lv_iconst (v := nI 1) C.1 C.2.1 dL_law_439 (by decide) ?_
  refine q_iadd C dL_law_440 ?_
  refine q_sld C hX0 hbl hW (k := i + 1) (by omega) (by omega) dL_law_441 ?_
  refine lv_aload_n C.1 C.2.1 dL_law_442 rfl (lv_at hl 2 rfl) ?_
  refine lv_iload C.1 C.2.1 dL_law_443 (lv_at hl 1 rfl) ?_
  refine lv_iconst (v := nI 2) C.1 C.2.1 dL_law_445 (by decide) ?_
  refine q_iadd C dL_law_446 ?_
  refine q_sld C hX0 hbl hW (k := i + 2) (by omega) (by omega) dL_law_447 ?_
  refine q_callVi (rest := []) C (c_X4_addressOf l D g h a M (xs (i + 1)) (xs (i + 2)) hM _) (gw_V ml_L_142 im_X4_addressOf se_X4_X4_addressOf ini_X4 cd_X4_addressOf rfl) rfl rfl rfl hd_X4_addressOf ⟨(Nat.le_of_ble_eq_true rfl), (Nat.le_of_ble_eq_true rfl)⟩ hW pm_l3 (fun (u2 : MdS) => (oL g o u.2 ++ (oD g od fd ++ (wX g A u.1 ++ wM g h a u2)))) (fun _ => pm_l3) rfl rfl hl.1 rfl (Nat.le_of_ble_eq_true rfl) ⟨by show _ + 0 ≤ 603072; omega, by show _ + 0 ≤ 7219306; omega⟩ dL_law_448 (fun r2 u2 H locs hp hW => ?_)
  obtain ⟨rfl, rfl⟩ := hp
  have hW : qW D g (fun q => s.heap.size ≤ q) s.heap s (oL g o u.2 ++ (oD g od fd ++ (wX g A u.1 ++ wM g h a (mAddr M (xs (i + 1)) (xs (i + 2))).2))) H _ := hW
  refine lv_istore (lv' := [(7, .int (nI (mAddr M (xs (i + 1)) (xs (i + 2))).1)), (6, .int (nI k)), (5, .int (nI i)), (0, .ref b), (1, .ref (A 0 0)), (2, .ref h), (3, .ref o), (4, .ref od)]) C.1 C.2.1 dL_law_451 hl (by decide) rfl (fun ls hl => ?_)
  refine lv_aload_n C.1 C.2.1 dL_law_453 rfl (lv_at hl 5 rfl) ?_
  refine q_callVi (rest := []) C (c_X4_thrown l D g h a ((mAddr M (xs (i + 1)) (xs (i + 2))).2) (hR2.1) _) (gw_V ml_L_127 im_X4_thrown se_X4_X4_thrown ini_X4 cd_X4_thrown rfl) rfl rfl rfl hd_X4_thrown ⟨(Nat.le_of_ble_eq_true rfl), (Nat.le_of_ble_eq_true rfl)⟩ hW pm_l3 (fun u2 => (oL g o u.2 ++ (oD g od fd ++ (wX g A u.1 ++ wM g h a u2)))) (fun _ => pm_l3) rfl rfl hl.1 rfl (Nat.le_of_ble_eq_true rfl) ⟨by show _ ≤ 603072; omega, by show _ ≤ 7219306; omega⟩ dL_law_454 (fun r2 u2 H locs hp hW => ?_)
  obtain ⟨rfl, rfl⟩ := hp
  refine lv_iload C.1 C.2.1 dL_law_457 (lv_at hl 1 rfl) ?_
  refine lv_icmp_eq (tgt := 464) C.1 C.2.1 dL_law_459 (by decide) (fun _ => ?_) (fun z9 => absurd (by rw [hk]) z9)
  refine lv_iload C.1 C.2.1 dL_law_464 (lv_at hl 1 rfl) ?_
  refine lv_if_ne (tgt := 481) C.1 C.2.1 dL_law_466 (by decide) (fun _ => ?_) (fun z0 => ?_)
  · refine lv_goto (tgt := 1943) C.1 C.2.1 dL_law_481 (by decide) ?_
    refine W.widen (k := cells + 11) (n := slots + 6174) (by omega) (by omega) ?_
    exact kk u.1 _ a u.2 fd _ _ ls hu hR2 hlen2 (lv_sub hl [2, 3, 4, 5, 6, 7] rfl) hW
  have z0 : k = 0 := nI_k0 hk4 z0
  have hA := hA z0
  refine lv_aload_n C.1 C.2.1 dL_law_469 rfl (lv_at hl 6 rfl) ?_
  refine lv_iconst (v := nI 0) C.1 C.2.1 dL_law_470 (by decide) ?_
  refine q_lald (f := u.2) C hW 0 rfl (k := 0) (by decide) (by decide) dL_law_471 ?_
  refine lv_iload C.1 C.2.1 dL_law_472 (lv_at hl 0 rfl) ?_
  refine lv_i2l (v := (nI (mAddr M (xs (i + 1)) (xs (i + 2))).1).toInt64) C.1 C.2.1 dL_law_474 rfl ?_
  refine W.lcmp C.1 C.2.1 dL_law_475 ?_
  refine lv_if_eq (tgt := 481) C.1 C.2.1 dL_law_476 (by decide) (fun _ => ?_) (fun z9 => absurd (by rw [hA]; exact lcmp_self _) z9)
  refine lv_goto (tgt := 1943) C.1 C.2.1 dL_law_481 (by decide) ?_
  refine W.widen (k := cells + 11) (n := slots + 6174) (by omega) (by omega) ?_
  exact kk u.1 _ a u.2 fd _ _ ls hu hR2 hlen2 (lv_sub hl [2, 3, 4, 5, 6, 7] rfl) hW

set_option maxHeartbeats 4000000 in
set_option maxRecDepth 100000 in
theorem lw_nameAt (C : CallFix p m c cL_law 9 s #[Value.ref b] (w0 :: GW) RL) (hst : l.stackTraces = false) (hE : qE D g ev (fun q => s.heap.size ≤ q) s s.heap) (hN : qNC s) (hX0 : va_X b L xs s s.heap) (hbl : b < s.heap.size) (hL : L ≤ 2048) (hi : i + 4 ≤ L) (hX : XOK ev.1 X) (hR : Rel (pX X) M) (hlen : (sE (pX X)).length < 512) (hf : cells + 11 ≤ 603072 ∧ slots + 6174 ≤ 7219306)
    (hl : lv_has ls 9 (lwl b A h o od i)) (hW : qW D g (fun q => s.heap.size ≤ q) s.heap s (lwW g A h o od X M a f fd) H locs)
    (kk : LK p l e s m b below meth c D g ev A h o od i X cells slots Q) : W p l e room_1 s m #[Value.ref b] below meth c H locs cells slots Q (F0 m 484 ls []) := by
  have hl : lv_has ls 9 [(5, .int (nI i)), (0, .ref b), (1, .ref (A 0 0)), (2, .ref h), (3, .ref o), (4, .ref od)] := hl
  have hW : qW D g (fun q => s.heap.size ≤ q) s.heap s (oL g o f ++ (oD g od fd ++ (wX g A X ++ wM g h a M))) H locs := hW
  have hM := hR.1
  have hac : mAc M < 512 := Nat.lt_of_le_of_lt hR.ac512 hlen
  have hfull : (xE X).length < 512 := by rw [← evs_len]; exact hlen
  have hL3 := hR.l3
  refine lv_aload_n C.1 C.2.1 dL_law_484 rfl (lv_at hl 2 rfl) ?_
  refine lv_aload_n C.1 C.2.1 dL_law_485 rfl (lv_at hl 1 rfl) ?_
  refine lv_iload C.1 C.2.1 dL_law_486 (lv_at hl 0 rfl) ?_
  refine lv_iconst (v := nI 1) C.1 C.2.1 dL_law_488 (by decide) ?_
  refine q_iadd C dL_law_489 ?_
  refine q_sld C hX0 hbl hW (k := i + 1) (by omega) (by omega) dL_law_490 ?_
  refine lv_aload_n C.1 C.2.1 dL_law_491 rfl (lv_at hl 4 rfl) ?_
  refine qh_callS (rest := []) C hE hN (c_L_nameAt l hst D g ev A X hX (xs (i + 1)) o f _) (gw_S ml_L_143 sm_L_nameAt ini_L cw_L_nameAt rfl) rfl rfl rfl hd_L_nameAt ⟨(Nat.le_of_ble_eq_true rfl), (Nat.le_of_ble_eq_true rfl)⟩ hW pm_hL (fun (u : XS × (Nat → Int64)) => (oL g o u.2 ++ (oD g od fd ++ (wX g A u.1 ++ wM g h a M)))) (fun _ => pm_hL) hl.1 rfl (Nat.le_of_ble_eq_true rfl) ⟨by show cells + 1 ≤ 603072; omega, by show slots + 6 ≤ 7219306; omega⟩ dL_law_492 (fun r u H locs hp hW => ?_)
  obtain ⟨hu, k, rr, hk4, rfl, hF, hans⟩ := hp
  obtain ⟨s1, s2, s3⟩ := sim_nameAt hR (xs (i + 1))
  have hF1 := congrArg Prod.fst hF
  have hF2 := congrArg (fun q => q.2.1) hF
  have hF3 : pX X = pX u.1 := congrArg (fun q => q.2.2) hF
  have hk : mTh (mNameAt M (xs (i + 1))).2 = k := s1.trans hF1
  have hR2 : Rel (pX u.1) (mNameAt M (xs (i + 1))).2 := by rw [← hF3]; exact s3
  have hlen2 : (sE (pX u.1)).length ≤ (sE (pX X)).length + 1 := by rw [← hF3]; omega
  have hA : k = 0 → u.2 0 = (nI (mNameAt M (xs (i + 1))).1).toInt64 := fun z => by rw [hans z, s2 (hF1.trans z), show (xNameAt (pX X) (xs (i + 1))).2 = rr from hF2]
  refine lv_istore (lv' := [(6, .int (nI k)), (5, .int (nI i)), (0, .ref b), (1, .ref (A 0 0)), (2, .ref h), (3, .ref o), (4, .ref od)]) C.1 C.2.1 dL_law_495 hl (by decide) rfl (fun ls hl => ?_)
  refine lv_aload_n C.1 C.2.1 dL_law_497 rfl (lv_at hl 4 rfl) ?_
  refine lv_aload_n C.1 C.2.1 dL_law_498 rfl (lv_at hl 2 rfl) ?_
  refine lv_iload C.1 C.2.1 dL_law_499 (lv_at hl 1 rfl) ?_
  refine lv_iconst (v := nI 1) C.1 C.2.1 dL_law_501 (by decide) ?_
  refine q_iadd C dL_law_502 ?_
  refine q_sld C hX0 hbl hW (k := i + 1) (by omega) (by omega) dL_law_503 ?_
  refine q_callVi (rest := []) C (c_X4_nameAt l D g h a M (xs (i + 1)) hM _) (gw_V ml_L_145 im_X4_nameAt se_X4_X4_nameAt ini_X4 cd_X4_nameAt rfl) rfl rfl rfl hd_X4_nameAt ⟨(Nat.le_of_ble_eq_true rfl), (Nat.le_of_ble_eq_true rfl)⟩ hW pm_l3 (fun (u2 : MdS) => (oL g o u.2 ++ (oD g od fd ++ (wX g A u.1 ++ wM g h a u2)))) (fun _ => pm_l3) rfl rfl hl.1 rfl (Nat.le_of_ble_eq_true rfl) ⟨by show _ + 0 ≤ 603072; omega, by show _ + 0 ≤ 7219306; omega⟩ dL_law_504 (fun r2 u2 H locs hp hW => ?_)
  obtain ⟨rfl, rfl⟩ := hp
  have hW : qW D g (fun q => s.heap.size ≤ q) s.heap s (oL g o u.2 ++ (oD g od fd ++ (wX g A u.1 ++ wM g h a (mNameAt M (xs (i + 1))).2))) H _ := hW
  refine lv_istore (lv' := [(7, .int (nI (mNameAt M (xs (i + 1))).1)), (6, .int (nI k)), (5, .int (nI i)), (0, .ref b), (1, .ref (A 0 0)), (2, .ref h), (3, .ref o), (4, .ref od)]) C.1 C.2.1 dL_law_507 hl (by decide) rfl (fun ls hl => ?_)
  refine lv_aload_n C.1 C.2.1 dL_law_509 rfl (lv_at hl 5 rfl) ?_
  refine q_callVi (rest := []) C (c_X4_thrown l D g h a ((mNameAt M (xs (i + 1))).2) (hR2.1) _) (gw_V ml_L_127 im_X4_thrown se_X4_X4_thrown ini_X4 cd_X4_thrown rfl) rfl rfl rfl hd_X4_thrown ⟨(Nat.le_of_ble_eq_true rfl), (Nat.le_of_ble_eq_true rfl)⟩ hW pm_l3 (fun u2 => (oL g o u.2 ++ (oD g od fd ++ (wX g A u.1 ++ wM g h a u2)))) (fun _ => pm_l3) rfl rfl hl.1 rfl (Nat.le_of_ble_eq_true rfl) ⟨by show _ ≤ 603072; omega, by show _ ≤ 7219306; omega⟩ dL_law_510 (fun r2 u2 H locs hp hW => ?_)
  obtain ⟨rfl, rfl⟩ := hp
  refine lv_iload C.1 C.2.1 dL_law_513 (lv_at hl 1 rfl) ?_
  refine lv_icmp_eq (tgt := 520) C.1 C.2.1 dL_law_515 (by decide) (fun _ => ?_) (fun z9 => absurd (by rw [hk]) z9)
  refine lv_iload C.1 C.2.1 dL_law_520 (lv_at hl 1 rfl) ?_
  refine lv_if_ne (tgt := 537) C.1 C.2.1 dL_law_522 (by decide) (fun _ => ?_) (fun z0 => ?_)
  · refine lv_goto (tgt := 1943) C.1 C.2.1 dL_law_537 (by decide) ?_
    refine W.widen (k := cells + 11) (n := slots + 6174) (by omega) (by omega) ?_
    exact kk u.1 _ a u.2 fd _ _ ls hu hR2 hlen2 (lv_sub hl [2, 3, 4, 5, 6, 7] rfl) hW
  have z0 : k = 0 := nI_k0 hk4 z0
  have hA := hA z0
  refine lv_aload_n C.1 C.2.1 dL_law_525 rfl (lv_at hl 6 rfl) ?_
  refine lv_iconst (v := nI 0) C.1 C.2.1 dL_law_526 (by decide) ?_
  refine q_lald (f := u.2) C hW 0 rfl (k := 0) (by decide) (by decide) dL_law_527 ?_
  refine lv_iload C.1 C.2.1 dL_law_528 (lv_at hl 0 rfl) ?_
  refine lv_i2l (v := (nI (mNameAt M (xs (i + 1))).1).toInt64) C.1 C.2.1 dL_law_530 rfl ?_
  refine W.lcmp C.1 C.2.1 dL_law_531 ?_
  refine lv_if_eq (tgt := 537) C.1 C.2.1 dL_law_532 (by decide) (fun _ => ?_) (fun z9 => absurd (by rw [hA]; exact lcmp_self _) z9)
  refine lv_goto (tgt := 1943) C.1 C.2.1 dL_law_537 (by decide) ?_
  refine W.widen (k := cells + 11) (n := slots + 6174) (by omega) (by omega) ?_
  exact kk u.1 _ a u.2 fd _ _ ls hu hR2 hlen2 (lv_sub hl [2, 3, 4, 5, 6, 7] rfl) hW
end LAW0
