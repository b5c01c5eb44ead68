/-! THE LAW'S CASES: the call is refused. -/
section K2
variable {pg : Program} {l : Launch} {e : Env} {s : State} {m : MethodId} {args : Array Value} {below : List Frame} {meth : Method} {c : Code} {H : Heap} {locs : List Loc} {cells slots : Nat} {Q : State → Prop}
variable {ls : Array Slot} {G : zG} {b L : Nat} {xs : Nat → Int32} {xa : Nat} {xr : Nat → Nat} {ma : Nat} {mr : Nat → Nat} {oa : Nat} {σ : zS} {t : Nat} {v : Int64} {ix : Nat}
set_option maxHeartbeats 4000000 in
set_option maxRecDepth 100000 in
theorem k1_addPerson (C : lC pg l s m args c G b L xs) (hP : lP G s xa xr ma mr oa σ t v H locs) (hc : cells + 32 ≤ 698866) (hs : slots + 256 ≤ 6999506) (hl : lv_has ls 9 [(4, .int (iI (ix : Int))), (0, .ref b), (1, .ref xa), (2, .ref ma), (3, .ref oa)]) (hix : ix + 3 < L) (B : Nat) (z : Int) (e1 : xs (ix + 1) = iI z) (hI : zI B σ) (hzb : -2147483648 ≤ z ∧ z < 2147483648) (hbad : z < 0 ∨ 9 < z) (kk : lK pg l e s m args below meth c G b xa xr ma mr oa ix cells slots Q σ) : W pg l e room_1 s m args below meth c H locs cells slots Q (F0 m 200 ls []) := by
  obtain ⟨hx, hb, hml, hown, hts, hfl, hK, hE0, hN, hX, hbl, hL⟩ := C
  obtain ⟨hP, hD, hS⟩ := hP
  have hP : va_P G.1 vwCl (V3 G xa xr ma mr oa σ σ t v) H := hP
  have hD : va_D (nA s.heap.size) (V3 G xa xr ma mr oa σ σ t v) := hD
  refine lv_aload_n hx hb dL_law_200 rfl (lv_at hl 2 rfl) ?_
  refine lv_aload_n hx hb dL_law_201 rfl (lv_at hl 1 rfl) ?_
  refine lv_iload hx hb dL_law_202 (lv_at hl 0 rfl) ?_
  refine lv_iconst (v := iI 1) hx hb dL_law_204 rfl ?_
  refine z_iadd hx hb dL_law_205 ?_
  refine z_sld hx hb hX hbl hS (ix + 1) (by omega) (by omega) hL e1 dL_law_206 ?_
  refine lv_aload_n hx hb dL_law_207 rfl (lv_at hl 4 rfl) ?_
  refine zc_f (vx_runSW (As := [.ref xa, .int (iI z), .ref oa]) (rest := []) ⟨hx, hb, hml, hown, hts⟩ (f1_L_addPerson l hfl G xa xr oa _ B σ z hI hzb hbad) (vx_cwSW 3 hts gL_law_L_addPerson rfl rfl rfl (by decide +kernel) ⟨Nat.le_of_ble_eq_true rfl, Nat.le_of_ble_eq_true rfl⟩) (preWF hK (b_x hP) (j_E hE0 hS) hN) rfl rfl hl.1 rfl (lv_room (Nat.le_of_ble_eq_true rfl)) dL_law_208 ⟨by show _ ≤ 698866; omega, by show _ ≤ 6999506; omega⟩) hS (fun H locs hS hkk => ?_)
  have hP := j_0 hP hkk
  refine lv_istore (lv' := [(5, .int (iI 1)), (4, .int (iI (ix : Int))), (0, .ref b), (1, .ref xa), (2, .ref ma), (3, .ref oa)]) hx hb dL_law_211 hl (by decide) rfl (fun ls hl => ?_)
  refine lv_aload_n hx hb dL_law_213 rfl (lv_at hl 4 rfl) ?_
  refine lv_aload_n hx hb dL_law_214 rfl (lv_at hl 2 rfl) ?_
  refine lv_iload hx hb dL_law_215 (lv_at hl 1 rfl) ?_
  refine lv_iconst (v := iI 1) hx hb dL_law_217 rfl ?_
  refine z_iadd hx hb dL_law_218 ?_
  refine z_sld hx hb hX hbl hS (ix + 1) (by omega) (by omega) hL e1 dL_law_219 ?_
  refine zc_wi (va_runV (As := [.int (iI z)]) (rest := []) ⟨hx, hb, hml, hown, hts⟩ (e1_X1_addPerson l G ma mr _ B σ t z hI hzb hbad) (cwV 1 hts gL_law_X1_addPerson rfl rfl rfl (by decide +kernel) ⟨Nat.le_of_ble_eq_true rfl, Nat.le_of_ble_eq_true rfl⟩) (preWM hK (b_m hP) (d_m hD)) rfl rfl hl.1 rfl (lv_room (Nat.le_of_ble_eq_true rfl)) dL_law_220 ⟨by show _ ≤ 698866; omega, by show _ ≤ 6999506; omega⟩) hS (a_m hD hS) (fun H locs hP1 hS _ hkk => ?_)
  have hP := j_m hP hD hP1 hkk
  have hD := d_mv hD σ σ 1 (v)
  refine lv_istore (lv' := [(6, .int (iI 0)), (5, .int (iI 1)), (4, .int (iI (ix : Int))), (0, .ref b), (1, .ref xa), (2, .ref ma), (3, .ref oa)]) hx hb dL_law_223 hl (by decide) rfl (fun ls hl => ?_)
  refine lv_aload_n hx hb dL_law_225 rfl (lv_at hl 5 rfl) ?_
  refine zc_wi (va_runV (As := []) (rest := []) ⟨hx, hb, hml, hown, hts⟩ (c_X1_thrown l G ma mr _ σ 1) (cwV 0 hts gL_law_X1_thrown rfl rfl rfl (by decide +kernel) ⟨Nat.le_of_ble_eq_true rfl, Nat.le_of_ble_eq_true rfl⟩) (preWM hK (b_m hP) (d_m hD)) rfl rfl hl.1 rfl (lv_room (Nat.le_of_ble_eq_true rfl)) dL_law_226 ⟨by show _ ≤ 698866; omega, by show _ ≤ 6999506; omega⟩) hS (a_m hD hS) (fun H locs hP1 hS _ hkk => ?_)
  have hP := j_m hP hD hP1 hkk
  refine lv_iload hx hb dL_law_229 (lv_at hl 1 rfl) ?_
  refine z_icmp_eq (tgt := 236) hx hb dL_law_231 (by decide) (by omega) (by omega) (fun _ => ?_) (fun h => absurd (by omega) h)
  refine lv_iload hx hb dL_law_236 (lv_at hl 1 rfl) ?_
  refine z_if_ne (tgt := 253) hx hb dL_law_238 (by decide) (by decide) (fun _ => ?_) (fun h => absurd h (by decide))
  refine lv_goto (tgt := 2000) hx hb dL_law_253 (by decide) ?_
  exact kk _ _ _ _ _ _ _ ⟨hP, hD, hS⟩ (by omega) (by omega) (lv_sub hl [2, 3, 4, 5, 6] rfl)
set_option maxHeartbeats 4000000 in
set_option maxRecDepth 100000 in
theorem k2_addPerson (C : lC pg l s m args c G b L xs) (hP : lP G s xa xr ma mr oa σ t v H locs) (hc : cells + 32 ≤ 698866) (hs : slots + 256 ≤ 6999506) (hl : lv_has ls 9 [(4, .int (iI (ix : Int))), (0, .ref b), (1, .ref xa), (2, .ref ma), (3, .ref oa)]) (hix : ix + 3 < L) (B : Nat) (z : Int) (e1 : xs (ix + 1) = iI z) (hI : zI B σ) (hz : 0 ≤ z ∧ z ≤ 9) (hfull : σ.1 0 = 6) (kk : lK pg l e s m args below meth c G b xa xr ma mr oa ix cells slots Q σ) : W pg l e room_1 s m args below meth c H locs cells slots Q (F0 m 200 ls []) := by
  obtain ⟨hx, hb, hml, hown, hts, hfl, hK, hE0, hN, hX, hbl, hL⟩ := C
  obtain ⟨hP, hD, hS⟩ := hP
  have hP : va_P G.1 vwCl (V3 G xa xr ma mr oa σ σ t v) H := hP
  have hD : va_D (nA s.heap.size) (V3 G xa xr ma mr oa σ σ t v) := hD
  refine lv_aload_n hx hb dL_law_200 rfl (lv_at hl 2 rfl) ?_
  refine lv_aload_n hx hb dL_law_201 rfl (lv_at hl 1 rfl) ?_
  refine lv_iload hx hb dL_law_202 (lv_at hl 0 rfl) ?_
  refine lv_iconst (v := iI 1) hx hb dL_law_204 rfl ?_
  refine z_iadd hx hb dL_law_205 ?_
  refine z_sld hx hb hX hbl hS (ix + 1) (by omega) (by omega) hL e1 dL_law_206 ?_
  refine lv_aload_n hx hb dL_law_207 rfl (lv_at hl 4 rfl) ?_
  refine zc_f (vx_runSW (As := [.ref xa, .int (iI z), .ref oa]) (rest := []) ⟨hx, hb, hml, hown, hts⟩ (f2_L_addPerson l hfl G xa xr oa _ B σ z hI hz hfull) (vx_cwSW 3 hts gL_law_L_addPerson rfl rfl rfl (by decide +kernel) ⟨Nat.le_of_ble_eq_true rfl, Nat.le_of_ble_eq_true rfl⟩) (preWF hK (b_x hP) (j_E hE0 hS) hN) rfl rfl hl.1 rfl (lv_room (Nat.le_of_ble_eq_true rfl)) dL_law_208 ⟨by show _ ≤ 698866; omega, by show _ ≤ 6999506; omega⟩) hS (fun H locs hS hkk => ?_)
  have hP := j_0 hP hkk
  refine lv_istore (lv' := [(5, .int (iI 2)), (4, .int (iI (ix : Int))), (0, .ref b), (1, .ref xa), (2, .ref ma), (3, .ref oa)]) hx hb dL_law_211 hl (by decide) rfl (fun ls hl => ?_)
  refine lv_aload_n hx hb dL_law_213 rfl (lv_at hl 4 rfl) ?_
  refine lv_aload_n hx hb dL_law_214 rfl (lv_at hl 2 rfl) ?_
  refine lv_iload hx hb dL_law_215 (lv_at hl 1 rfl) ?_
  refine lv_iconst (v := iI 1) hx hb dL_law_217 rfl ?_
  refine z_iadd hx hb dL_law_218 ?_
  refine z_sld hx hb hX hbl hS (ix + 1) (by omega) (by omega) hL e1 dL_law_219 ?_
  refine zc_wi (va_runV (As := [.int (iI z)]) (rest := []) ⟨hx, hb, hml, hown, hts⟩ (e2_X1_addPerson l G ma mr _ B σ t z hI hz hfull) (cwV 1 hts gL_law_X1_addPerson rfl rfl rfl (by decide +kernel) ⟨Nat.le_of_ble_eq_true rfl, Nat.le_of_ble_eq_true rfl⟩) (preWM hK (b_m hP) (d_m hD)) rfl rfl hl.1 rfl (lv_room (Nat.le_of_ble_eq_true rfl)) dL_law_220 ⟨by show _ ≤ 698866; omega, by show _ ≤ 6999506; omega⟩) hS (a_m hD hS) (fun H locs hP1 hS _ hkk => ?_)
  have hP := j_m hP hD hP1 hkk
  have hD := d_mv hD σ σ 2 (v)
  refine lv_istore (lv' := [(6, .int (iI 0)), (5, .int (iI 2)), (4, .int (iI (ix : Int))), (0, .ref b), (1, .ref xa), (2, .ref ma), (3, .ref oa)]) hx hb dL_law_223 hl (by decide) rfl (fun ls hl => ?_)
  refine lv_aload_n hx hb dL_law_225 rfl (lv_at hl 5 rfl) ?_
  refine zc_wi (va_runV (As := []) (rest := []) ⟨hx, hb, hml, hown, hts⟩ (c_X1_thrown l G ma mr _ σ 2) (cwV 0 hts gL_law_X1_thrown rfl rfl rfl (by decide +kernel) ⟨Nat.le_of_ble_eq_true rfl, Nat.le_of_ble_eq_true rfl⟩) (preWM hK (b_m hP) (d_m hD)) rfl rfl hl.1 rfl (lv_room (Nat.le_of_ble_eq_true rfl)) dL_law_226 ⟨by show _ ≤ 698866; omega, by show _ ≤ 6999506; omega⟩) hS (a_m hD hS) (fun H locs hP1 hS _ hkk => ?_)
  have hP := j_m hP hD hP1 hkk
  refine lv_iload hx hb dL_law_229 (lv_at hl 1 rfl) ?_
  refine z_icmp_eq (tgt := 236) hx hb dL_law_231 (by decide) (by omega) (by omega) (fun _ => ?_) (fun h => absurd (by omega) h)
  refine lv_iload hx hb dL_law_236 (lv_at hl 1 rfl) ?_
  refine z_if_ne (tgt := 253) hx hb dL_law_238 (by decide) (by decide) (fun _ => ?_) (fun h => absurd h (by decide))
  refine lv_goto (tgt := 2000) hx hb dL_law_253 (by decide) ?_
  exact kk _ _ _ _ _ _ _ ⟨hP, hD, hS⟩ (by omega) (by omega) (lv_sub hl [2, 3, 4, 5, 6] rfl)
set_option maxHeartbeats 4000000 in
set_option maxRecDepth 100000 in
theorem k1_enter (C : lC pg l s m args c G b L xs) (hP : lP G s xa xr ma mr oa σ t v H locs) (hc : cells + 32 ≤ 698866) (hs : slots + 256 ≤ 6999506) (hl : lv_has ls 9 [(4, .int (iI (ix : Int))), (0, .ref b), (1, .ref xa), (2, .ref ma), (3, .ref oa)]) (hix : ix + 3 < L) (B : Nat) (z : Int) (e1 : xs (ix + 1) = iI z) (hI : zI B σ) (hzb : -2147483648 ≤ z ∧ z < 2147483648) (hbad : z < 0 ∨ (σ.1 0 : Int) ≤ z) (kk : lK pg l e s m args below meth c G b xa xr ma mr oa ix cells slots Q σ) : W pg l e room_1 s m args below meth c H locs cells slots Q (F0 m 256 ls []) := by
  obtain ⟨hx, hb, hml, hown, hts, hfl, hK, hE0, hN, hX, hbl, hL⟩ := C
  obtain ⟨hP, hD, hS⟩ := hP
  have hP : va_P G.1 vwCl (V3 G xa xr ma mr oa σ σ t v) H := hP
  have hD : va_D (nA s.heap.size) (V3 G xa xr ma mr oa σ σ t v) := hD
  refine lv_aload_n hx hb dL_law_256 rfl (lv_at hl 2 rfl) ?_
  refine lv_aload_n hx hb dL_law_257 rfl (lv_at hl 1 rfl) ?_
  refine lv_iload hx hb dL_law_258 (lv_at hl 0 rfl) ?_
  refine lv_iconst (v := iI 1) hx hb dL_law_260 rfl ?_
  refine z_iadd hx hb dL_law_261 ?_
  refine z_sld hx hb hX hbl hS (ix + 1) (by omega) (by omega) hL e1 dL_law_262 ?_
  refine lv_aload_n hx hb dL_law_263 rfl (lv_at hl 4 rfl) ?_
  refine zc_f (vx_runSW (As := [.ref xa, .int (iI z), .ref oa]) (rest := []) ⟨hx, hb, hml, hown, hts⟩ (f1_L_enter l hfl G xa xr oa _ B σ z hI hzb hbad) (vx_cwSW 3 hts gL_law_L_enter rfl rfl rfl (by decide +kernel) ⟨Nat.le_of_ble_eq_true rfl, Nat.le_of_ble_eq_true rfl⟩) (preWF hK (b_x hP) (j_E hE0 hS) hN) rfl rfl hl.1 rfl (lv_room (Nat.le_of_ble_eq_true rfl)) dL_law_264 ⟨by show _ ≤ 698866; omega, by show _ ≤ 6999506; omega⟩) hS (fun H locs hS hkk => ?_)
  have hP := j_0 hP hkk
  refine lv_istore (lv' := [(5, .int (iI 1)), (4, .int (iI (ix : Int))), (0, .ref b), (1, .ref xa), (2, .ref ma), (3, .ref oa)]) hx hb dL_law_267 hl (by decide) rfl (fun ls hl => ?_)
  refine lv_aload_n hx hb dL_law_269 rfl (lv_at hl 4 rfl) ?_
  refine lv_aload_n hx hb dL_law_270 rfl (lv_at hl 2 rfl) ?_
  refine lv_iload hx hb dL_law_271 (lv_at hl 1 rfl) ?_
  refine lv_iconst (v := iI 1) hx hb dL_law_273 rfl ?_
  refine z_iadd hx hb dL_law_274 ?_
  refine z_sld hx hb hX hbl hS (ix + 1) (by omega) (by omega) hL e1 dL_law_275 ?_
  refine zc_wi (va_runV (As := [.int (iI z)]) (rest := []) ⟨hx, hb, hml, hown, hts⟩ (e1_X1_enter l G ma mr _ B σ t z hI hzb hbad) (cwV 1 hts gL_law_X1_enter rfl rfl rfl (by decide +kernel) ⟨Nat.le_of_ble_eq_true rfl, Nat.le_of_ble_eq_true rfl⟩) (preWM hK (b_m hP) (d_m hD)) rfl rfl hl.1 rfl (lv_room (Nat.le_of_ble_eq_true rfl)) dL_law_276 ⟨by show _ ≤ 698866; omega, by show _ ≤ 6999506; omega⟩) hS (a_m hD hS) (fun H locs hP1 hS _ hkk => ?_)
  have hP := j_m hP hD hP1 hkk
  have hD := d_mv hD σ σ 1 (v)
  refine lv_istore (lv' := [(6, .int (iI 0)), (5, .int (iI 1)), (4, .int (iI (ix : Int))), (0, .ref b), (1, .ref xa), (2, .ref ma), (3, .ref oa)]) hx hb dL_law_279 hl (by decide) rfl (fun ls hl => ?_)
  refine lv_aload_n hx hb dL_law_281 rfl (lv_at hl 5 rfl) ?_
  refine zc_wi (va_runV (As := []) (rest := []) ⟨hx, hb, hml, hown, hts⟩ (c_X1_thrown l G ma mr _ σ 1) (cwV 0 hts gL_law_X1_thrown rfl rfl rfl (by decide +kernel) ⟨Nat.le_of_ble_eq_true rfl, Nat.le_of_ble_eq_true rfl⟩) (preWM hK (b_m hP) (d_m hD)) rfl rfl hl.1 rfl (lv_room (Nat.le_of_ble_eq_true rfl)) dL_law_282 ⟨by show _ ≤ 698866; omega, by show _ ≤ 6999506; omega⟩) hS (a_m hD hS) (fun H locs hP1 hS _ hkk => ?_)
  have hP := j_m hP hD hP1 hkk
  refine lv_iload hx hb dL_law_285 (lv_at hl 1 rfl) ?_
  refine z_icmp_eq (tgt := 292) hx hb dL_law_287 (by decide) (by omega) (by omega) (fun _ => ?_) (fun h => absurd (by omega) h)
  refine lv_iload hx hb dL_law_292 (lv_at hl 1 rfl) ?_
  refine z_if_ne (tgt := 316) hx hb dL_law_294 (by decide) (by decide) (fun _ => ?_) (fun h => absurd h (by decide))
  refine lv_goto (tgt := 2000) hx hb dL_law_316 (by decide) ?_
  exact kk _ _ _ _ _ _ _ ⟨hP, hD, hS⟩ (by omega) (by omega) (lv_sub hl [2, 3, 4, 5, 6] rfl)
set_option maxHeartbeats 4000000 in
set_option maxRecDepth 100000 in
theorem k1_slight (C : lC pg l s m args c G b L xs) (hP : lP G s xa xr ma mr oa σ t v H locs) (hc : cells + 32 ≤ 698866) (hs : slots + 256 ≤ 6999506) (hl : lv_has ls 9 [(4, .int (iI (ix : Int))), (0, .ref b), (1, .ref xa), (2, .ref ma), (3, .ref oa)]) (hix : ix + 3 < L) (B : Nat) (z : Int) (y : Int) (w : Int) (e1 : xs (ix + 1) = iI z) (e2 : xs (ix + 2) = iI y) (e3 : xs (ix + 3) = iI w) (hI : zI B σ) (hzb : -2147483648 ≤ z ∧ z < 2147483648) (hbad : z < 0 ∨ (σ.1 0 : Int) ≤ z) (kk : lK pg l e s m args below meth c G b xa xr ma mr oa ix cells slots Q σ) : W pg l e room_1 s m args below meth c H locs cells slots Q (F0 m 319 ls []) := by
  obtain ⟨hx, hb, hml, hown, hts, hfl, hK, hE0, hN, hX, hbl, hL⟩ := C
  obtain ⟨hP, hD, hS⟩ := hP
  have hP : va_P G.1 vwCl (V3 G xa xr ma mr oa σ σ t v) H := hP
  have hD : va_D (nA s.heap.size) (V3 G xa xr ma mr oa σ σ t v) := hD
  refine lv_aload_n hx hb dL_law_319 rfl (lv_at hl 2 rfl) ?_
  refine lv_aload_n hx hb dL_law_320 rfl (lv_at hl 1 rfl) ?_
  refine lv_iload hx hb dL_law_321 (lv_at hl 0 rfl) ?_
  refine lv_iconst (v := iI 1) hx hb dL_law_323 rfl ?_
  refine z_iadd hx hb dL_law_324 ?_
  refine z_sld hx hb hX hbl hS (ix + 1) (by omega) (by omega) hL e1 dL_law_325 ?_
  refine lv_aload_n hx hb dL_law_326 rfl (lv_at hl 1 rfl) ?_
  refine lv_iload hx hb dL_law_327 (lv_at hl 0 rfl) ?_
  refine lv_iconst (v := iI 2) hx hb dL_law_329 rfl ?_
  refine z_iadd hx hb dL_law_330 ?_
  refine z_sld hx hb hX hbl hS (ix + 2) (by omega) (by omega) hL e2 dL_law_331 ?_
  refine lv_aload_n hx hb dL_law_332 rfl (lv_at hl 1 rfl) ?_
  refine lv_iload hx hb dL_law_333 (lv_at hl 0 rfl) ?_
  refine lv_iconst (v := iI 3) hx hb dL_law_335 rfl ?_
  refine z_iadd hx hb dL_law_336 ?_
  refine z_sld hx hb hX hbl hS (ix + 3) (by omega) (by omega) hL e3 dL_law_337 ?_
  refine lv_aload_n hx hb dL_law_338 rfl (lv_at hl 4 rfl) ?_
  refine zc_f (vx_runSW (As := [.ref xa, .int (iI z), .int (iI y), .int (iI w), .ref oa]) (rest := []) ⟨hx, hb, hml, hown, hts⟩ (f1_L_slight l hfl G xa xr oa _ B σ z y w hI hzb hbad) (vx_cwSW 5 hts gL_law_L_slight rfl rfl rfl (by decide +kernel) ⟨Nat.le_of_ble_eq_true rfl, Nat.le_of_ble_eq_true rfl⟩) (preWF hK (b_x hP) (j_E hE0 hS) hN) rfl rfl hl.1 rfl (lv_room (Nat.le_of_ble_eq_true rfl)) dL_law_339 ⟨by show _ ≤ 698866; omega, by show _ ≤ 6999506; omega⟩) hS (fun H locs hS hkk => ?_)
  have hP := j_0 hP hkk
  refine lv_istore (lv' := [(5, .int (iI 1)), (4, .int (iI (ix : Int))), (0, .ref b), (1, .ref xa), (2, .ref ma), (3, .ref oa)]) hx hb dL_law_342 hl (by decide) rfl (fun ls hl => ?_)
  refine lv_aload_n hx hb dL_law_344 rfl (lv_at hl 4 rfl) ?_
  refine lv_aload_n hx hb dL_law_345 rfl (lv_at hl 2 rfl) ?_
  refine lv_iload hx hb dL_law_346 (lv_at hl 1 rfl) ?_
  refine lv_iconst (v := iI 1) hx hb dL_law_348 rfl ?_
  refine z_iadd hx hb dL_law_349 ?_
  refine z_sld hx hb hX hbl hS (ix + 1) (by omega) (by omega) hL e1 dL_law_350 ?_
  refine lv_aload_n hx hb dL_law_351 rfl (lv_at hl 2 rfl) ?_
  refine lv_iload hx hb dL_law_352 (lv_at hl 1 rfl) ?_
  refine lv_iconst (v := iI 2) hx hb dL_law_354 rfl ?_
  refine z_iadd hx hb dL_law_355 ?_
  refine z_sld hx hb hX hbl hS (ix + 2) (by omega) (by omega) hL e2 dL_law_356 ?_
  refine lv_aload_n hx hb dL_law_357 rfl (lv_at hl 2 rfl) ?_
  refine lv_iload hx hb dL_law_358 (lv_at hl 1 rfl) ?_
  refine lv_iconst (v := iI 3) hx hb dL_law_360 rfl ?_
  refine z_iadd hx hb dL_law_361 ?_
  refine z_sld hx hb hX hbl hS (ix + 3) (by omega) (by omega) hL e3 dL_law_362 ?_
  refine zc_wi (va_runV (As := [.int (iI z), .int (iI y), .int (iI w)]) (rest := []) ⟨hx, hb, hml, hown, hts⟩ (e1_X1_slight l G ma mr _ B σ t z y w hI hzb hbad) (cwV 3 hts gL_law_X1_slight rfl rfl rfl (by decide +kernel) ⟨Nat.le_of_ble_eq_true rfl, Nat.le_of_ble_eq_true rfl⟩) (preWM hK (b_m hP) (d_m hD)) rfl rfl hl.1 rfl (lv_room (Nat.le_of_ble_eq_true rfl)) dL_law_363 ⟨by show _ ≤ 698866; omega, by show _ ≤ 6999506; omega⟩) hS (a_m hD hS) (fun H locs hP1 hS _ hkk => ?_)
  have hP := j_m hP hD hP1 hkk
  have hD := d_mv hD σ σ 1 (v)
  refine lv_istore (lv' := [(6, .int (iI 0)), (5, .int (iI 1)), (4, .int (iI (ix : Int))), (0, .ref b), (1, .ref xa), (2, .ref ma), (3, .ref oa)]) hx hb dL_law_366 hl (by decide) rfl (fun ls hl => ?_)
  refine lv_aload_n hx hb dL_law_368 rfl (lv_at hl 5 rfl) ?_
  refine zc_wi (va_runV (As := []) (rest := []) ⟨hx, hb, hml, hown, hts⟩ (c_X1_thrown l G ma mr _ σ 1) (cwV 0 hts gL_law_X1_thrown rfl rfl rfl (by decide +kernel) ⟨Nat.le_of_ble_eq_true rfl, Nat.le_of_ble_eq_true rfl⟩) (preWM hK (b_m hP) (d_m hD)) rfl rfl hl.1 rfl (lv_room (Nat.le_of_ble_eq_true rfl)) dL_law_369 ⟨by show _ ≤ 698866; omega, by show _ ≤ 6999506; omega⟩) hS (a_m hD hS) (fun H locs hP1 hS _ hkk => ?_)
  have hP := j_m hP hD hP1 hkk
  refine lv_iload hx hb dL_law_372 (lv_at hl 1 rfl) ?_
  refine z_icmp_eq (tgt := 379) hx hb dL_law_374 (by decide) (by omega) (by omega) (fun _ => ?_) (fun h => absurd (by omega) h)
  refine lv_iload hx hb dL_law_379 (lv_at hl 1 rfl) ?_
  refine z_if_ne (tgt := 396) hx hb dL_law_381 (by decide) (by decide) (fun _ => ?_) (fun h => absurd h (by decide))
  refine lv_goto (tgt := 2000) hx hb dL_law_396 (by decide) ?_
  exact kk _ _ _ _ _ _ _ ⟨hP, hD, hS⟩ (by omega) (by omega) (lv_sub hl [2, 3, 4, 5, 6] rfl)
set_option maxHeartbeats 4000000 in
set_option maxRecDepth 100000 in
theorem k2_slight (C : lC pg l s m args c G b L xs) (hP : lP G s xa xr ma mr oa σ t v H locs) (hc : cells + 32 ≤ 698866) (hs : slots + 256 ≤ 6999506) (hl : lv_has ls 9 [(4, .int (iI (ix : Int))), (0, .ref b), (1, .ref xa), (2, .ref ma), (3, .ref oa)]) (hix : ix + 3 < L) (B : Nat) (i : Nat) (z : Int) (w : Int) (e1 : xs (ix + 1) = iI (i : Int)) (e2 : xs (ix + 2) = iI z) (e3 : xs (ix + 3) = iI w) (hI : zI B σ) (hi : i < σ.1 0) (hzb : -2147483648 ≤ z ∧ z < 2147483648) (hbad : z < 0 ∨ (σ.1 0 : Int) ≤ z) (kk : lK pg l e s m args below meth c G b xa xr ma mr oa ix cells slots Q σ) : W pg l e room_1 s m args below meth c H locs cells slots Q (F0 m 319 ls []) := by
  obtain ⟨hx, hb, hml, hown, hts, hfl, hK, hE0, hN, hX, hbl, hL⟩ := C
  obtain ⟨hP, hD, hS⟩ := hP
  have hP : va_P G.1 vwCl (V3 G xa xr ma mr oa σ σ t v) H := hP
  have hD : va_D (nA s.heap.size) (V3 G xa xr ma mr oa σ σ t v) := hD
  refine lv_aload_n hx hb dL_law_319 rfl (lv_at hl 2 rfl) ?_
  refine lv_aload_n hx hb dL_law_320 rfl (lv_at hl 1 rfl) ?_
  refine lv_iload hx hb dL_law_321 (lv_at hl 0 rfl) ?_
  refine lv_iconst (v := iI 1) hx hb dL_law_323 rfl ?_
  refine z_iadd hx hb dL_law_324 ?_
  refine z_sld hx hb hX hbl hS (ix + 1) (by omega) (by omega) hL e1 dL_law_325 ?_
  refine lv_aload_n hx hb dL_law_326 rfl (lv_at hl 1 rfl) ?_
  refine lv_iload hx hb dL_law_327 (lv_at hl 0 rfl) ?_
  refine lv_iconst (v := iI 2) hx hb dL_law_329 rfl ?_
  refine z_iadd hx hb dL_law_330 ?_
  refine z_sld hx hb hX hbl hS (ix + 2) (by omega) (by omega) hL e2 dL_law_331 ?_
  refine lv_aload_n hx hb dL_law_332 rfl (lv_at hl 1 rfl) ?_
  refine lv_iload hx hb dL_law_333 (lv_at hl 0 rfl) ?_
  refine lv_iconst (v := iI 3) hx hb dL_law_335 rfl ?_
  refine z_iadd hx hb dL_law_336 ?_
  refine z_sld hx hb hX hbl hS (ix + 3) (by omega) (by omega) hL e3 dL_law_337 ?_
  refine lv_aload_n hx hb dL_law_338 rfl (lv_at hl 4 rfl) ?_
  refine zc_f (vx_runSW (As := [.ref xa, .int (iI (i : Int)), .int (iI z), .int (iI w), .ref oa]) (rest := []) ⟨hx, hb, hml, hown, hts⟩ (f2_L_slight l hfl G xa xr oa _ B σ i z w hI hi hzb hbad) (vx_cwSW 5 hts gL_law_L_slight rfl rfl rfl (by decide +kernel) ⟨Nat.le_of_ble_eq_true rfl, Nat.le_of_ble_eq_true rfl⟩) (preWF hK (b_x hP) (j_E hE0 hS) hN) rfl rfl hl.1 rfl (lv_room (Nat.le_of_ble_eq_true rfl)) dL_law_339 ⟨by show _ ≤ 698866; omega, by show _ ≤ 6999506; omega⟩) hS (fun H locs hS hkk => ?_)
  have hP := j_0 hP hkk
  refine lv_istore (lv' := [(5, .int (iI 1)), (4, .int (iI (ix : Int))), (0, .ref b), (1, .ref xa), (2, .ref ma), (3, .ref oa)]) hx hb dL_law_342 hl (by decide) rfl (fun ls hl => ?_)
  refine lv_aload_n hx hb dL_law_344 rfl (lv_at hl 4 rfl) ?_
  refine lv_aload_n hx hb dL_law_345 rfl (lv_at hl 2 rfl) ?_
  refine lv_iload hx hb dL_law_346 (lv_at hl 1 rfl) ?_
  refine lv_iconst (v := iI 1) hx hb dL_law_348 rfl ?_
  refine z_iadd hx hb dL_law_349 ?_
  refine z_sld hx hb hX hbl hS (ix + 1) (by omega) (by omega) hL e1 dL_law_350 ?_
  refine lv_aload_n hx hb dL_law_351 rfl (lv_at hl 2 rfl) ?_
  refine lv_iload hx hb dL_law_352 (lv_at hl 1 rfl) ?_
  refine lv_iconst (v := iI 2) hx hb dL_law_354 rfl ?_
  refine z_iadd hx hb dL_law_355 ?_
  refine z_sld hx hb hX hbl hS (ix + 2) (by omega) (by omega) hL e2 dL_law_356 ?_
  refine lv_aload_n hx hb dL_law_357 rfl (lv_at hl 2 rfl) ?_
  refine lv_iload hx hb dL_law_358 (lv_at hl 1 rfl) ?_
  refine lv_iconst (v := iI 3) hx hb dL_law_360 rfl ?_
  refine z_iadd hx hb dL_law_361 ?_
  refine z_sld hx hb hX hbl hS (ix + 3) (by omega) (by omega) hL e3 dL_law_362 ?_
  refine zc_wi (va_runV (As := [.int (iI (i : Int)), .int (iI z), .int (iI w)]) (rest := []) ⟨hx, hb, hml, hown, hts⟩ (e2_X1_slight l G ma mr _ B σ t i z w hI hi hzb hbad) (cwV 3 hts gL_law_X1_slight rfl rfl rfl (by decide +kernel) ⟨Nat.le_of_ble_eq_true rfl, Nat.le_of_ble_eq_true rfl⟩) (preWM hK (b_m hP) (d_m hD)) rfl rfl hl.1 rfl (lv_room (Nat.le_of_ble_eq_true rfl)) dL_law_363 ⟨by show _ ≤ 698866; omega, by show _ ≤ 6999506; omega⟩) hS (a_m hD hS) (fun H locs hP1 hS _ hkk => ?_)
  have hP := j_m hP hD hP1 hkk
  have hD := d_mv hD σ σ 1 (v)
  refine lv_istore (lv' := [(6, .int (iI 0)), (5, .int (iI 1)), (4, .int (iI (ix : Int))), (0, .ref b), (1, .ref xa), (2, .ref ma), (3, .ref oa)]) hx hb dL_law_366 hl (by decide) rfl (fun ls hl => ?_)
  refine lv_aload_n hx hb dL_law_368 rfl (lv_at hl 5 rfl) ?_
  refine zc_wi (va_runV (As := []) (rest := []) ⟨hx, hb, hml, hown, hts⟩ (c_X1_thrown l G ma mr _ σ 1) (cwV 0 hts gL_law_X1_thrown rfl rfl rfl (by decide +kernel) ⟨Nat.le_of_ble_eq_true rfl, Nat.le_of_ble_eq_true rfl⟩) (preWM hK (b_m hP) (d_m hD)) rfl rfl hl.1 rfl (lv_room (Nat.le_of_ble_eq_true rfl)) dL_law_369 ⟨by show _ ≤ 698866; omega, by show _ ≤ 6999506; omega⟩) hS (a_m hD hS) (fun H locs hP1 hS _ hkk => ?_)
  have hP := j_m hP hD hP1 hkk
  refine lv_iload hx hb dL_law_372 (lv_at hl 1 rfl) ?_
  refine z_icmp_eq (tgt := 379) hx hb dL_law_374 (by decide) (by omega) (by omega) (fun _ => ?_) (fun h => absurd (by omega) h)
  refine lv_iload hx hb dL_law_379 (lv_at hl 1 rfl) ?_
  refine z_if_ne (tgt := 396) hx hb dL_law_381 (by decide) (by decide) (fun _ => ?_) (fun h => absurd h (by decide))
  refine lv_goto (tgt := 2000) hx hb dL_law_396 (by decide) ?_
  exact kk _ _ _ _ _ _ _ ⟨hP, hD, hS⟩ (by omega) (by omega) (lv_sub hl [2, 3, 4, 5, 6] rfl)
set_option maxHeartbeats 4000000 in
set_option maxRecDepth 100000 in
theorem k3_slight (C : lC pg l s m args c G b L xs) (hP : lP G s xa xr ma mr oa σ t v H locs) (hc : cells + 32 ≤ 698866) (hs : slots + 256 ≤ 6999506) (hl : lv_has ls 9 [(4, .int (iI (ix : Int))), (0, .ref b), (1, .ref xa), (2, .ref ma), (3, .ref oa)]) (hix : ix + 3 < L) (B : Nat) (i : Nat) (o : Nat) (w : Int) (e1 : xs (ix + 1) = iI (i : Int)) (e2 : xs (ix + 2) = iI (o : Int)) (e3 : xs (ix + 3) = iI w) (hI : zI B σ) (hi : i < σ.1 0) (ho : o < σ.1 0) (hwb : -2147483648 ≤ w ∧ w < 2147483648) (hbad : i = o ∨ w < 1 ∨ 20 < w) (kk : lK pg l e s m args below meth c G b xa xr ma mr oa ix cells slots Q σ) : W pg l e room_1 s m args below meth c H locs cells slots Q (F0 m 319 ls []) := by
  obtain ⟨hx, hb, hml, hown, hts, hfl, hK, hE0, hN, hX, hbl, hL⟩ := C
  obtain ⟨hP, hD, hS⟩ := hP
  have hP : va_P G.1 vwCl (V3 G xa xr ma mr oa σ σ t v) H := hP
  have hD : va_D (nA s.heap.size) (V3 G xa xr ma mr oa σ σ t v) := hD
  refine lv_aload_n hx hb dL_law_319 rfl (lv_at hl 2 rfl) ?_
  refine lv_aload_n hx hb dL_law_320 rfl (lv_at hl 1 rfl) ?_
  refine lv_iload hx hb dL_law_321 (lv_at hl 0 rfl) ?_
  refine lv_iconst (v := iI 1) hx hb dL_law_323 rfl ?_
  refine z_iadd hx hb dL_law_324 ?_
  refine z_sld hx hb hX hbl hS (ix + 1) (by omega) (by omega) hL e1 dL_law_325 ?_
  refine lv_aload_n hx hb dL_law_326 rfl (lv_at hl 1 rfl) ?_
  refine lv_iload hx hb dL_law_327 (lv_at hl 0 rfl) ?_
  refine lv_iconst (v := iI 2) hx hb dL_law_329 rfl ?_
  refine z_iadd hx hb dL_law_330 ?_
  refine z_sld hx hb hX hbl hS (ix + 2) (by omega) (by omega) hL e2 dL_law_331 ?_
  refine lv_aload_n hx hb dL_law_332 rfl (lv_at hl 1 rfl) ?_
  refine lv_iload hx hb dL_law_333 (lv_at hl 0 rfl) ?_
  refine lv_iconst (v := iI 3) hx hb dL_law_335 rfl ?_
  refine z_iadd hx hb dL_law_336 ?_
  refine z_sld hx hb hX hbl hS (ix + 3) (by omega) (by omega) hL e3 dL_law_337 ?_
  refine lv_aload_n hx hb dL_law_338 rfl (lv_at hl 4 rfl) ?_
  refine zc_f (vx_runSW (As := [.ref xa, .int (iI (i : Int)), .int (iI (o : Int)), .int (iI w), .ref oa]) (rest := []) ⟨hx, hb, hml, hown, hts⟩ (f3_L_slight l hfl G xa xr oa _ B σ i o w hI hi ho hwb hbad) (vx_cwSW 5 hts gL_law_L_slight rfl rfl rfl (by decide +kernel) ⟨Nat.le_of_ble_eq_true rfl, Nat.le_of_ble_eq_true rfl⟩) (preWF hK (b_x hP) (j_E hE0 hS) hN) rfl rfl hl.1 rfl (lv_room (Nat.le_of_ble_eq_true rfl)) dL_law_339 ⟨by show _ ≤ 698866; omega, by show _ ≤ 6999506; omega⟩) hS (fun H locs hS hkk => ?_)
  have hP := j_0 hP hkk
  refine lv_istore (lv' := [(5, .int (iI 2)), (4, .int (iI (ix : Int))), (0, .ref b), (1, .ref xa), (2, .ref ma), (3, .ref oa)]) hx hb dL_law_342 hl (by decide) rfl (fun ls hl => ?_)
  refine lv_aload_n hx hb dL_law_344 rfl (lv_at hl 4 rfl) ?_
  refine lv_aload_n hx hb dL_law_345 rfl (lv_at hl 2 rfl) ?_
  refine lv_iload hx hb dL_law_346 (lv_at hl 1 rfl) ?_
  refine lv_iconst (v := iI 1) hx hb dL_law_348 rfl ?_
  refine z_iadd hx hb dL_law_349 ?_
  refine z_sld hx hb hX hbl hS (ix + 1) (by omega) (by omega) hL e1 dL_law_350 ?_
  refine lv_aload_n hx hb dL_law_351 rfl (lv_at hl 2 rfl) ?_
  refine lv_iload hx hb dL_law_352 (lv_at hl 1 rfl) ?_
  refine lv_iconst (v := iI 2) hx hb dL_law_354 rfl ?_
  refine z_iadd hx hb dL_law_355 ?_
  refine z_sld hx hb hX hbl hS (ix + 2) (by omega) (by omega) hL e2 dL_law_356 ?_
  refine lv_aload_n hx hb dL_law_357 rfl (lv_at hl 2 rfl) ?_
  refine lv_iload hx hb dL_law_358 (lv_at hl 1 rfl) ?_
  refine lv_iconst (v := iI 3) hx hb dL_law_360 rfl ?_
  refine z_iadd hx hb dL_law_361 ?_
  refine z_sld hx hb hX hbl hS (ix + 3) (by omega) (by omega) hL e3 dL_law_362 ?_
  refine zc_wi (va_runV (As := [.int (iI (i : Int)), .int (iI (o : Int)), .int (iI w)]) (rest := []) ⟨hx, hb, hml, hown, hts⟩ (e3_X1_slight l G ma mr _ B σ t i o w hI hi ho hwb hbad) (cwV 3 hts gL_law_X1_slight rfl rfl rfl (by decide +kernel) ⟨Nat.le_of_ble_eq_true rfl, Nat.le_of_ble_eq_true rfl⟩) (preWM hK (b_m hP) (d_m hD)) rfl rfl hl.1 rfl (lv_room (Nat.le_of_ble_eq_true rfl)) dL_law_363 ⟨by show _ ≤ 698866; omega, by show _ ≤ 6999506; omega⟩) hS (a_m hD hS) (fun H locs hP1 hS _ hkk => ?_)
  have hP := j_m hP hD hP1 hkk
  have hD := d_mv hD σ σ 2 (v)
  refine lv_istore (lv' := [(6, .int (iI 0)), (5, .int (iI 2)), (4, .int (iI (ix : Int))), (0, .ref b), (1, .ref xa), (2, .ref ma), (3, .ref oa)]) hx hb dL_law_366 hl (by decide) rfl (fun ls hl => ?_)
  refine lv_aload_n hx hb dL_law_368 rfl (lv_at hl 5 rfl) ?_
  refine zc_wi (va_runV (As := []) (rest := []) ⟨hx, hb, hml, hown, hts⟩ (c_X1_thrown l G ma mr _ σ 2) (cwV 0 hts gL_law_X1_thrown rfl rfl rfl (by decide +kernel) ⟨Nat.le_of_ble_eq_true rfl, Nat.le_of_ble_eq_true rfl⟩) (preWM hK (b_m hP) (d_m hD)) rfl rfl hl.1 rfl (lv_room (Nat.le_of_ble_eq_true rfl)) dL_law_369 ⟨by show _ ≤ 698866; omega, by show _ ≤ 6999506; omega⟩) hS (a_m hD hS) (fun H locs hP1 hS _ hkk => ?_)
  have hP := j_m hP hD hP1 hkk
  refine lv_iload hx hb dL_law_372 (lv_at hl 1 rfl) ?_
  refine z_icmp_eq (tgt := 379) hx hb dL_law_374 (by decide) (by omega) (by omega) (fun _ => ?_) (fun h => absurd (by omega) h)
  refine lv_iload hx hb dL_law_379 (lv_at hl 1 rfl) ?_
  refine z_if_ne (tgt := 396) hx hb dL_law_381 (by decide) (by decide) (fun _ => ?_) (fun h => absurd h (by decide))
  refine lv_goto (tgt := 2000) hx hb dL_law_396 (by decide) ?_
  exact kk _ _ _ _ _ _ _ ⟨hP, hD, hS⟩ (by omega) (by omega) (lv_sub hl [2, 3, 4, 5, 6] rfl)
set_option maxHeartbeats 4000000 in
set_option maxRecDepth 100000 in
theorem k4_slight (C : lC pg l s m args c G b L xs) (hP : lP G s xa xr ma mr oa σ t v H locs) (hc : cells + 32 ≤ 698866) (hs : slots + 256 ≤ 6999506) (hl : lv_has ls 9 [(4, .int (iI (ix : Int))), (0, .ref b), (1, .ref xa), (2, .ref ma), (3, .ref oa)]) (hix : ix + 3 < L) (B : Nat) (i : Nat) (o : Nat) (w : Int) (e1 : xs (ix + 1) = iI (i : Int)) (e2 : xs (ix + 2) = iI (o : Int)) (e3 : xs (ix + 3) = iI w) (hI : zI B σ) (hi : i < σ.1 0) (ho : o < σ.1 0) (hw : 1 ≤ w ∧ w ≤ 20) (hne : i ≠ o) (hfull : σ.1 1 = 20) (kk : lK pg l e s m args below meth c G b xa xr ma mr oa ix cells slots Q σ) : W pg l e room_1 s m args below meth c H locs cells slots Q (F0 m 319 ls []) := by
  obtain ⟨hx, hb, hml, hown, hts, hfl, hK, hE0, hN, hX, hbl, hL⟩ := C
  obtain ⟨hP, hD, hS⟩ := hP
  have hP : va_P G.1 vwCl (V3 G xa xr ma mr oa σ σ t v) H := hP
  have hD : va_D (nA s.heap.size) (V3 G xa xr ma mr oa σ σ t v) := hD
  refine lv_aload_n hx hb dL_law_319 rfl (lv_at hl 2 rfl) ?_
  refine lv_aload_n hx hb dL_law_320 rfl (lv_at hl 1 rfl) ?_
  refine lv_iload hx hb dL_law_321 (lv_at hl 0 rfl) ?_
  refine lv_iconst (v := iI 1) hx hb dL_law_323 rfl ?_
  refine z_iadd hx hb dL_law_324 ?_
  refine z_sld hx hb hX hbl hS (ix + 1) (by omega) (by omega) hL e1 dL_law_325 ?_
  refine lv_aload_n hx hb dL_law_326 rfl (lv_at hl 1 rfl) ?_
  refine lv_iload hx hb dL_law_327 (lv_at hl 0 rfl) ?_
  refine lv_iconst (v := iI 2) hx hb dL_law_329 rfl ?_
  refine z_iadd hx hb dL_law_330 ?_
  refine z_sld hx hb hX hbl hS (ix + 2) (by omega) (by omega) hL e2 dL_law_331 ?_
  refine lv_aload_n hx hb dL_law_332 rfl (lv_at hl 1 rfl) ?_
  refine lv_iload hx hb dL_law_333 (lv_at hl 0 rfl) ?_
  refine lv_iconst (v := iI 3) hx hb dL_law_335 rfl ?_
  refine z_iadd hx hb dL_law_336 ?_
  refine z_sld hx hb hX hbl hS (ix + 3) (by omega) (by omega) hL e3 dL_law_337 ?_
  refine lv_aload_n hx hb dL_law_338 rfl (lv_at hl 4 rfl) ?_
  refine zc_f (vx_runSW (As := [.ref xa, .int (iI (i : Int)), .int (iI (o : Int)), .int (iI w), .ref oa]) (rest := []) ⟨hx, hb, hml, hown, hts⟩ (f4_L_slight l hfl G xa xr oa _ B σ i o w hI hi ho hw hne hfull) (vx_cwSW 5 hts gL_law_L_slight rfl rfl rfl (by decide +kernel) ⟨Nat.le_of_ble_eq_true rfl, Nat.le_of_ble_eq_true rfl⟩) (preWF hK (b_x hP) (j_E hE0 hS) hN) rfl rfl hl.1 rfl (lv_room (Nat.le_of_ble_eq_true rfl)) dL_law_339 ⟨by show _ ≤ 698866; omega, by show _ ≤ 6999506; omega⟩) hS (fun H locs hS hkk => ?_)
  have hP := j_0 hP hkk
  refine lv_istore (lv' := [(5, .int (iI 3)), (4, .int (iI (ix : Int))), (0, .ref b), (1, .ref xa), (2, .ref ma), (3, .ref oa)]) hx hb dL_law_342 hl (by decide) rfl (fun ls hl => ?_)
  refine lv_aload_n hx hb dL_law_344 rfl (lv_at hl 4 rfl) ?_
  refine lv_aload_n hx hb dL_law_345 rfl (lv_at hl 2 rfl) ?_
  refine lv_iload hx hb dL_law_346 (lv_at hl 1 rfl) ?_
  refine lv_iconst (v := iI 1) hx hb dL_law_348 rfl ?_
  refine z_iadd hx hb dL_law_349 ?_
  refine z_sld hx hb hX hbl hS (ix + 1) (by omega) (by omega) hL e1 dL_law_350 ?_
  refine lv_aload_n hx hb dL_law_351 rfl (lv_at hl 2 rfl) ?_
  refine lv_iload hx hb dL_law_352 (lv_at hl 1 rfl) ?_
  refine lv_iconst (v := iI 2) hx hb dL_law_354 rfl ?_
  refine z_iadd hx hb dL_law_355 ?_
  refine z_sld hx hb hX hbl hS (ix + 2) (by omega) (by omega) hL e2 dL_law_356 ?_
  refine lv_aload_n hx hb dL_law_357 rfl (lv_at hl 2 rfl) ?_
  refine lv_iload hx hb dL_law_358 (lv_at hl 1 rfl) ?_
  refine lv_iconst (v := iI 3) hx hb dL_law_360 rfl ?_
  refine z_iadd hx hb dL_law_361 ?_
  refine z_sld hx hb hX hbl hS (ix + 3) (by omega) (by omega) hL e3 dL_law_362 ?_
  refine zc_wi (va_runV (As := [.int (iI (i : Int)), .int (iI (o : Int)), .int (iI w)]) (rest := []) ⟨hx, hb, hml, hown, hts⟩ (e4_X1_slight l G ma mr _ B σ t i o w hI hi ho hne hw hfull) (cwV 3 hts gL_law_X1_slight rfl rfl rfl (by decide +kernel) ⟨Nat.le_of_ble_eq_true rfl, Nat.le_of_ble_eq_true rfl⟩) (preWM hK (b_m hP) (d_m hD)) rfl rfl hl.1 rfl (lv_room (Nat.le_of_ble_eq_true rfl)) dL_law_363 ⟨by show _ ≤ 698866; omega, by show _ ≤ 6999506; omega⟩) hS (a_m hD hS) (fun H locs hP1 hS _ hkk => ?_)
  have hP := j_m hP hD hP1 hkk
  have hD := d_mv hD σ σ 3 (v)
  refine lv_istore (lv' := [(6, .int (iI 0)), (5, .int (iI 3)), (4, .int (iI (ix : Int))), (0, .ref b), (1, .ref xa), (2, .ref ma), (3, .ref oa)]) hx hb dL_law_366 hl (by decide) rfl (fun ls hl => ?_)
  refine lv_aload_n hx hb dL_law_368 rfl (lv_at hl 5 rfl) ?_
  refine zc_wi (va_runV (As := []) (rest := []) ⟨hx, hb, hml, hown, hts⟩ (c_X1_thrown l G ma mr _ σ 3) (cwV 0 hts gL_law_X1_thrown rfl rfl rfl (by decide +kernel) ⟨Nat.le_of_ble_eq_true rfl, Nat.le_of_ble_eq_true rfl⟩) (preWM hK (b_m hP) (d_m hD)) rfl rfl hl.1 rfl (lv_room (Nat.le_of_ble_eq_true rfl)) dL_law_369 ⟨by show _ ≤ 698866; omega, by show _ ≤ 6999506; omega⟩) hS (a_m hD hS) (fun H locs hP1 hS _ hkk => ?_)
  have hP := j_m hP hD hP1 hkk
  refine lv_iload hx hb dL_law_372 (lv_at hl 1 rfl) ?_
  refine z_icmp_eq (tgt := 379) hx hb dL_law_374 (by decide) (by omega) (by omega) (fun _ => ?_) (fun h => absurd (by omega) h)
  refine lv_iload hx hb dL_law_379 (lv_at hl 1 rfl) ?_
  refine z_if_ne (tgt := 396) hx hb dL_law_381 (by decide) (by decide) (fun _ => ?_) (fun h => absurd h (by decide))
  refine lv_goto (tgt := 2000) hx hb dL_law_396 (by decide) ?_
  exact kk _ _ _ _ _ _ _ ⟨hP, hD, hS⟩ (by omega) (by omega) (lv_sub hl [2, 3, 4, 5, 6] rfl)
set_option maxHeartbeats 4000000 in
set_option maxRecDepth 100000 in
theorem k1_mention (C : lC pg l s m args c G b L xs) (hP : lP G s xa xr ma mr oa σ t v H locs) (hc : cells + 32 ≤ 698866) (hs : slots + 256 ≤ 6999506) (hl : lv_has ls 9 [(4, .int (iI (ix : Int))), (0, .ref b), (1, .ref xa), (2, .ref ma), (3, .ref oa)]) (hix : ix + 3 < L) (B : Nat) (z : Int) (e1 : xs (ix + 1) = iI z) (hI : zI B σ) (hzb : -2147483648 ≤ z ∧ z < 2147483648) (hbad : z < 0 ∨ (σ.1 1 : Int) ≤ z) (kk : lK pg l e s m args below meth c G b xa xr ma mr oa ix cells slots Q σ) : W pg l e room_1 s m args below meth c H locs cells slots Q (F0 m 399 ls []) := by
  obtain ⟨hx, hb, hml, hown, hts, hfl, hK, hE0, hN, hX, hbl, hL⟩ := C
  obtain ⟨hP, hD, hS⟩ := hP
  have hP : va_P G.1 vwCl (V3 G xa xr ma mr oa σ σ t v) H := hP
  have hD : va_D (nA s.heap.size) (V3 G xa xr ma mr oa σ σ t v) := hD
  refine lv_aload_n hx hb dL_law_399 rfl (lv_at hl 2 rfl) ?_
  refine lv_aload_n hx hb dL_law_400 rfl (lv_at hl 1 rfl) ?_
  refine lv_iload hx hb dL_law_401 (lv_at hl 0 rfl) ?_
  refine lv_iconst (v := iI 1) hx hb dL_law_403 rfl ?_
  refine z_iadd hx hb dL_law_404 ?_
  refine z_sld hx hb hX hbl hS (ix + 1) (by omega) (by omega) hL e1 dL_law_405 ?_
  refine lv_aload_n hx hb dL_law_406 rfl (lv_at hl 4 rfl) ?_
  refine zc_f (vx_runSW (As := [.ref xa, .int (iI z), .ref oa]) (rest := []) ⟨hx, hb, hml, hown, hts⟩ (f1_L_mention l hfl G xa xr oa _ B σ z hI hzb hbad) (vx_cwSW 3 hts gL_law_L_mention rfl rfl rfl (by decide +kernel) ⟨Nat.le_of_ble_eq_true rfl, Nat.le_of_ble_eq_true rfl⟩) (preWF hK (b_x hP) (j_E hE0 hS) hN) rfl rfl hl.1 rfl (lv_room (Nat.le_of_ble_eq_true rfl)) dL_law_407 ⟨by show _ ≤ 698866; omega, by show _ ≤ 6999506; omega⟩) hS (fun H locs hS hkk => ?_)
  have hP := j_0 hP hkk
  refine lv_istore (lv' := [(5, .int (iI 1)), (4, .int (iI (ix : Int))), (0, .ref b), (1, .ref xa), (2, .ref ma), (3, .ref oa)]) hx hb dL_law_410 hl (by decide) rfl (fun ls hl => ?_)
  refine lv_aload_n hx hb dL_law_412 rfl (lv_at hl 4 rfl) ?_
  refine lv_aload_n hx hb dL_law_413 rfl (lv_at hl 2 rfl) ?_
  refine lv_iload hx hb dL_law_414 (lv_at hl 1 rfl) ?_
  refine lv_iconst (v := iI 1) hx hb dL_law_416 rfl ?_
  refine z_iadd hx hb dL_law_417 ?_
  refine z_sld hx hb hX hbl hS (ix + 1) (by omega) (by omega) hL e1 dL_law_418 ?_
  refine zc_wi (va_runV (As := [.int (iI z)]) (rest := []) ⟨hx, hb, hml, hown, hts⟩ (e1_X1_mention l G ma mr _ B σ t z hI hzb hbad) (cwV 1 hts gL_law_X1_mention rfl rfl rfl (by decide +kernel) ⟨Nat.le_of_ble_eq_true rfl, Nat.le_of_ble_eq_true rfl⟩) (preWM hK (b_m hP) (d_m hD)) rfl rfl hl.1 rfl (lv_room (Nat.le_of_ble_eq_true rfl)) dL_law_419 ⟨by show _ ≤ 698866; omega, by show _ ≤ 6999506; omega⟩) hS (a_m hD hS) (fun H locs hP1 hS _ hkk => ?_)
  have hP := j_m hP hD hP1 hkk
  have hD := d_mv hD σ σ 1 (v)
  refine lv_istore (lv' := [(6, .int (iI 0)), (5, .int (iI 1)), (4, .int (iI (ix : Int))), (0, .ref b), (1, .ref xa), (2, .ref ma), (3, .ref oa)]) hx hb dL_law_422 hl (by decide) rfl (fun ls hl => ?_)
  refine lv_aload_n hx hb dL_law_424 rfl (lv_at hl 5 rfl) ?_
  refine zc_wi (va_runV (As := []) (rest := []) ⟨hx, hb, hml, hown, hts⟩ (c_X1_thrown l G ma mr _ σ 1) (cwV 0 hts gL_law_X1_thrown rfl rfl rfl (by decide +kernel) ⟨Nat.le_of_ble_eq_true rfl, Nat.le_of_ble_eq_true rfl⟩) (preWM hK (b_m hP) (d_m hD)) rfl rfl hl.1 rfl (lv_room (Nat.le_of_ble_eq_true rfl)) dL_law_425 ⟨by show _ ≤ 698866; omega, by show _ ≤ 6999506; omega⟩) hS (a_m hD hS) (fun H locs hP1 hS _ hkk => ?_)
  have hP := j_m hP hD hP1 hkk
  refine lv_iload hx hb dL_law_428 (lv_at hl 1 rfl) ?_
  refine z_icmp_eq (tgt := 435) hx hb dL_law_430 (by decide) (by omega) (by omega) (fun _ => ?_) (fun h => absurd (by omega) h)
  refine lv_iload hx hb dL_law_435 (lv_at hl 1 rfl) ?_
  refine z_if_ne (tgt := 452) hx hb dL_law_437 (by decide) (by decide) (fun _ => ?_) (fun h => absurd h (by decide))
  refine lv_goto (tgt := 2000) hx hb dL_law_452 (by decide) ?_
  exact kk _ _ _ _ _ _ _ ⟨hP, hD, hS⟩ (by omega) (by omega) (lv_sub hl [2, 3, 4, 5, 6] rfl)
set_option maxHeartbeats 4000000 in
set_option maxRecDepth 100000 in
theorem k2_mention (C : lC pg l s m args c G b L xs) (hP : lP G s xa xr ma mr oa σ t v H locs) (hc : cells + 32 ≤ 698866) (hs : slots + 256 ≤ 6999506) (hl : lv_has ls 9 [(4, .int (iI (ix : Int))), (0, .ref b), (1, .ref xa), (2, .ref ma), (3, .ref oa)]) (hix : ix + 3 < L) (B : Nat) (k : Nat) (e1 : xs (ix + 1) = iI (k : Int)) (hI : zI B σ) (hk : k < σ.1 1) (ho : σ.2 5 k ≠ 0) (kk : lK pg l e s m args below meth c G b xa xr ma mr oa ix cells slots Q σ) : W pg l e room_1 s m args below meth c H locs cells slots Q (F0 m 399 ls []) := by
  obtain ⟨hx, hb, hml, hown, hts, hfl, hK, hE0, hN, hX, hbl, hL⟩ := C
  obtain ⟨hP, hD, hS⟩ := hP
  have hP : va_P G.1 vwCl (V3 G xa xr ma mr oa σ σ t v) H := hP
  have hD : va_D (nA s.heap.size) (V3 G xa xr ma mr oa σ σ t v) := hD
  refine lv_aload_n hx hb dL_law_399 rfl (lv_at hl 2 rfl) ?_
  refine lv_aload_n hx hb dL_law_400 rfl (lv_at hl 1 rfl) ?_
  refine lv_iload hx hb dL_law_401 (lv_at hl 0 rfl) ?_
  refine lv_iconst (v := iI 1) hx hb dL_law_403 rfl ?_
  refine z_iadd hx hb dL_law_404 ?_
  refine z_sld hx hb hX hbl hS (ix + 1) (by omega) (by omega) hL e1 dL_law_405 ?_
  refine lv_aload_n hx hb dL_law_406 rfl (lv_at hl 4 rfl) ?_
  refine zc_f (vx_runSW (As := [.ref xa, .int (iI (k : Int)), .ref oa]) (rest := []) ⟨hx, hb, hml, hown, hts⟩ (f2_L_mention l hfl G xa xr oa _ B σ k hI hk ho) (vx_cwSW 3 hts gL_law_L_mention rfl rfl rfl (by decide +kernel) ⟨Nat.le_of_ble_eq_true rfl, Nat.le_of_ble_eq_true rfl⟩) (preWF hK (b_x hP) (j_E hE0 hS) hN) rfl rfl hl.1 rfl (lv_room (Nat.le_of_ble_eq_true rfl)) dL_law_407 ⟨by show _ ≤ 698866; omega, by show _ ≤ 6999506; omega⟩) hS (fun H locs hS hkk => ?_)
  have hP := j_0 hP hkk
  refine lv_istore (lv' := [(5, .int (iI 2)), (4, .int (iI (ix : Int))), (0, .ref b), (1, .ref xa), (2, .ref ma), (3, .ref oa)]) hx hb dL_law_410 hl (by decide) rfl (fun ls hl => ?_)
  refine lv_aload_n hx hb dL_law_412 rfl (lv_at hl 4 rfl) ?_
  refine lv_aload_n hx hb dL_law_413 rfl (lv_at hl 2 rfl) ?_
  refine lv_iload hx hb dL_law_414 (lv_at hl 1 rfl) ?_
  refine lv_iconst (v := iI 1) hx hb dL_law_416 rfl ?_
  refine z_iadd hx hb dL_law_417 ?_
  refine z_sld hx hb hX hbl hS (ix + 1) (by omega) (by omega) hL e1 dL_law_418 ?_
  refine zc_wi (va_runV (As := [.int (iI (k : Int))]) (rest := []) ⟨hx, hb, hml, hown, hts⟩ (e2_X1_mention l G ma mr _ B σ t k hI hk ho) (cwV 1 hts gL_law_X1_mention rfl rfl rfl (by decide +kernel) ⟨Nat.le_of_ble_eq_true rfl, Nat.le_of_ble_eq_true rfl⟩) (preWM hK (b_m hP) (d_m hD)) rfl rfl hl.1 rfl (lv_room (Nat.le_of_ble_eq_true rfl)) dL_law_419 ⟨by show _ ≤ 698866; omega, by show _ ≤ 6999506; omega⟩) hS (a_m hD hS) (fun H locs hP1 hS _ hkk => ?_)
  have hP := j_m hP hD hP1 hkk
  have hD := d_mv hD σ σ 2 (v)
  refine lv_istore (lv' := [(6, .int (iI 0)), (5, .int (iI 2)), (4, .int (iI (ix : Int))), (0, .ref b), (1, .ref xa), (2, .ref ma), (3, .ref oa)]) hx hb dL_law_422 hl (by decide) rfl (fun ls hl => ?_)
  refine lv_aload_n hx hb dL_law_424 rfl (lv_at hl 5 rfl) ?_
  refine zc_wi (va_runV (As := []) (rest := []) ⟨hx, hb, hml, hown, hts⟩ (c_X1_thrown l G ma mr _ σ 2) (cwV 0 hts gL_law_X1_thrown rfl rfl rfl (by decide +kernel) ⟨Nat.le_of_ble_eq_true rfl, Nat.le_of_ble_eq_true rfl⟩) (preWM hK (b_m hP) (d_m hD)) rfl rfl hl.1 rfl (lv_room (Nat.le_of_ble_eq_true rfl)) dL_law_425 ⟨by show _ ≤ 698866; omega, by show _ ≤ 6999506; omega⟩) hS (a_m hD hS) (fun H locs hP1 hS _ hkk => ?_)
  have hP := j_m hP hD hP1 hkk
  refine lv_iload hx hb dL_law_428 (lv_at hl 1 rfl) ?_
  refine z_icmp_eq (tgt := 435) hx hb dL_law_430 (by decide) (by omega) (by omega) (fun _ => ?_) (fun h => absurd (by omega) h)
  refine lv_iload hx hb dL_law_435 (lv_at hl 1 rfl) ?_
  refine z_if_ne (tgt := 452) hx hb dL_law_437 (by decide) (by decide) (fun _ => ?_) (fun h => absurd h (by decide))
  refine lv_goto (tgt := 2000) hx hb dL_law_452 (by decide) ?_
  exact kk _ _ _ _ _ _ _ ⟨hP, hD, hS⟩ (by omega) (by omega) (lv_sub hl [2, 3, 4, 5, 6] rfl)
set_option maxHeartbeats 4000000 in
set_option maxRecDepth 100000 in
theorem k1_apologize (C : lC pg l s m args c G b L xs) (hP : lP G s xa xr ma mr oa σ t v H locs) (hc : cells + 32 ≤ 698866) (hs : slots + 256 ≤ 6999506) (hl : lv_has ls 9 [(4, .int (iI (ix : Int))), (0, .ref b), (1, .ref xa), (2, .ref ma), (3, .ref oa)]) (hix : ix + 3 < L) (B : Nat) (z : Int) (w : Int) (e1 : xs (ix + 1) = iI z) (e2 : xs (ix + 2) = iI w) (hI : zI B σ) (hzb : -2147483648 ≤ z ∧ z < 2147483648) (hbad : z < 0 ∨ (σ.1 1 : Int) ≤ z) (kk : lK pg l e s m args below meth c G b xa xr ma mr oa ix cells slots Q σ) : W pg l e room_1 s m args below meth c H locs cells slots Q (F0 m 455 ls []) := by
  obtain ⟨hx, hb, hml, hown, hts, hfl, hK, hE0, hN, hX, hbl, hL⟩ := C
  obtain ⟨hP, hD, hS⟩ := hP
  have hP : va_P G.1 vwCl (V3 G xa xr ma mr oa σ σ t v) H := hP
  have hD : va_D (nA s.heap.size) (V3 G xa xr ma mr oa σ σ t v) := hD
  refine lv_aload_n hx hb dL_law_455 rfl (lv_at hl 2 rfl) ?_
  refine lv_aload_n hx hb dL_law_456 rfl (lv_at hl 1 rfl) ?_
  refine lv_iload hx hb dL_law_457 (lv_at hl 0 rfl) ?_
  refine lv_iconst (v := iI 1) hx hb dL_law_459 rfl ?_
  refine z_iadd hx hb dL_law_460 ?_
  refine z_sld hx hb hX hbl hS (ix + 1) (by omega) (by omega) hL e1 dL_law_461 ?_
  refine lv_aload_n hx hb dL_law_462 rfl (lv_at hl 1 rfl) ?_
  refine lv_iload hx hb dL_law_463 (lv_at hl 0 rfl) ?_
  refine lv_iconst (v := iI 2) hx hb dL_law_465 rfl ?_
  refine z_iadd hx hb dL_law_466 ?_
  refine z_sld hx hb hX hbl hS (ix + 2) (by omega) (by omega) hL e2 dL_law_467 ?_
  refine lv_aload_n hx hb dL_law_468 rfl (lv_at hl 4 rfl) ?_
  refine zc_f (vx_runSW (As := [.ref xa, .int (iI z), .int (iI w), .ref oa]) (rest := []) ⟨hx, hb, hml, hown, hts⟩ (f1_L_apologize l hfl G xa xr oa _ B σ z w hI hzb hbad) (vx_cwSW 4 hts gL_law_L_apologize rfl rfl rfl (by decide +kernel) ⟨Nat.le_of_ble_eq_true rfl, Nat.le_of_ble_eq_true rfl⟩) (preWF hK (b_x hP) (j_E hE0 hS) hN) rfl rfl hl.1 rfl (lv_room (Nat.le_of_ble_eq_true rfl)) dL_law_469 ⟨by show _ ≤ 698866; omega, by show _ ≤ 6999506; omega⟩) hS (fun H locs hS hkk => ?_)
  have hP := j_0 hP hkk
  refine lv_istore (lv' := [(5, .int (iI 1)), (4, .int (iI (ix : Int))), (0, .ref b), (1, .ref xa), (2, .ref ma), (3, .ref oa)]) hx hb dL_law_472 hl (by decide) rfl (fun ls hl => ?_)
  refine lv_aload_n hx hb dL_law_474 rfl (lv_at hl 4 rfl) ?_
  refine lv_aload_n hx hb dL_law_475 rfl (lv_at hl 2 rfl) ?_
  refine lv_iload hx hb dL_law_476 (lv_at hl 1 rfl) ?_
  refine lv_iconst (v := iI 1) hx hb dL_law_478 rfl ?_
  refine z_iadd hx hb dL_law_479 ?_
  refine z_sld hx hb hX hbl hS (ix + 1) (by omega) (by omega) hL e1 dL_law_480 ?_
  refine lv_aload_n hx hb dL_law_481 rfl (lv_at hl 2 rfl) ?_
  refine lv_iload hx hb dL_law_482 (lv_at hl 1 rfl) ?_
  refine lv_iconst (v := iI 2) hx hb dL_law_484 rfl ?_
  refine z_iadd hx hb dL_law_485 ?_
  refine z_sld hx hb hX hbl hS (ix + 2) (by omega) (by omega) hL e2 dL_law_486 ?_
  refine zc_wi (va_runV (As := [.int (iI z), .int (iI w)]) (rest := []) ⟨hx, hb, hml, hown, hts⟩ (e1_X1_apologize l G ma mr _ B σ t z w hI hzb hbad) (cwV 2 hts gL_law_X1_apologize rfl rfl rfl (by decide +kernel) ⟨Nat.le_of_ble_eq_true rfl, Nat.le_of_ble_eq_true rfl⟩) (preWM hK (b_m hP) (d_m hD)) rfl rfl hl.1 rfl (lv_room (Nat.le_of_ble_eq_true rfl)) dL_law_487 ⟨by show _ ≤ 698866; omega, by show _ ≤ 6999506; omega⟩) hS (a_m hD hS) (fun H locs hP1 hS _ hkk => ?_)
  have hP := j_m hP hD hP1 hkk
  have hD := d_mv hD σ σ 1 (v)
  refine lv_istore (lv' := [(6, .int (iI 0)), (5, .int (iI 1)), (4, .int (iI (ix : Int))), (0, .ref b), (1, .ref xa), (2, .ref ma), (3, .ref oa)]) hx hb dL_law_490 hl (by decide) rfl (fun ls hl => ?_)
  refine lv_aload_n hx hb dL_law_492 rfl (lv_at hl 5 rfl) ?_
  refine zc_wi (va_runV (As := []) (rest := []) ⟨hx, hb, hml, hown, hts⟩ (c_X1_thrown l G ma mr _ σ 1) (cwV 0 hts gL_law_X1_thrown rfl rfl rfl (by decide +kernel) ⟨Nat.le_of_ble_eq_true rfl, Nat.le_of_ble_eq_true rfl⟩) (preWM hK (b_m hP) (d_m hD)) rfl rfl hl.1 rfl (lv_room (Nat.le_of_ble_eq_true rfl)) dL_law_493 ⟨by show _ ≤ 698866; omega, by show _ ≤ 6999506; omega⟩) hS (a_m hD hS) (fun H locs hP1 hS _ hkk => ?_)
  have hP := j_m hP hD hP1 hkk
  refine lv_iload hx hb dL_law_496 (lv_at hl 1 rfl) ?_
  refine z_icmp_eq (tgt := 503) hx hb dL_law_498 (by decide) (by omega) (by omega) (fun _ => ?_) (fun h => absurd (by omega) h)
  refine lv_iload hx hb dL_law_503 (lv_at hl 1 rfl) ?_
  refine z_if_ne (tgt := 520) hx hb dL_law_505 (by decide) (by decide) (fun _ => ?_) (fun h => absurd h (by decide))
  refine lv_goto (tgt := 2000) hx hb dL_law_520 (by decide) ?_
  exact kk _ _ _ _ _ _ _ ⟨hP, hD, hS⟩ (by omega) (by omega) (lv_sub hl [2, 3, 4, 5, 6] rfl)
set_option maxHeartbeats 4000000 in
set_option maxRecDepth 100000 in
theorem k2_apologize (C : lC pg l s m args c G b L xs) (hP : lP G s xa xr ma mr oa σ t v H locs) (hc : cells + 32 ≤ 698866) (hs : slots + 256 ≤ 6999506) (hl : lv_has ls 9 [(4, .int (iI (ix : Int))), (0, .ref b), (1, .ref xa), (2, .ref ma), (3, .ref oa)]) (hix : ix + 3 < L) (B : Nat) (k : Nat) (z : Int) (e1 : xs (ix + 1) = iI (k : Int)) (e2 : xs (ix + 2) = iI z) (hI : zI B σ) (hk : k < σ.1 1) (hzb : -2147483648 ≤ z ∧ z < 2147483648) (hbad : z < 1 ∨ 20 < z) (kk : lK pg l e s m args below meth c G b xa xr ma mr oa ix cells slots Q σ) : W pg l e room_1 s m args below meth c H locs cells slots Q (F0 m 455 ls []) := by
  obtain ⟨hx, hb, hml, hown, hts, hfl, hK, hE0, hN, hX, hbl, hL⟩ := C
  obtain ⟨hP, hD, hS⟩ := hP
  have hP : va_P G.1 vwCl (V3 G xa xr ma mr oa σ σ t v) H := hP
  have hD : va_D (nA s.heap.size) (V3 G xa xr ma mr oa σ σ t v) := hD
  refine lv_aload_n hx hb dL_law_455 rfl (lv_at hl 2 rfl) ?_
  refine lv_aload_n hx hb dL_law_456 rfl (lv_at hl 1 rfl) ?_
  refine lv_iload hx hb dL_law_457 (lv_at hl 0 rfl) ?_
  refine lv_iconst (v := iI 1) hx hb dL_law_459 rfl ?_
  refine z_iadd hx hb dL_law_460 ?_
  refine z_sld hx hb hX hbl hS (ix + 1) (by omega) (by omega) hL e1 dL_law_461 ?_
  refine lv_aload_n hx hb dL_law_462 rfl (lv_at hl 1 rfl) ?_
  refine lv_iload hx hb dL_law_463 (lv_at hl 0 rfl) ?_
  refine lv_iconst (v := iI 2) hx hb dL_law_465 rfl ?_
  refine z_iadd hx hb dL_law_466 ?_
  refine z_sld hx hb hX hbl hS (ix + 2) (by omega) (by omega) hL e2 dL_law_467 ?_
  refine lv_aload_n hx hb dL_law_468 rfl (lv_at hl 4 rfl) ?_
  refine zc_f (vx_runSW (As := [.ref xa, .int (iI (k : Int)), .int (iI z), .ref oa]) (rest := []) ⟨hx, hb, hml, hown, hts⟩ (f2_L_apologize l hfl G xa xr oa _ B σ k z hI hk hzb hbad) (vx_cwSW 4 hts gL_law_L_apologize rfl rfl rfl (by decide +kernel) ⟨Nat.le_of_ble_eq_true rfl, Nat.le_of_ble_eq_true rfl⟩) (preWF hK (b_x hP) (j_E hE0 hS) hN) rfl rfl hl.1 rfl (lv_room (Nat.le_of_ble_eq_true rfl)) dL_law_469 ⟨by show _ ≤ 698866; omega, by show _ ≤ 6999506; omega⟩) hS (fun H locs hS hkk => ?_)
  have hP := j_0 hP hkk
  refine lv_istore (lv' := [(5, .int (iI 2)), (4, .int (iI (ix : Int))), (0, .ref b), (1, .ref xa), (2, .ref ma), (3, .ref oa)]) hx hb dL_law_472 hl (by decide) rfl (fun ls hl => ?_)
  refine lv_aload_n hx hb dL_law_474 rfl (lv_at hl 4 rfl) ?_
  refine lv_aload_n hx hb dL_law_475 rfl (lv_at hl 2 rfl) ?_
  refine lv_iload hx hb dL_law_476 (lv_at hl 1 rfl) ?_
  refine lv_iconst (v := iI 1) hx hb dL_law_478 rfl ?_
  refine z_iadd hx hb dL_law_479 ?_
  refine z_sld hx hb hX hbl hS (ix + 1) (by omega) (by omega) hL e1 dL_law_480 ?_
  refine lv_aload_n hx hb dL_law_481 rfl (lv_at hl 2 rfl) ?_
  refine lv_iload hx hb dL_law_482 (lv_at hl 1 rfl) ?_
  refine lv_iconst (v := iI 2) hx hb dL_law_484 rfl ?_
  refine z_iadd hx hb dL_law_485 ?_
  refine z_sld hx hb hX hbl hS (ix + 2) (by omega) (by omega) hL e2 dL_law_486 ?_
  refine zc_wi (va_runV (As := [.int (iI (k : Int)), .int (iI z)]) (rest := []) ⟨hx, hb, hml, hown, hts⟩ (e2_X1_apologize l G ma mr _ B σ t k z hI hk hzb hbad) (cwV 2 hts gL_law_X1_apologize rfl rfl rfl (by decide +kernel) ⟨Nat.le_of_ble_eq_true rfl, Nat.le_of_ble_eq_true rfl⟩) (preWM hK (b_m hP) (d_m hD)) rfl rfl hl.1 rfl (lv_room (Nat.le_of_ble_eq_true rfl)) dL_law_487 ⟨by show _ ≤ 698866; omega, by show _ ≤ 6999506; omega⟩) hS (a_m hD hS) (fun H locs hP1 hS _ hkk => ?_)
  have hP := j_m hP hD hP1 hkk
  have hD := d_mv hD σ σ 2 (v)
  refine lv_istore (lv' := [(6, .int (iI 0)), (5, .int (iI 2)), (4, .int (iI (ix : Int))), (0, .ref b), (1, .ref xa), (2, .ref ma), (3, .ref oa)]) hx hb dL_law_490 hl (by decide) rfl (fun ls hl => ?_)
  refine lv_aload_n hx hb dL_law_492 rfl (lv_at hl 5 rfl) ?_
  refine zc_wi (va_runV (As := []) (rest := []) ⟨hx, hb, hml, hown, hts⟩ (c_X1_thrown l G ma mr _ σ 2) (cwV 0 hts gL_law_X1_thrown rfl rfl rfl (by decide +kernel) ⟨Nat.le_of_ble_eq_true rfl, Nat.le_of_ble_eq_true rfl⟩) (preWM hK (b_m hP) (d_m hD)) rfl rfl hl.1 rfl (lv_room (Nat.le_of_ble_eq_true rfl)) dL_law_493 ⟨by show _ ≤ 698866; omega, by show _ ≤ 6999506; omega⟩) hS (a_m hD hS) (fun H locs hP1 hS _ hkk => ?_)
  have hP := j_m hP hD hP1 hkk
  refine lv_iload hx hb dL_law_496 (lv_at hl 1 rfl) ?_
  refine z_icmp_eq (tgt := 503) hx hb dL_law_498 (by decide) (by omega) (by omega) (fun _ => ?_) (fun h => absurd (by omega) h)
  refine lv_iload hx hb dL_law_503 (lv_at hl 1 rfl) ?_
  refine z_if_ne (tgt := 520) hx hb dL_law_505 (by decide) (by decide) (fun _ => ?_) (fun h => absurd h (by decide))
  refine lv_goto (tgt := 2000) hx hb dL_law_520 (by decide) ?_
  exact kk _ _ _ _ _ _ _ ⟨hP, hD, hS⟩ (by omega) (by omega) (lv_sub hl [2, 3, 4, 5, 6] rfl)
set_option maxHeartbeats 4000000 in
set_option maxRecDepth 100000 in
theorem k3_apologize (C : lC pg l s m args c G b L xs) (hP : lP G s xa xr ma mr oa σ t v H locs) (hc : cells + 32 ≤ 698866) (hs : slots + 256 ≤ 6999506) (hl : lv_has ls 9 [(4, .int (iI (ix : Int))), (0, .ref b), (1, .ref xa), (2, .ref ma), (3, .ref oa)]) (hix : ix + 3 < L) (B : Nat) (k : Nat) (w : Int) (e1 : xs (ix + 1) = iI (k : Int)) (e2 : xs (ix + 2) = iI w) (hI : zI B σ) (hk : k < σ.1 1) (hw : 1 ≤ w ∧ w ≤ 20) (ho : σ.2 5 k ≠ 0) (kk : lK pg l e s m args below meth c G b xa xr ma mr oa ix cells slots Q σ) : W pg l e room_1 s m args below meth c H locs cells slots Q (F0 m 455 ls []) := by
  obtain ⟨hx, hb, hml, hown, hts, hfl, hK, hE0, hN, hX, hbl, hL⟩ := C
  obtain ⟨hP, hD, hS⟩ := hP
  have hP : va_P G.1 vwCl (V3 G xa xr ma mr oa σ σ t v) H := hP
  have hD : va_D (nA s.heap.size) (V3 G xa xr ma mr oa σ σ t v) := hD
  refine lv_aload_n hx hb dL_law_455 rfl (lv_at hl 2 rfl) ?_
  refine lv_aload_n hx hb dL_law_456 rfl (lv_at hl 1 rfl) ?_
  refine lv_iload hx hb dL_law_457 (lv_at hl 0 rfl) ?_
  refine lv_iconst (v := iI 1) hx hb dL_law_459 rfl ?_
  refine z_iadd hx hb dL_law_460 ?_
  refine z_sld hx hb hX hbl hS (ix + 1) (by omega) (by omega) hL e1 dL_law_461 ?_
  refine lv_aload_n hx hb dL_law_462 rfl (lv_at hl 1 rfl) ?_
  refine lv_iload hx hb dL_law_463 (lv_at hl 0 rfl) ?_
  refine lv_iconst (v := iI 2) hx hb dL_law_465 rfl ?_
  refine z_iadd hx hb dL_law_466 ?_
  refine z_sld hx hb hX hbl hS (ix + 2) (by omega) (by omega) hL e2 dL_law_467 ?_
  refine lv_aload_n hx hb dL_law_468 rfl (lv_at hl 4 rfl) ?_
  refine zc_f (vx_runSW (As := [.ref xa, .int (iI (k : Int)), .int (iI w), .ref oa]) (rest := []) ⟨hx, hb, hml, hown, hts⟩ (f3_L_apologize l hfl G xa xr oa _ B σ k w hI hk hw ho) (vx_cwSW 4 hts gL_law_L_apologize rfl rfl rfl (by decide +kernel) ⟨Nat.le_of_ble_eq_true rfl, Nat.le_of_ble_eq_true rfl⟩) (preWF hK (b_x hP) (j_E hE0 hS) hN) rfl rfl hl.1 rfl (lv_room (Nat.le_of_ble_eq_true rfl)) dL_law_469 ⟨by show _ ≤ 698866; omega, by show _ ≤ 6999506; omega⟩) hS (fun H locs hS hkk => ?_)
  have hP := j_0 hP hkk
  refine lv_istore (lv' := [(5, .int (iI 3)), (4, .int (iI (ix : Int))), (0, .ref b), (1, .ref xa), (2, .ref ma), (3, .ref oa)]) hx hb dL_law_472 hl (by decide) rfl (fun ls hl => ?_)
  refine lv_aload_n hx hb dL_law_474 rfl (lv_at hl 4 rfl) ?_
  refine lv_aload_n hx hb dL_law_475 rfl (lv_at hl 2 rfl) ?_
  refine lv_iload hx hb dL_law_476 (lv_at hl 1 rfl) ?_
  refine lv_iconst (v := iI 1) hx hb dL_law_478 rfl ?_
  refine z_iadd hx hb dL_law_479 ?_
  refine z_sld hx hb hX hbl hS (ix + 1) (by omega) (by omega) hL e1 dL_law_480 ?_
  refine lv_aload_n hx hb dL_law_481 rfl (lv_at hl 2 rfl) ?_
  refine lv_iload hx hb dL_law_482 (lv_at hl 1 rfl) ?_
  refine lv_iconst (v := iI 2) hx hb dL_law_484 rfl ?_
  refine z_iadd hx hb dL_law_485 ?_
  refine z_sld hx hb hX hbl hS (ix + 2) (by omega) (by omega) hL e2 dL_law_486 ?_
  refine zc_wi (va_runV (As := [.int (iI (k : Int)), .int (iI w)]) (rest := []) ⟨hx, hb, hml, hown, hts⟩ (e3_X1_apologize l G ma mr _ B σ t k w hI hk hw ho) (cwV 2 hts gL_law_X1_apologize rfl rfl rfl (by decide +kernel) ⟨Nat.le_of_ble_eq_true rfl, Nat.le_of_ble_eq_true rfl⟩) (preWM hK (b_m hP) (d_m hD)) rfl rfl hl.1 rfl (lv_room (Nat.le_of_ble_eq_true rfl)) dL_law_487 ⟨by show _ ≤ 698866; omega, by show _ ≤ 6999506; omega⟩) hS (a_m hD hS) (fun H locs hP1 hS _ hkk => ?_)
  have hP := j_m hP hD hP1 hkk
  have hD := d_mv hD σ σ 3 (v)
  refine lv_istore (lv' := [(6, .int (iI 0)), (5, .int (iI 3)), (4, .int (iI (ix : Int))), (0, .ref b), (1, .ref xa), (2, .ref ma), (3, .ref oa)]) hx hb dL_law_490 hl (by decide) rfl (fun ls hl => ?_)
  refine lv_aload_n hx hb dL_law_492 rfl (lv_at hl 5 rfl) ?_
  refine zc_wi (va_runV (As := []) (rest := []) ⟨hx, hb, hml, hown, hts⟩ (c_X1_thrown l G ma mr _ σ 3) (cwV 0 hts gL_law_X1_thrown rfl rfl rfl (by decide +kernel) ⟨Nat.le_of_ble_eq_true rfl, Nat.le_of_ble_eq_true rfl⟩) (preWM hK (b_m hP) (d_m hD)) rfl rfl hl.1 rfl (lv_room (Nat.le_of_ble_eq_true rfl)) dL_law_493 ⟨by show _ ≤ 698866; omega, by show _ ≤ 6999506; omega⟩) hS (a_m hD hS) (fun H locs hP1 hS _ hkk => ?_)
  have hP := j_m hP hD hP1 hkk
  refine lv_iload hx hb dL_law_496 (lv_at hl 1 rfl) ?_
  refine z_icmp_eq (tgt := 503) hx hb dL_law_498 (by decide) (by omega) (by omega) (fun _ => ?_) (fun h => absurd (by omega) h)
  refine lv_iload hx hb dL_law_503 (lv_at hl 1 rfl) ?_
  refine z_if_ne (tgt := 520) hx hb dL_law_505 (by decide) (by decide) (fun _ => ?_) (fun h => absurd h (by decide))
  refine lv_goto (tgt := 2000) hx hb dL_law_520 (by decide) ?_
  exact kk _ _ _ _ _ _ _ ⟨hP, hD, hS⟩ (by omega) (by omega) (lv_sub hl [2, 3, 4, 5, 6] rfl)
set_option maxHeartbeats 4000000 in
set_option maxRecDepth 100000 in
theorem k1_setOff (C : lC pg l s m args c G b L xs) (hP : lP G s xa xr ma mr oa σ t v H locs) (hc : cells + 32 ≤ 698866) (hs : slots + 256 ≤ 6999506) (hl : lv_has ls 9 [(4, .int (iI (ix : Int))), (0, .ref b), (1, .ref xa), (2, .ref ma), (3, .ref oa)]) (hix : ix + 3 < L) (B : Nat) (z : Int) (y : Int) (e1 : xs (ix + 1) = iI z) (e2 : xs (ix + 2) = iI y) (hI : zI B σ) (hzb : -2147483648 ≤ z ∧ z < 2147483648) (hbad : z < 0 ∨ (σ.1 1 : Int) ≤ z) (kk : lK pg l e s m args below meth c G b xa xr ma mr oa ix cells slots Q σ) : W pg l e room_1 s m args below meth c H locs cells slots Q (F0 m 523 ls []) := by
  obtain ⟨hx, hb, hml, hown, hts, hfl, hK, hE0, hN, hX, hbl, hL⟩ := C
  obtain ⟨hP, hD, hS⟩ := hP
  have hP : va_P G.1 vwCl (V3 G xa xr ma mr oa σ σ t v) H := hP
  have hD : va_D (nA s.heap.size) (V3 G xa xr ma mr oa σ σ t v) := hD
  refine lv_aload_n hx hb dL_law_523 rfl (lv_at hl 2 rfl) ?_
  refine lv_aload_n hx hb dL_law_524 rfl (lv_at hl 1 rfl) ?_
  refine lv_iload hx hb dL_law_525 (lv_at hl 0 rfl) ?_
  refine lv_iconst (v := iI 1) hx hb dL_law_527 rfl ?_
  refine z_iadd hx hb dL_law_528 ?_
  refine z_sld hx hb hX hbl hS (ix + 1) (by omega) (by omega) hL e1 dL_law_529 ?_
  refine lv_aload_n hx hb dL_law_530 rfl (lv_at hl 1 rfl) ?_
  refine lv_iload hx hb dL_law_531 (lv_at hl 0 rfl) ?_
  refine lv_iconst (v := iI 2) hx hb dL_law_533 rfl ?_
  refine z_iadd hx hb dL_law_534 ?_
  refine z_sld hx hb hX hbl hS (ix + 2) (by omega) (by omega) hL e2 dL_law_535 ?_
  refine lv_aload_n hx hb dL_law_536 rfl (lv_at hl 4 rfl) ?_
  refine zc_f (vx_runSW (As := [.ref xa, .int (iI z), .int (iI y), .ref oa]) (rest := []) ⟨hx, hb, hml, hown, hts⟩ (f1_L_setOff l hfl G xa xr oa _ B σ z y hI hzb hbad) (vx_cwSW 4 hts gL_law_L_setOff rfl rfl rfl (by decide +kernel) ⟨Nat.le_of_ble_eq_true rfl, Nat.le_of_ble_eq_true rfl⟩) (preWF hK (b_x hP) (j_E hE0 hS) hN) rfl rfl hl.1 rfl (lv_room (Nat.le_of_ble_eq_true rfl)) dL_law_537 ⟨by show _ ≤ 698866; omega, by show _ ≤ 6999506; omega⟩) hS (fun H locs hS hkk => ?_)
  have hP := j_0 hP hkk
  refine lv_istore (lv' := [(5, .int (iI 1)), (4, .int (iI (ix : Int))), (0, .ref b), (1, .ref xa), (2, .ref ma), (3, .ref oa)]) hx hb dL_law_540 hl (by decide) rfl (fun ls hl => ?_)
  refine lv_aload_n hx hb dL_law_542 rfl (lv_at hl 4 rfl) ?_
  refine lv_aload_n hx hb dL_law_543 rfl (lv_at hl 2 rfl) ?_
  refine lv_iload hx hb dL_law_544 (lv_at hl 1 rfl) ?_
  refine lv_iconst (v := iI 1) hx hb dL_law_546 rfl ?_
  refine z_iadd hx hb dL_law_547 ?_
  refine z_sld hx hb hX hbl hS (ix + 1) (by omega) (by omega) hL e1 dL_law_548 ?_
  refine lv_aload_n hx hb dL_law_549 rfl (lv_at hl 2 rfl) ?_
  refine lv_iload hx hb dL_law_550 (lv_at hl 1 rfl) ?_
  refine lv_iconst (v := iI 2) hx hb dL_law_552 rfl ?_
  refine z_iadd hx hb dL_law_553 ?_
  refine z_sld hx hb hX hbl hS (ix + 2) (by omega) (by omega) hL e2 dL_law_554 ?_
  refine zc_wi (va_runV (As := [.int (iI z), .int (iI y)]) (rest := []) ⟨hx, hb, hml, hown, hts⟩ (e1_X1_setOff l G ma mr _ B σ t z y hI hzb hbad) (cwV 2 hts gL_law_X1_setOff rfl rfl rfl (by decide +kernel) ⟨Nat.le_of_ble_eq_true rfl, Nat.le_of_ble_eq_true rfl⟩) (preWM hK (b_m hP) (d_m hD)) rfl rfl hl.1 rfl (lv_room (Nat.le_of_ble_eq_true rfl)) dL_law_555 ⟨by show _ ≤ 698866; omega, by show _ ≤ 6999506; omega⟩) hS (a_m hD hS) (fun H locs hP1 hS _ hkk => ?_)
  have hP := j_m hP hD hP1 hkk
  have hD := d_mv hD σ σ 1 (v)
  refine lv_istore (lv' := [(6, .int (iI 0)), (5, .int (iI 1)), (4, .int (iI (ix : Int))), (0, .ref b), (1, .ref xa), (2, .ref ma), (3, .ref oa)]) hx hb dL_law_558 hl (by decide) rfl (fun ls hl => ?_)
  refine lv_aload_n hx hb dL_law_560 rfl (lv_at hl 5 rfl) ?_
  refine zc_wi (va_runV (As := []) (rest := []) ⟨hx, hb, hml, hown, hts⟩ (c_X1_thrown l G ma mr _ σ 1) (cwV 0 hts gL_law_X1_thrown rfl rfl rfl (by decide +kernel) ⟨Nat.le_of_ble_eq_true rfl, Nat.le_of_ble_eq_true rfl⟩) (preWM hK (b_m hP) (d_m hD)) rfl rfl hl.1 rfl (lv_room (Nat.le_of_ble_eq_true rfl)) dL_law_561 ⟨by show _ ≤ 698866; omega, by show _ ≤ 6999506; omega⟩) hS (a_m hD hS) (fun H locs hP1 hS _ hkk => ?_)
  have hP := j_m hP hD hP1 hkk
  refine lv_iload hx hb dL_law_564 (lv_at hl 1 rfl) ?_
  refine z_icmp_eq (tgt := 571) hx hb dL_law_566 (by decide) (by omega) (by omega) (fun _ => ?_) (fun h => absurd (by omega) h)
  refine lv_iload hx hb dL_law_571 (lv_at hl 1 rfl) ?_
  refine z_if_ne (tgt := 588) hx hb dL_law_573 (by decide) (by decide) (fun _ => ?_) (fun h => absurd h (by decide))
  refine lv_goto (tgt := 2000) hx hb dL_law_588 (by decide) ?_
  exact kk _ _ _ _ _ _ _ ⟨hP, hD, hS⟩ (by omega) (by omega) (lv_sub hl [2, 3, 4, 5, 6] rfl)
set_option maxHeartbeats 4000000 in
set_option maxRecDepth 100000 in
theorem k2_setOff (C : lC pg l s m args c G b L xs) (hP : lP G s xa xr ma mr oa σ t v H locs) (hc : cells + 32 ≤ 698866) (hs : slots + 256 ≤ 6999506) (hl : lv_has ls 9 [(4, .int (iI (ix : Int))), (0, .ref b), (1, .ref xa), (2, .ref ma), (3, .ref oa)]) (hix : ix + 3 < L) (B : Nat) (i : Nat) (z : Int) (e1 : xs (ix + 1) = iI (i : Int)) (e2 : xs (ix + 2) = iI z) (hI : zI B σ) (hi : i < σ.1 1) (hzb : -2147483648 ≤ z ∧ z < 2147483648) (hbad : z < 0 ∨ (σ.1 1 : Int) ≤ z) (kk : lK pg l e s m args below meth c G b xa xr ma mr oa ix cells slots Q σ) : W pg l e room_1 s m args below meth c H locs cells slots Q (F0 m 523 ls []) := by
  obtain ⟨hx, hb, hml, hown, hts, hfl, hK, hE0, hN, hX, hbl, hL⟩ := C
  obtain ⟨hP, hD, hS⟩ := hP
  have hP : va_P G.1 vwCl (V3 G xa xr ma mr oa σ σ t v) H := hP
  have hD : va_D (nA s.heap.size) (V3 G xa xr ma mr oa σ σ t v) := hD
  refine lv_aload_n hx hb dL_law_523 rfl (lv_at hl 2 rfl) ?_
  refine lv_aload_n hx hb dL_law_524 rfl (lv_at hl 1 rfl) ?_
  refine lv_iload hx hb dL_law_525 (lv_at hl 0 rfl) ?_
  refine lv_iconst (v := iI 1) hx hb dL_law_527 rfl ?_
  refine z_iadd hx hb dL_law_528 ?_
  refine z_sld hx hb hX hbl hS (ix + 1) (by omega) (by omega) hL e1 dL_law_529 ?_
  refine lv_aload_n hx hb dL_law_530 rfl (lv_at hl 1 rfl) ?_
  refine lv_iload hx hb dL_law_531 (lv_at hl 0 rfl) ?_
  refine lv_iconst (v := iI 2) hx hb dL_law_533 rfl ?_
  refine z_iadd hx hb dL_law_534 ?_
  refine z_sld hx hb hX hbl hS (ix + 2) (by omega) (by omega) hL e2 dL_law_535 ?_
  refine lv_aload_n hx hb dL_law_536 rfl (lv_at hl 4 rfl) ?_
  refine zc_f (vx_runSW (As := [.ref xa, .int (iI (i : Int)), .int (iI z), .ref oa]) (rest := []) ⟨hx, hb, hml, hown, hts⟩ (f2_L_setOff l hfl G xa xr oa _ B σ i z hI hi hzb hbad) (vx_cwSW 4 hts gL_law_L_setOff rfl rfl rfl (by decide +kernel) ⟨Nat.le_of_ble_eq_true rfl, Nat.le_of_ble_eq_true rfl⟩) (preWF hK (b_x hP) (j_E hE0 hS) hN) rfl rfl hl.1 rfl (lv_room (Nat.le_of_ble_eq_true rfl)) dL_law_537 ⟨by show _ ≤ 698866; omega, by show _ ≤ 6999506; omega⟩) hS (fun H locs hS hkk => ?_)
  have hP := j_0 hP hkk
  refine lv_istore (lv' := [(5, .int (iI 1)), (4, .int (iI (ix : Int))), (0, .ref b), (1, .ref xa), (2, .ref ma), (3, .ref oa)]) hx hb dL_law_540 hl (by decide) rfl (fun ls hl => ?_)
  refine lv_aload_n hx hb dL_law_542 rfl (lv_at hl 4 rfl) ?_
  refine lv_aload_n hx hb dL_law_543 rfl (lv_at hl 2 rfl) ?_
  refine lv_iload hx hb dL_law_544 (lv_at hl 1 rfl) ?_
  refine lv_iconst (v := iI 1) hx hb dL_law_546 rfl ?_
  refine z_iadd hx hb dL_law_547 ?_
  refine z_sld hx hb hX hbl hS (ix + 1) (by omega) (by omega) hL e1 dL_law_548 ?_
  refine lv_aload_n hx hb dL_law_549 rfl (lv_at hl 2 rfl) ?_
  refine lv_iload hx hb dL_law_550 (lv_at hl 1 rfl) ?_
  refine lv_iconst (v := iI 2) hx hb dL_law_552 rfl ?_
  refine z_iadd hx hb dL_law_553 ?_
  refine z_sld hx hb hX hbl hS (ix + 2) (by omega) (by omega) hL e2 dL_law_554 ?_
  refine zc_wi (va_runV (As := [.int (iI (i : Int)), .int (iI z)]) (rest := []) ⟨hx, hb, hml, hown, hts⟩ (e2_X1_setOff l G ma mr _ B σ t i z hI hi hzb hbad) (cwV 2 hts gL_law_X1_setOff rfl rfl rfl (by decide +kernel) ⟨Nat.le_of_ble_eq_true rfl, Nat.le_of_ble_eq_true rfl⟩) (preWM hK (b_m hP) (d_m hD)) rfl rfl hl.1 rfl (lv_room (Nat.le_of_ble_eq_true rfl)) dL_law_555 ⟨by show _ ≤ 698866; omega, by show _ ≤ 6999506; omega⟩) hS (a_m hD hS) (fun H locs hP1 hS _ hkk => ?_)
  have hP := j_m hP hD hP1 hkk
  have hD := d_mv hD σ σ 1 (v)
  refine lv_istore (lv' := [(6, .int (iI 0)), (5, .int (iI 1)), (4, .int (iI (ix : Int))), (0, .ref b), (1, .ref xa), (2, .ref ma), (3, .ref oa)]) hx hb dL_law_558 hl (by decide) rfl (fun ls hl => ?_)
  refine lv_aload_n hx hb dL_law_560 rfl (lv_at hl 5 rfl) ?_
  refine zc_wi (va_runV (As := []) (rest := []) ⟨hx, hb, hml, hown, hts⟩ (c_X1_thrown l G ma mr _ σ 1) (cwV 0 hts gL_law_X1_thrown rfl rfl rfl (by decide +kernel) ⟨Nat.le_of_ble_eq_true rfl, Nat.le_of_ble_eq_true rfl⟩) (preWM hK (b_m hP) (d_m hD)) rfl rfl hl.1 rfl (lv_room (Nat.le_of_ble_eq_true rfl)) dL_law_561 ⟨by show _ ≤ 698866; omega, by show _ ≤ 6999506; omega⟩) hS (a_m hD hS) (fun H locs hP1 hS _ hkk => ?_)
  have hP := j_m hP hD hP1 hkk
  refine lv_iload hx hb dL_law_564 (lv_at hl 1 rfl) ?_
  refine z_icmp_eq (tgt := 571) hx hb dL_law_566 (by decide) (by omega) (by omega) (fun _ => ?_) (fun h => absurd (by omega) h)
  refine lv_iload hx hb dL_law_571 (lv_at hl 1 rfl) ?_
  refine z_if_ne (tgt := 588) hx hb dL_law_573 (by decide) (by decide) (fun _ => ?_) (fun h => absurd h (by decide))
  refine lv_goto (tgt := 2000) hx hb dL_law_588 (by decide) ?_
  exact kk _ _ _ _ _ _ _ ⟨hP, hD, hS⟩ (by omega) (by omega) (lv_sub hl [2, 3, 4, 5, 6] rfl)
set_option maxHeartbeats 4000000 in
set_option maxRecDepth 100000 in
theorem k3_setOff (C : lC pg l s m args c G b L xs) (hP : lP G s xa xr ma mr oa σ t v H locs) (hc : cells + 32 ≤ 698866) (hs : slots + 256 ≤ 6999506) (hl : lv_has ls 9 [(4, .int (iI (ix : Int))), (0, .ref b), (1, .ref xa), (2, .ref ma), (3, .ref oa)]) (hix : ix + 3 < L) (B : Nat) (i : Nat) (o : Nat) (e1 : xs (ix + 1) = iI (i : Int)) (e2 : xs (ix + 2) = iI (o : Int)) (hI : zI B σ) (hi : i < σ.1 1) (ho : o < σ.1 1) (h5 : σ.2 5 i ≠ 0) (kk : lK pg l e s m args below meth c G b xa xr ma mr oa ix cells slots Q σ) : W pg l e room_1 s m args below meth c H locs cells slots Q (F0 m 523 ls []) := by
  obtain ⟨hx, hb, hml, hown, hts, hfl, hK, hE0, hN, hX, hbl, hL⟩ := C
  obtain ⟨hP, hD, hS⟩ := hP
  have hP : va_P G.1 vwCl (V3 G xa xr ma mr oa σ σ t v) H := hP
  have hD : va_D (nA s.heap.size) (V3 G xa xr ma mr oa σ σ t v) := hD
  refine lv_aload_n hx hb dL_law_523 rfl (lv_at hl 2 rfl) ?_
  refine lv_aload_n hx hb dL_law_524 rfl (lv_at hl 1 rfl) ?_
  refine lv_iload hx hb dL_law_525 (lv_at hl 0 rfl) ?_
  refine lv_iconst (v := iI 1) hx hb dL_law_527 rfl ?_
  refine z_iadd hx hb dL_law_528 ?_
  refine z_sld hx hb hX hbl hS (ix + 1) (by omega) (by omega) hL e1 dL_law_529 ?_
  refine lv_aload_n hx hb dL_law_530 rfl (lv_at hl 1 rfl) ?_
  refine lv_iload hx hb dL_law_531 (lv_at hl 0 rfl) ?_
  refine lv_iconst (v := iI 2) hx hb dL_law_533 rfl ?_
  refine z_iadd hx hb dL_law_534 ?_
  refine z_sld hx hb hX hbl hS (ix + 2) (by omega) (by omega) hL e2 dL_law_535 ?_
  refine lv_aload_n hx hb dL_law_536 rfl (lv_at hl 4 rfl) ?_
  refine zc_f (vx_runSW (As := [.ref xa, .int (iI (i : Int)), .int (iI (o : Int)), .ref oa]) (rest := []) ⟨hx, hb, hml, hown, hts⟩ (f3_L_setOff l hfl G xa xr oa _ B σ i o hI hi ho h5) (vx_cwSW 4 hts gL_law_L_setOff rfl rfl rfl (by decide +kernel) ⟨Nat.le_of_ble_eq_true rfl, Nat.le_of_ble_eq_true rfl⟩) (preWF hK (b_x hP) (j_E hE0 hS) hN) rfl rfl hl.1 rfl (lv_room (Nat.le_of_ble_eq_true rfl)) dL_law_537 ⟨by show _ ≤ 698866; omega, by show _ ≤ 6999506; omega⟩) hS (fun H locs hS hkk => ?_)
  have hP := j_0 hP hkk
  refine lv_istore (lv' := [(5, .int (iI 2)), (4, .int (iI (ix : Int))), (0, .ref b), (1, .ref xa), (2, .ref ma), (3, .ref oa)]) hx hb dL_law_540 hl (by decide) rfl (fun ls hl => ?_)
  refine lv_aload_n hx hb dL_law_542 rfl (lv_at hl 4 rfl) ?_
  refine lv_aload_n hx hb dL_law_543 rfl (lv_at hl 2 rfl) ?_
  refine lv_iload hx hb dL_law_544 (lv_at hl 1 rfl) ?_
  refine lv_iconst (v := iI 1) hx hb dL_law_546 rfl ?_
  refine z_iadd hx hb dL_law_547 ?_
  refine z_sld hx hb hX hbl hS (ix + 1) (by omega) (by omega) hL e1 dL_law_548 ?_
  refine lv_aload_n hx hb dL_law_549 rfl (lv_at hl 2 rfl) ?_
  refine lv_iload hx hb dL_law_550 (lv_at hl 1 rfl) ?_
  refine lv_iconst (v := iI 2) hx hb dL_law_552 rfl ?_
  refine z_iadd hx hb dL_law_553 ?_
  refine z_sld hx hb hX hbl hS (ix + 2) (by omega) (by omega) hL e2 dL_law_554 ?_
  refine zc_wi (va_runV (As := [.int (iI (i : Int)), .int (iI (o : Int))]) (rest := []) ⟨hx, hb, hml, hown, hts⟩ (e3_X1_setOff l G ma mr _ B σ t i o hI hi ho (pq_03 h5)) (cwV 2 hts gL_law_X1_setOff rfl rfl rfl (by decide +kernel) ⟨Nat.le_of_ble_eq_true rfl, Nat.le_of_ble_eq_true rfl⟩) (preWM hK (b_m hP) (d_m hD)) rfl rfl hl.1 rfl (lv_room (Nat.le_of_ble_eq_true rfl)) dL_law_555 ⟨by show _ ≤ 698866; omega, by show _ ≤ 6999506; omega⟩) hS (a_m hD hS) (fun H locs hP1 hS _ hkk => ?_)
  have hP := j_m hP hD hP1 hkk
  have hD := d_mv hD σ σ 2 (v)
  refine lv_istore (lv' := [(6, .int (iI 0)), (5, .int (iI 2)), (4, .int (iI (ix : Int))), (0, .ref b), (1, .ref xa), (2, .ref ma), (3, .ref oa)]) hx hb dL_law_558 hl (by decide) rfl (fun ls hl => ?_)
  refine lv_aload_n hx hb dL_law_560 rfl (lv_at hl 5 rfl) ?_
  refine zc_wi (va_runV (As := []) (rest := []) ⟨hx, hb, hml, hown, hts⟩ (c_X1_thrown l G ma mr _ σ 2) (cwV 0 hts gL_law_X1_thrown rfl rfl rfl (by decide +kernel) ⟨Nat.le_of_ble_eq_true rfl, Nat.le_of_ble_eq_true rfl⟩) (preWM hK (b_m hP) (d_m hD)) rfl rfl hl.1 rfl (lv_room (Nat.le_of_ble_eq_true rfl)) dL_law_561 ⟨by show _ ≤ 698866; omega, by show _ ≤ 6999506; omega⟩) hS (a_m hD hS) (fun H locs hP1 hS _ hkk => ?_)
  have hP := j_m hP hD hP1 hkk
  refine lv_iload hx hb dL_law_564 (lv_at hl 1 rfl) ?_
  refine z_icmp_eq (tgt := 571) hx hb dL_law_566 (by decide) (by omega) (by omega) (fun _ => ?_) (fun h => absurd (by omega) h)
  refine lv_iload hx hb dL_law_571 (lv_at hl 1 rfl) ?_
  refine z_if_ne (tgt := 588) hx hb dL_law_573 (by decide) (by decide) (fun _ => ?_) (fun h => absurd h (by decide))
  refine lv_goto (tgt := 2000) hx hb dL_law_588 (by decide) ?_
  exact kk _ _ _ _ _ _ _ ⟨hP, hD, hS⟩ (by omega) (by omega) (lv_sub hl [2, 3, 4, 5, 6] rfl)
set_option maxHeartbeats 4000000 in
set_option maxRecDepth 100000 in
theorem k4_setOff (C : lC pg l s m args c G b L xs) (hP : lP G s xa xr ma mr oa σ t v H locs) (hc : cells + 32 ≤ 698866) (hs : slots + 256 ≤ 6999506) (hl : lv_has ls 9 [(4, .int (iI (ix : Int))), (0, .ref b), (1, .ref xa), (2, .ref ma), (3, .ref oa)]) (hix : ix + 3 < L) (B : Nat) (i : Nat) (o : Nat) (e1 : xs (ix + 1) = iI (i : Int)) (e2 : xs (ix + 2) = iI (o : Int)) (hI : zI B σ) (hi : i < σ.1 1) (ho : o < σ.1 1) (h4 : σ.2 5 i = 0) (h5 : σ.2 5 o ≠ 0) (kk : lK pg l e s m args below meth c G b xa xr ma mr oa ix cells slots Q σ) : W pg l e room_1 s m args below meth c H locs cells slots Q (F0 m 523 ls []) := by
  obtain ⟨hx, hb, hml, hown, hts, hfl, hK, hE0, hN, hX, hbl, hL⟩ := C
  obtain ⟨hP, hD, hS⟩ := hP
  have hP : va_P G.1 vwCl (V3 G xa xr ma mr oa σ σ t v) H := hP
  have hD : va_D (nA s.heap.size) (V3 G xa xr ma mr oa σ σ t v) := hD
  refine lv_aload_n hx hb dL_law_523 rfl (lv_at hl 2 rfl) ?_
  refine lv_aload_n hx hb dL_law_524 rfl (lv_at hl 1 rfl) ?_
  refine lv_iload hx hb dL_law_525 (lv_at hl 0 rfl) ?_
  refine lv_iconst (v := iI 1) hx hb dL_law_527 rfl ?_
  refine z_iadd hx hb dL_law_528 ?_
  refine z_sld hx hb hX hbl hS (ix + 1) (by omega) (by omega) hL e1 dL_law_529 ?_
  refine lv_aload_n hx hb dL_law_530 rfl (lv_at hl 1 rfl) ?_
  refine lv_iload hx hb dL_law_531 (lv_at hl 0 rfl) ?_
  refine lv_iconst (v := iI 2) hx hb dL_law_533 rfl ?_
  refine z_iadd hx hb dL_law_534 ?_
  refine z_sld hx hb hX hbl hS (ix + 2) (by omega) (by omega) hL e2 dL_law_535 ?_
  refine lv_aload_n hx hb dL_law_536 rfl (lv_at hl 4 rfl) ?_
  refine zc_f (vx_runSW (As := [.ref xa, .int (iI (i : Int)), .int (iI (o : Int)), .ref oa]) (rest := []) ⟨hx, hb, hml, hown, hts⟩ (f4_L_setOff l hfl G xa xr oa _ B σ i o hI hi ho h4 h5) (vx_cwSW 4 hts gL_law_L_setOff rfl rfl rfl (by decide +kernel) ⟨Nat.le_of_ble_eq_true rfl, Nat.le_of_ble_eq_true rfl⟩) (preWF hK (b_x hP) (j_E hE0 hS) hN) rfl rfl hl.1 rfl (lv_room (Nat.le_of_ble_eq_true rfl)) dL_law_537 ⟨by show _ ≤ 698866; omega, by show _ ≤ 6999506; omega⟩) hS (fun H locs hS hkk => ?_)
  have hP := j_0 hP hkk
  refine lv_istore (lv' := [(5, .int (iI 2)), (4, .int (iI (ix : Int))), (0, .ref b), (1, .ref xa), (2, .ref ma), (3, .ref oa)]) hx hb dL_law_540 hl (by decide) rfl (fun ls hl => ?_)
  refine lv_aload_n hx hb dL_law_542 rfl (lv_at hl 4 rfl) ?_
  refine lv_aload_n hx hb dL_law_543 rfl (lv_at hl 2 rfl) ?_
  refine lv_iload hx hb dL_law_544 (lv_at hl 1 rfl) ?_
  refine lv_iconst (v := iI 1) hx hb dL_law_546 rfl ?_
  refine z_iadd hx hb dL_law_547 ?_
  refine z_sld hx hb hX hbl hS (ix + 1) (by omega) (by omega) hL e1 dL_law_548 ?_
  refine lv_aload_n hx hb dL_law_549 rfl (lv_at hl 2 rfl) ?_
  refine lv_iload hx hb dL_law_550 (lv_at hl 1 rfl) ?_
  refine lv_iconst (v := iI 2) hx hb dL_law_552 rfl ?_
  refine z_iadd hx hb dL_law_553 ?_
  refine z_sld hx hb hX hbl hS (ix + 2) (by omega) (by omega) hL e2 dL_law_554 ?_
  refine zc_wi (va_runV (As := [.int (iI (i : Int)), .int (iI (o : Int))]) (rest := []) ⟨hx, hb, hml, hown, hts⟩ (e3_X1_setOff l G ma mr _ B σ t i o hI hi ho (pq_04 h5)) (cwV 2 hts gL_law_X1_setOff rfl rfl rfl (by decide +kernel) ⟨Nat.le_of_ble_eq_true rfl, Nat.le_of_ble_eq_true rfl⟩) (preWM hK (b_m hP) (d_m hD)) rfl rfl hl.1 rfl (lv_room (Nat.le_of_ble_eq_true rfl)) dL_law_555 ⟨by show _ ≤ 698866; omega, by show _ ≤ 6999506; omega⟩) hS (a_m hD hS) (fun H locs hP1 hS _ hkk => ?_)
  have hP := j_m hP hD hP1 hkk
  have hD := d_mv hD σ σ 2 (v)
  refine lv_istore (lv' := [(6, .int (iI 0)), (5, .int (iI 2)), (4, .int (iI (ix : Int))), (0, .ref b), (1, .ref xa), (2, .ref ma), (3, .ref oa)]) hx hb dL_law_558 hl (by decide) rfl (fun ls hl => ?_)
  refine lv_aload_n hx hb dL_law_560 rfl (lv_at hl 5 rfl) ?_
  refine zc_wi (va_runV (As := []) (rest := []) ⟨hx, hb, hml, hown, hts⟩ (c_X1_thrown l G ma mr _ σ 2) (cwV 0 hts gL_law_X1_thrown rfl rfl rfl (by decide +kernel) ⟨Nat.le_of_ble_eq_true rfl, Nat.le_of_ble_eq_true rfl⟩) (preWM hK (b_m hP) (d_m hD)) rfl rfl hl.1 rfl (lv_room (Nat.le_of_ble_eq_true rfl)) dL_law_561 ⟨by show _ ≤ 698866; omega, by show _ ≤ 6999506; omega⟩) hS (a_m hD hS) (fun H locs hP1 hS _ hkk => ?_)
  have hP := j_m hP hD hP1 hkk
  refine lv_iload hx hb dL_law_564 (lv_at hl 1 rfl) ?_
  refine z_icmp_eq (tgt := 571) hx hb dL_law_566 (by decide) (by omega) (by omega) (fun _ => ?_) (fun h => absurd (by omega) h)
  refine lv_iload hx hb dL_law_571 (lv_at hl 1 rfl) ?_
  refine z_if_ne (tgt := 588) hx hb dL_law_573 (by decide) (by decide) (fun _ => ?_) (fun h => absurd h (by decide))
  refine lv_goto (tgt := 2000) hx hb dL_law_588 (by decide) ?_
  exact kk _ _ _ _ _ _ _ ⟨hP, hD, hS⟩ (by omega) (by omega) (lv_sub hl [2, 3, 4, 5, 6] rfl)
set_option maxHeartbeats 4000000 in
set_option maxRecDepth 100000 in
theorem k5_setOff (C : lC pg l s m args c G b L xs) (hP : lP G s xa xr ma mr oa σ t v H locs) (hc : cells + 32 ≤ 698866) (hs : slots + 256 ≤ 6999506) (hl : lv_has ls 9 [(4, .int (iI (ix : Int))), (0, .ref b), (1, .ref xa), (2, .ref ma), (3, .ref oa)]) (hix : ix + 3 < L) (B : Nat) (i : Nat) (o : Nat) (e1 : xs (ix + 1) = iI (i : Int)) (e2 : xs (ix + 2) = iI (o : Int)) (hI : zI B σ) (hi : i < σ.1 1) (ho : o < σ.1 1) (h4 : σ.2 5 i = 0) (h5 : σ.2 5 o = 0) (hq : agn σ i o = 0) (kk : lK pg l e s m args below meth c G b xa xr ma mr oa ix cells slots Q σ) : W pg l e room_1 s m args below meth c H locs cells slots Q (F0 m 523 ls []) := by
  obtain ⟨hx, hb, hml, hown, hts, hfl, hK, hE0, hN, hX, hbl, hL⟩ := C
  obtain ⟨hP, hD, hS⟩ := hP
  have hP : va_P G.1 vwCl (V3 G xa xr ma mr oa σ σ t v) H := hP
  have hD : va_D (nA s.heap.size) (V3 G xa xr ma mr oa σ σ t v) := hD
  refine lv_aload_n hx hb dL_law_523 rfl (lv_at hl 2 rfl) ?_
  refine lv_aload_n hx hb dL_law_524 rfl (lv_at hl 1 rfl) ?_
  refine lv_iload hx hb dL_law_525 (lv_at hl 0 rfl) ?_
  refine lv_iconst (v := iI 1) hx hb dL_law_527 rfl ?_
  refine z_iadd hx hb dL_law_528 ?_
  refine z_sld hx hb hX hbl hS (ix + 1) (by omega) (by omega) hL e1 dL_law_529 ?_
  refine lv_aload_n hx hb dL_law_530 rfl (lv_at hl 1 rfl) ?_
  refine lv_iload hx hb dL_law_531 (lv_at hl 0 rfl) ?_
  refine lv_iconst (v := iI 2) hx hb dL_law_533 rfl ?_
  refine z_iadd hx hb dL_law_534 ?_
  refine z_sld hx hb hX hbl hS (ix + 2) (by omega) (by omega) hL e2 dL_law_535 ?_
  refine lv_aload_n hx hb dL_law_536 rfl (lv_at hl 4 rfl) ?_
  refine zc_f (vx_runSW (As := [.ref xa, .int (iI (i : Int)), .int (iI (o : Int)), .ref oa]) (rest := []) ⟨hx, hb, hml, hown, hts⟩ (f5_L_setOff l hfl G xa xr oa _ B σ i o hI hi ho h4 h5 hq) (vx_cwSW 4 hts gL_law_L_setOff rfl rfl rfl (by decide +kernel) ⟨Nat.le_of_ble_eq_true rfl, Nat.le_of_ble_eq_true rfl⟩) (preWF hK (b_x hP) (j_E hE0 hS) hN) rfl rfl hl.1 rfl (lv_room (Nat.le_of_ble_eq_true rfl)) dL_law_537 ⟨by show _ ≤ 698866; omega, by show _ ≤ 6999506; omega⟩) hS (fun H locs hS hkk => ?_)
  have hP := j_0 hP hkk
  refine lv_istore (lv' := [(5, .int (iI 2)), (4, .int (iI (ix : Int))), (0, .ref b), (1, .ref xa), (2, .ref ma), (3, .ref oa)]) hx hb dL_law_540 hl (by decide) rfl (fun ls hl => ?_)
  refine lv_aload_n hx hb dL_law_542 rfl (lv_at hl 4 rfl) ?_
  refine lv_aload_n hx hb dL_law_543 rfl (lv_at hl 2 rfl) ?_
  refine lv_iload hx hb dL_law_544 (lv_at hl 1 rfl) ?_
  refine lv_iconst (v := iI 1) hx hb dL_law_546 rfl ?_
  refine z_iadd hx hb dL_law_547 ?_
  refine z_sld hx hb hX hbl hS (ix + 1) (by omega) (by omega) hL e1 dL_law_548 ?_
  refine lv_aload_n hx hb dL_law_549 rfl (lv_at hl 2 rfl) ?_
  refine lv_iload hx hb dL_law_550 (lv_at hl 1 rfl) ?_
  refine lv_iconst (v := iI 2) hx hb dL_law_552 rfl ?_
  refine z_iadd hx hb dL_law_553 ?_
  refine z_sld hx hb hX hbl hS (ix + 2) (by omega) (by omega) hL e2 dL_law_554 ?_
  refine zc_wi (va_runV (As := [.int (iI (i : Int)), .int (iI (o : Int))]) (rest := []) ⟨hx, hb, hml, hown, hts⟩ (e3_X1_setOff l G ma mr _ B σ t i o hI hi ho (pq_05 h4 h5 hq)) (cwV 2 hts gL_law_X1_setOff rfl rfl rfl (by decide +kernel) ⟨Nat.le_of_ble_eq_true rfl, Nat.le_of_ble_eq_true rfl⟩) (preWM hK (b_m hP) (d_m hD)) rfl rfl hl.1 rfl (lv_room (Nat.le_of_ble_eq_true rfl)) dL_law_555 ⟨by show _ ≤ 698866; omega, by show _ ≤ 6999506; omega⟩) hS (a_m hD hS) (fun H locs hP1 hS _ hkk => ?_)
  have hP := j_m hP hD hP1 hkk
  have hD := d_mv hD σ σ 2 (v)
  refine lv_istore (lv' := [(6, .int (iI 0)), (5, .int (iI 2)), (4, .int (iI (ix : Int))), (0, .ref b), (1, .ref xa), (2, .ref ma), (3, .ref oa)]) hx hb dL_law_558 hl (by decide) rfl (fun ls hl => ?_)
  refine lv_aload_n hx hb dL_law_560 rfl (lv_at hl 5 rfl) ?_
  refine zc_wi (va_runV (As := []) (rest := []) ⟨hx, hb, hml, hown, hts⟩ (c_X1_thrown l G ma mr _ σ 2) (cwV 0 hts gL_law_X1_thrown rfl rfl rfl (by decide +kernel) ⟨Nat.le_of_ble_eq_true rfl, Nat.le_of_ble_eq_true rfl⟩) (preWM hK (b_m hP) (d_m hD)) rfl rfl hl.1 rfl (lv_room (Nat.le_of_ble_eq_true rfl)) dL_law_561 ⟨by show _ ≤ 698866; omega, by show _ ≤ 6999506; omega⟩) hS (a_m hD hS) (fun H locs hP1 hS _ hkk => ?_)
  have hP := j_m hP hD hP1 hkk
  refine lv_iload hx hb dL_law_564 (lv_at hl 1 rfl) ?_
  refine z_icmp_eq (tgt := 571) hx hb dL_law_566 (by decide) (by omega) (by omega) (fun _ => ?_) (fun h => absurd (by omega) h)
  refine lv_iload hx hb dL_law_571 (lv_at hl 1 rfl) ?_
  refine z_if_ne (tgt := 588) hx hb dL_law_573 (by decide) (by decide) (fun _ => ?_) (fun h => absurd h (by decide))
  refine lv_goto (tgt := 2000) hx hb dL_law_588 (by decide) ?_
  exact kk _ _ _ _ _ _ _ ⟨hP, hD, hS⟩ (by omega) (by omega) (lv_sub hl [2, 3, 4, 5, 6] rfl)
set_option maxHeartbeats 4000000 in
set_option maxRecDepth 100000 in
theorem k1_setPride (C : lC pg l s m args c G b L xs) (hP : lP G s xa xr ma mr oa σ t v H locs) (hc : cells + 32 ≤ 698866) (hs : slots + 256 ≤ 6999506) (hl : lv_has ls 9 [(4, .int (iI (ix : Int))), (0, .ref b), (1, .ref xa), (2, .ref ma), (3, .ref oa)]) (hix : ix + 3 < L) (B : Nat) (z : Int) (w : Int) (e1 : xs (ix + 1) = iI z) (e2 : xs (ix + 2) = iI w) (hI : zI B σ) (hzb : -2147483648 ≤ z ∧ z < 2147483648) (hbad : z < 0 ∨ (σ.1 0 : Int) ≤ z) (kk : lK pg l e s m args below meth c G b xa xr ma mr oa ix cells slots Q σ) : W pg l e room_1 s m args below meth c H locs cells slots Q (F0 m 591 ls []) := by
  obtain ⟨hx, hb, hml, hown, hts, hfl, hK, hE0, hN, hX, hbl, hL⟩ := C
  obtain ⟨hP, hD, hS⟩ := hP
  have hP : va_P G.1 vwCl (V3 G xa xr ma mr oa σ σ t v) H := hP
  have hD : va_D (nA s.heap.size) (V3 G xa xr ma mr oa σ σ t v) := hD
  refine lv_aload_n hx hb dL_law_591 rfl (lv_at hl 2 rfl) ?_
  refine lv_aload_n hx hb dL_law_592 rfl (lv_at hl 1 rfl) ?_
  refine lv_iload hx hb dL_law_593 (lv_at hl 0 rfl) ?_
  refine lv_iconst (v := iI 1) hx hb dL_law_595 rfl ?_
  refine z_iadd hx hb dL_law_596 ?_
  refine z_sld hx hb hX hbl hS (ix + 1) (by omega) (by omega) hL e1 dL_law_597 ?_
  refine lv_aload_n hx hb dL_law_598 rfl (lv_at hl 1 rfl) ?_
  refine lv_iload hx hb dL_law_599 (lv_at hl 0 rfl) ?_
  refine lv_iconst (v := iI 2) hx hb dL_law_601 rfl ?_
  refine z_iadd hx hb dL_law_602 ?_
  refine z_sld hx hb hX hbl hS (ix + 2) (by omega) (by omega) hL e2 dL_law_603 ?_
  refine lv_aload_n hx hb dL_law_604 rfl (lv_at hl 4 rfl) ?_
  refine zc_f (vx_runSW (As := [.ref xa, .int (iI z), .int (iI w), .ref oa]) (rest := []) ⟨hx, hb, hml, hown, hts⟩ (f1_L_setPride l hfl G xa xr oa _ B σ z w hI hzb hbad) (vx_cwSW 4 hts gL_law_L_setPride rfl rfl rfl (by decide +kernel) ⟨Nat.le_of_ble_eq_true rfl, Nat.le_of_ble_eq_true rfl⟩) (preWF hK (b_x hP) (j_E hE0 hS) hN) rfl rfl hl.1 rfl (lv_room (Nat.le_of_ble_eq_true rfl)) dL_law_605 ⟨by show _ ≤ 698866; omega, by show _ ≤ 6999506; omega⟩) hS (fun H locs hS hkk => ?_)
  have hP := j_0 hP hkk
  refine lv_istore (lv' := [(5, .int (iI 1)), (4, .int (iI (ix : Int))), (0, .ref b), (1, .ref xa), (2, .ref ma), (3, .ref oa)]) hx hb dL_law_608 hl (by decide) rfl (fun ls hl => ?_)
  refine lv_aload_n hx hb dL_law_610 rfl (lv_at hl 4 rfl) ?_
  refine lv_aload_n hx hb dL_law_611 rfl (lv_at hl 2 rfl) ?_
  refine lv_iload hx hb dL_law_612 (lv_at hl 1 rfl) ?_
  refine lv_iconst (v := iI 1) hx hb dL_law_614 rfl ?_
  refine z_iadd hx hb dL_law_615 ?_
  refine z_sld hx hb hX hbl hS (ix + 1) (by omega) (by omega) hL e1 dL_law_616 ?_
  refine lv_aload_n hx hb dL_law_617 rfl (lv_at hl 2 rfl) ?_
  refine lv_iload hx hb dL_law_618 (lv_at hl 1 rfl) ?_
  refine lv_iconst (v := iI 2) hx hb dL_law_620 rfl ?_
  refine z_iadd hx hb dL_law_621 ?_
  refine z_sld hx hb hX hbl hS (ix + 2) (by omega) (by omega) hL e2 dL_law_622 ?_
  refine zc_wi (va_runV (As := [.int (iI z), .int (iI w)]) (rest := []) ⟨hx, hb, hml, hown, hts⟩ (e1_X1_setPride l G ma mr _ B σ t z w hI hzb hbad) (cwV 2 hts gL_law_X1_setPride rfl rfl rfl (by decide +kernel) ⟨Nat.le_of_ble_eq_true rfl, Nat.le_of_ble_eq_true rfl⟩) (preWM hK (b_m hP) (d_m hD)) rfl rfl hl.1 rfl (lv_room (Nat.le_of_ble_eq_true rfl)) dL_law_623 ⟨by show _ ≤ 698866; omega, by show _ ≤ 6999506; omega⟩) hS (a_m hD hS) (fun H locs hP1 hS _ hkk => ?_)
  have hP := j_m hP hD hP1 hkk
  have hD := d_mv hD σ σ 1 (v)
  refine lv_istore (lv' := [(6, .int (iI 0)), (5, .int (iI 1)), (4, .int (iI (ix : Int))), (0, .ref b), (1, .ref xa), (2, .ref ma), (3, .ref oa)]) hx hb dL_law_626 hl (by decide) rfl (fun ls hl => ?_)
  refine lv_aload_n hx hb dL_law_628 rfl (lv_at hl 5 rfl) ?_
  refine zc_wi (va_runV (As := []) (rest := []) ⟨hx, hb, hml, hown, hts⟩ (c_X1_thrown l G ma mr _ σ 1) (cwV 0 hts gL_law_X1_thrown rfl rfl rfl (by decide +kernel) ⟨Nat.le_of_ble_eq_true rfl, Nat.le_of_ble_eq_true rfl⟩) (preWM hK (b_m hP) (d_m hD)) rfl rfl hl.1 rfl (lv_room (Nat.le_of_ble_eq_true rfl)) dL_law_629 ⟨by show _ ≤ 698866; omega, by show _ ≤ 6999506; omega⟩) hS (a_m hD hS) (fun H locs hP1 hS _ hkk => ?_)
  have hP := j_m hP hD hP1 hkk
  refine lv_iload hx hb dL_law_632 (lv_at hl 1 rfl) ?_
  refine z_icmp_eq (tgt := 639) hx hb dL_law_634 (by decide) (by omega) (by omega) (fun _ => ?_) (fun h => absurd (by omega) h)
  refine lv_iload hx hb dL_law_639 (lv_at hl 1 rfl) ?_
  refine z_if_ne (tgt := 656) hx hb dL_law_641 (by decide) (by decide) (fun _ => ?_) (fun h => absurd h (by decide))
  refine lv_goto (tgt := 2000) hx hb dL_law_656 (by decide) ?_
  exact kk _ _ _ _ _ _ _ ⟨hP, hD, hS⟩ (by omega) (by omega) (lv_sub hl [2, 3, 4, 5, 6] rfl)
set_option maxHeartbeats 4000000 in
set_option maxRecDepth 100000 in
theorem k2_setPride (C : lC pg l s m args c G b L xs) (hP : lP G s xa xr ma mr oa σ t v H locs) (hc : cells + 32 ≤ 698866) (hs : slots + 256 ≤ 6999506) (hl : lv_has ls 9 [(4, .int (iI (ix : Int))), (0, .ref b), (1, .ref xa), (2, .ref ma), (3, .ref oa)]) (hix : ix + 3 < L) (B : Nat) (p : Nat) (z : Int) (e1 : xs (ix + 1) = iI (p : Int)) (e2 : xs (ix + 2) = iI z) (hI : zI B σ) (hp : p < σ.1 0) (hzb : -2147483648 ≤ z ∧ z < 2147483648) (hbad : z < 0 ∨ 9 < z) (kk : lK pg l e s m args below meth c G b xa xr ma mr oa ix cells slots Q σ) : W pg l e room_1 s m args below meth c H locs cells slots Q (F0 m 591 ls []) := by
  obtain ⟨hx, hb, hml, hown, hts, hfl, hK, hE0, hN, hX, hbl, hL⟩ := C
  obtain ⟨hP, hD, hS⟩ := hP
  have hP : va_P G.1 vwCl (V3 G xa xr ma mr oa σ σ t v) H := hP
  have hD : va_D (nA s.heap.size) (V3 G xa xr ma mr oa σ σ t v) := hD
  refine lv_aload_n hx hb dL_law_591 rfl (lv_at hl 2 rfl) ?_
  refine lv_aload_n hx hb dL_law_592 rfl (lv_at hl 1 rfl) ?_
  refine lv_iload hx hb dL_law_593 (lv_at hl 0 rfl) ?_
  refine lv_iconst (v := iI 1) hx hb dL_law_595 rfl ?_
  refine z_iadd hx hb dL_law_596 ?_
  refine z_sld hx hb hX hbl hS (ix + 1) (by omega) (by omega) hL e1 dL_law_597 ?_
  refine lv_aload_n hx hb dL_law_598 rfl (lv_at hl 1 rfl) ?_
  refine lv_iload hx hb dL_law_599 (lv_at hl 0 rfl) ?_
  refine lv_iconst (v := iI 2) hx hb dL_law_601 rfl ?_
  refine z_iadd hx hb dL_law_602 ?_
  refine z_sld hx hb hX hbl hS (ix + 2) (by omega) (by omega) hL e2 dL_law_603 ?_
  refine lv_aload_n hx hb dL_law_604 rfl (lv_at hl 4 rfl) ?_
  refine zc_f (vx_runSW (As := [.ref xa, .int (iI (p : Int)), .int (iI z), .ref oa]) (rest := []) ⟨hx, hb, hml, hown, hts⟩ (f2_L_setPride l hfl G xa xr oa _ B σ p z hI hp hzb hbad) (vx_cwSW 4 hts gL_law_L_setPride rfl rfl rfl (by decide +kernel) ⟨Nat.le_of_ble_eq_true rfl, Nat.le_of_ble_eq_true rfl⟩) (preWF hK (b_x hP) (j_E hE0 hS) hN) rfl rfl hl.1 rfl (lv_room (Nat.le_of_ble_eq_true rfl)) dL_law_605 ⟨by show _ ≤ 698866; omega, by show _ ≤ 6999506; omega⟩) hS (fun H locs hS hkk => ?_)
  have hP := j_0 hP hkk
  refine lv_istore (lv' := [(5, .int (iI 2)), (4, .int (iI (ix : Int))), (0, .ref b), (1, .ref xa), (2, .ref ma), (3, .ref oa)]) hx hb dL_law_608 hl (by decide) rfl (fun ls hl => ?_)
  refine lv_aload_n hx hb dL_law_610 rfl (lv_at hl 4 rfl) ?_
  refine lv_aload_n hx hb dL_law_611 rfl (lv_at hl 2 rfl) ?_
  refine lv_iload hx hb dL_law_612 (lv_at hl 1 rfl) ?_
  refine lv_iconst (v := iI 1) hx hb dL_law_614 rfl ?_
  refine z_iadd hx hb dL_law_615 ?_
  refine z_sld hx hb hX hbl hS (ix + 1) (by omega) (by omega) hL e1 dL_law_616 ?_
  refine lv_aload_n hx hb dL_law_617 rfl (lv_at hl 2 rfl) ?_
  refine lv_iload hx hb dL_law_618 (lv_at hl 1 rfl) ?_
  refine lv_iconst (v := iI 2) hx hb dL_law_620 rfl ?_
  refine z_iadd hx hb dL_law_621 ?_
  refine z_sld hx hb hX hbl hS (ix + 2) (by omega) (by omega) hL e2 dL_law_622 ?_
  refine zc_wi (va_runV (As := [.int (iI (p : Int)), .int (iI z)]) (rest := []) ⟨hx, hb, hml, hown, hts⟩ (e2_X1_setPride l G ma mr _ B σ t p z hI hp hzb hbad) (cwV 2 hts gL_law_X1_setPride rfl rfl rfl (by decide +kernel) ⟨Nat.le_of_ble_eq_true rfl, Nat.le_of_ble_eq_true rfl⟩) (preWM hK (b_m hP) (d_m hD)) rfl rfl hl.1 rfl (lv_room (Nat.le_of_ble_eq_true rfl)) dL_law_623 ⟨by show _ ≤ 698866; omega, by show _ ≤ 6999506; omega⟩) hS (a_m hD hS) (fun H locs hP1 hS _ hkk => ?_)
  have hP := j_m hP hD hP1 hkk
  have hD := d_mv hD σ σ 2 (v)
  refine lv_istore (lv' := [(6, .int (iI 0)), (5, .int (iI 2)), (4, .int (iI (ix : Int))), (0, .ref b), (1, .ref xa), (2, .ref ma), (3, .ref oa)]) hx hb dL_law_626 hl (by decide) rfl (fun ls hl => ?_)
  refine lv_aload_n hx hb dL_law_628 rfl (lv_at hl 5 rfl) ?_
  refine zc_wi (va_runV (As := []) (rest := []) ⟨hx, hb, hml, hown, hts⟩ (c_X1_thrown l G ma mr _ σ 2) (cwV 0 hts gL_law_X1_thrown rfl rfl rfl (by decide +kernel) ⟨Nat.le_of_ble_eq_true rfl, Nat.le_of_ble_eq_true rfl⟩) (preWM hK (b_m hP) (d_m hD)) rfl rfl hl.1 rfl (lv_room (Nat.le_of_ble_eq_true rfl)) dL_law_629 ⟨by show _ ≤ 698866; omega, by show _ ≤ 6999506; omega⟩) hS (a_m hD hS) (fun H locs hP1 hS _ hkk => ?_)
  have hP := j_m hP hD hP1 hkk
  refine lv_iload hx hb dL_law_632 (lv_at hl 1 rfl) ?_
  refine z_icmp_eq (tgt := 639) hx hb dL_law_634 (by decide) (by omega) (by omega) (fun _ => ?_) (fun h => absurd (by omega) h)
  refine lv_iload hx hb dL_law_639 (lv_at hl 1 rfl) ?_
  refine z_if_ne (tgt := 656) hx hb dL_law_641 (by decide) (by decide) (fun _ => ?_) (fun h => absurd h (by decide))
  refine lv_goto (tgt := 2000) hx hb dL_law_656 (by decide) ?_
  exact kk _ _ _ _ _ _ _ ⟨hP, hD, hS⟩ (by omega) (by omega) (lv_sub hl [2, 3, 4, 5, 6] rfl)
set_option maxHeartbeats 4000000 in
set_option maxRecDepth 100000 in
theorem k1_pass (C : lC pg l s m args c G b L xs) (hP : lP G s xa xr ma mr oa σ t v H locs) (hc : cells + 32 ≤ 698866) (hs : slots + 256 ≤ 6999506) (hl : lv_has ls 9 [(4, .int (iI (ix : Int))), (0, .ref b), (1, .ref xa), (2, .ref ma), (3, .ref oa)]) (hix : ix + 3 < L) (B : Nat) (z : Int) (e1 : xs (ix + 1) = iI z) (hI : zI B σ) (hzb : -2147483648 ≤ z ∧ z < 2147483648) (hbad : z < 1 ∨ 60 < z) (kk : lK pg l e s m args below meth c G b xa xr ma mr oa ix cells slots Q σ) : W pg l e room_1 s m args below meth c H locs cells slots Q (F0 m 659 ls []) := by
  obtain ⟨hx, hb, hml, hown, hts, hfl, hK, hE0, hN, hX, hbl, hL⟩ := C
  obtain ⟨hP, hD, hS⟩ := hP
  have hP : va_P G.1 vwCl (V3 G xa xr ma mr oa σ σ t v) H := hP
  have hD : va_D (nA s.heap.size) (V3 G xa xr ma mr oa σ σ t v) := hD
  refine lv_aload_n hx hb dL_law_659 rfl (lv_at hl 2 rfl) ?_
  refine lv_aload_n hx hb dL_law_660 rfl (lv_at hl 1 rfl) ?_
  refine lv_iload hx hb dL_law_661 (lv_at hl 0 rfl) ?_
  refine lv_iconst (v := iI 1) hx hb dL_law_663 rfl ?_
  refine z_iadd hx hb dL_law_664 ?_
  refine z_sld hx hb hX hbl hS (ix + 1) (by omega) (by omega) hL e1 dL_law_665 ?_
  refine lv_aload_n hx hb dL_law_666 rfl (lv_at hl 4 rfl) ?_
  refine zc_f (vx_runSW (As := [.ref xa, .int (iI z), .ref oa]) (rest := []) ⟨hx, hb, hml, hown, hts⟩ (f1_L_pass l hfl G xa xr oa _ B σ z hI hzb hbad) (vx_cwSW 3 hts gL_law_L_pass rfl rfl rfl (by decide +kernel) ⟨Nat.le_of_ble_eq_true rfl, Nat.le_of_ble_eq_true rfl⟩) (preWF hK (b_x hP) (j_E hE0 hS) hN) rfl rfl hl.1 rfl (lv_room (Nat.le_of_ble_eq_true rfl)) dL_law_667 ⟨by show _ ≤ 698866; omega, by show _ ≤ 6999506; omega⟩) hS (fun H locs hS hkk => ?_)
  have hP := j_0 hP hkk
  refine lv_istore (lv' := [(5, .int (iI 1)), (4, .int (iI (ix : Int))), (0, .ref b), (1, .ref xa), (2, .ref ma), (3, .ref oa)]) hx hb dL_law_670 hl (by decide) rfl (fun ls hl => ?_)
  refine lv_aload_n hx hb dL_law_672 rfl (lv_at hl 4 rfl) ?_
  refine lv_aload_n hx hb dL_law_673 rfl (lv_at hl 2 rfl) ?_
  refine lv_iload hx hb dL_law_674 (lv_at hl 1 rfl) ?_
  refine lv_iconst (v := iI 1) hx hb dL_law_676 rfl ?_
  refine z_iadd hx hb dL_law_677 ?_
  refine z_sld hx hb hX hbl hS (ix + 1) (by omega) (by omega) hL e1 dL_law_678 ?_
  refine zc_wi (va_runV (As := [.int (iI z)]) (rest := []) ⟨hx, hb, hml, hown, hts⟩ (e1_X1_pass l G ma mr _ B σ t z hI hzb hbad) (cwV 1 hts gL_law_X1_pass rfl rfl rfl (by decide +kernel) ⟨Nat.le_of_ble_eq_true rfl, Nat.le_of_ble_eq_true rfl⟩) (preWM hK (b_m hP) (d_m hD)) rfl rfl hl.1 rfl (lv_room (Nat.le_of_ble_eq_true rfl)) dL_law_679 ⟨by show _ ≤ 698866; omega, by show _ ≤ 6999506; omega⟩) hS (a_m hD hS) (fun H locs hP1 hS _ hkk => ?_)
  have hP := j_m hP hD hP1 hkk
  have hD := d_mv hD σ σ 1 (v)
  refine lv_istore (lv' := [(6, .int (iI 0)), (5, .int (iI 1)), (4, .int (iI (ix : Int))), (0, .ref b), (1, .ref xa), (2, .ref ma), (3, .ref oa)]) hx hb dL_law_682 hl (by decide) rfl (fun ls hl => ?_)
  refine lv_aload_n hx hb dL_law_684 rfl (lv_at hl 5 rfl) ?_
  refine zc_wi (va_runV (As := []) (rest := []) ⟨hx, hb, hml, hown, hts⟩ (c_X1_thrown l G ma mr _ σ 1) (cwV 0 hts gL_law_X1_thrown rfl rfl rfl (by decide +kernel) ⟨Nat.le_of_ble_eq_true rfl, Nat.le_of_ble_eq_true rfl⟩) (preWM hK (b_m hP) (d_m hD)) rfl rfl hl.1 rfl (lv_room (Nat.le_of_ble_eq_true rfl)) dL_law_685 ⟨by show _ ≤ 698866; omega, by show _ ≤ 6999506; omega⟩) hS (a_m hD hS) (fun H locs hP1 hS _ hkk => ?_)
  have hP := j_m hP hD hP1 hkk
  refine lv_iload hx hb dL_law_688 (lv_at hl 1 rfl) ?_
  refine z_icmp_eq (tgt := 695) hx hb dL_law_690 (by decide) (by omega) (by omega) (fun _ => ?_) (fun h => absurd (by omega) h)
  refine lv_iload hx hb dL_law_695 (lv_at hl 1 rfl) ?_
  refine z_if_ne (tgt := 712) hx hb dL_law_697 (by decide) (by decide) (fun _ => ?_) (fun h => absurd h (by decide))
  refine lv_goto (tgt := 2000) hx hb dL_law_712 (by decide) ?_
  exact kk _ _ _ _ _ _ _ ⟨hP, hD, hS⟩ (by omega) (by omega) (lv_sub hl [2, 3, 4, 5, 6] rfl)
set_option maxHeartbeats 4000000 in
set_option maxRecDepth 100000 in
theorem k1_isInHall (C : lC pg l s m args c G b L xs) (hP : lP G s xa xr ma mr oa σ t v H locs) (hc : cells + 32 ≤ 698866) (hs : slots + 256 ≤ 6999506) (hl : lv_has ls 9 [(4, .int (iI (ix : Int))), (0, .ref b), (1, .ref xa), (2, .ref ma), (3, .ref oa)]) (hix : ix + 3 < L) (B : Nat) (z : Int) (e1 : xs (ix + 1) = iI z) (hI : zI B σ) (hzb : -2147483648 ≤ z ∧ z < 2147483648) (hbad : z < 0 ∨ (σ.1 0 : Int) ≤ z) (kk : lK pg l e s m args below meth c G b xa xr ma mr oa ix cells slots Q σ) : W pg l e room_1 s m args below meth c H locs cells slots Q (F0 m 780 ls []) := by
  obtain ⟨hx, hb, hml, hown, hts, hfl, hK, hE0, hN, hX, hbl, hL⟩ := C
  obtain ⟨hP, hD, hS⟩ := hP
  have hP : va_P G.1 vwCl (V3 G xa xr ma mr oa σ σ t v) H := hP
  have hD : va_D (nA s.heap.size) (V3 G xa xr ma mr oa σ σ t v) := hD
  refine lv_aload_n hx hb dL_law_780 rfl (lv_at hl 2 rfl) ?_
  refine lv_aload_n hx hb dL_law_781 rfl (lv_at hl 1 rfl) ?_
  refine lv_iload hx hb dL_law_782 (lv_at hl 0 rfl) ?_
  refine lv_iconst (v := iI 1) hx hb dL_law_784 rfl ?_
  refine z_iadd hx hb dL_law_785 ?_
  refine z_sld hx hb hX hbl hS (ix + 1) (by omega) (by omega) hL e1 dL_law_786 ?_
  refine lv_aload_n hx hb dL_law_787 rfl (lv_at hl 4 rfl) ?_
  refine zc_f (vx_runSW (As := [.ref xa, .int (iI z), .ref oa]) (rest := []) ⟨hx, hb, hml, hown, hts⟩ (f1_L_isInHall l hfl G xa xr oa _ B σ z hI hzb hbad) (vx_cwSW 3 hts gL_law_L_isInHall rfl rfl rfl (by decide +kernel) ⟨Nat.le_of_ble_eq_true rfl, Nat.le_of_ble_eq_true rfl⟩) (preWF hK (b_x hP) (j_E hE0 hS) hN) rfl rfl hl.1 rfl (lv_room (Nat.le_of_ble_eq_true rfl)) dL_law_788 ⟨by show _ ≤ 698866; omega, by show _ ≤ 6999506; omega⟩) hS (fun H locs hS hkk => ?_)
  have hP := j_0 hP hkk
  refine lv_istore (lv' := [(5, .int (iI 1)), (4, .int (iI (ix : Int))), (0, .ref b), (1, .ref xa), (2, .ref ma), (3, .ref oa)]) hx hb dL_law_791 hl (by decide) rfl (fun ls hl => ?_)
  refine lv_aload_n hx hb dL_law_793 rfl (lv_at hl 4 rfl) ?_
  refine lv_aload_n hx hb dL_law_794 rfl (lv_at hl 2 rfl) ?_
  refine lv_iload hx hb dL_law_795 (lv_at hl 1 rfl) ?_
  refine lv_iconst (v := iI 1) hx hb dL_law_797 rfl ?_
  refine z_iadd hx hb dL_law_798 ?_
  refine z_sld hx hb hX hbl hS (ix + 1) (by omega) (by omega) hL e1 dL_law_799 ?_
  refine zc_wi (va_runV (As := [.int (iI z)]) (rest := []) ⟨hx, hb, hml, hown, hts⟩ (e1_X1_isInHall l G ma mr _ B σ t z hI hzb hbad) (cwV 1 hts gL_law_X1_isInHall rfl rfl rfl (by decide +kernel) ⟨Nat.le_of_ble_eq_true rfl, Nat.le_of_ble_eq_true rfl⟩) (preWM hK (b_m hP) (d_m hD)) rfl rfl hl.1 rfl (lv_room (Nat.le_of_ble_eq_true rfl)) dL_law_800 ⟨by show _ ≤ 698866; omega, by show _ ≤ 6999506; omega⟩) hS (a_m hD hS) (fun H locs hP1 hS _ hkk => ?_)
  have hP := j_m hP hD hP1 hkk
  have hD := d_mv hD σ σ 1 (v)
  refine lv_istore (lv' := [(6, .int (iI 0)), (5, .int (iI 1)), (4, .int (iI (ix : Int))), (0, .ref b), (1, .ref xa), (2, .ref ma), (3, .ref oa)]) hx hb dL_law_803 hl (by decide) rfl (fun ls hl => ?_)
  refine lv_aload_n hx hb dL_law_805 rfl (lv_at hl 5 rfl) ?_
  refine zc_wi (va_runV (As := []) (rest := []) ⟨hx, hb, hml, hown, hts⟩ (c_X1_thrown l G ma mr _ σ 1) (cwV 0 hts gL_law_X1_thrown rfl rfl rfl (by decide +kernel) ⟨Nat.le_of_ble_eq_true rfl, Nat.le_of_ble_eq_true rfl⟩) (preWM hK (b_m hP) (d_m hD)) rfl rfl hl.1 rfl (lv_room (Nat.le_of_ble_eq_true rfl)) dL_law_806 ⟨by show _ ≤ 698866; omega, by show _ ≤ 6999506; omega⟩) hS (a_m hD hS) (fun H locs hP1 hS _ hkk => ?_)
  have hP := j_m hP hD hP1 hkk
  refine lv_iload hx hb dL_law_809 (lv_at hl 1 rfl) ?_
  refine z_icmp_eq (tgt := 816) hx hb dL_law_811 (by decide) (by omega) (by omega) (fun _ => ?_) (fun h => absurd (by omega) h)
  refine lv_iload hx hb dL_law_816 (lv_at hl 1 rfl) ?_
  refine z_if_ne (tgt := 840) hx hb dL_law_818 (by decide) (by decide) (fun _ => ?_) (fun h => absurd h (by decide))
  refine lv_goto (tgt := 2000) hx hb dL_law_840 (by decide) ?_
  exact kk _ _ _ _ _ _ _ ⟨hP, hD, hS⟩ (by omega) (by omega) (lv_sub hl [2, 3, 4, 5, 6] rfl)
set_option maxHeartbeats 4000000 in
set_option maxRecDepth 100000 in
theorem k1_prideOf (C : lC pg l s m args c G b L xs) (hP : lP G s xa xr ma mr oa σ t v H locs) (hc : cells + 32 ≤ 698866) (hs : slots + 256 ≤ 6999506) (hl : lv_has ls 9 [(4, .int (iI (ix : Int))), (0, .ref b), (1, .ref xa), (2, .ref ma), (3, .ref oa)]) (hix : ix + 3 < L) (B : Nat) (z : Int) (e1 : xs (ix + 1) = iI z) (hI : zI B σ) (hzb : -2147483648 ≤ z ∧ z < 2147483648) (hbad : z < 0 ∨ (σ.1 0 : Int) ≤ z) (kk : lK pg l e s m args below meth c G b xa xr ma mr oa ix cells slots Q σ) : W pg l e room_1 s m args below meth c H locs cells slots Q (F0 m 843 ls []) := by
  obtain ⟨hx, hb, hml, hown, hts, hfl, hK, hE0, hN, hX, hbl, hL⟩ := C
  obtain ⟨hP, hD, hS⟩ := hP
  have hP : va_P G.1 vwCl (V3 G xa xr ma mr oa σ σ t v) H := hP
  have hD : va_D (nA s.heap.size) (V3 G xa xr ma mr oa σ σ t v) := hD
  refine lv_aload_n hx hb dL_law_843 rfl (lv_at hl 2 rfl) ?_
  refine lv_aload_n hx hb dL_law_844 rfl (lv_at hl 1 rfl) ?_
  refine lv_iload hx hb dL_law_845 (lv_at hl 0 rfl) ?_
  refine lv_iconst (v := iI 1) hx hb dL_law_847 rfl ?_
  refine z_iadd hx hb dL_law_848 ?_
  refine z_sld hx hb hX hbl hS (ix + 1) (by omega) (by omega) hL e1 dL_law_849 ?_
  refine lv_aload_n hx hb dL_law_850 rfl (lv_at hl 4 rfl) ?_
  refine zc_f (vx_runSW (As := [.ref xa, .int (iI z), .ref oa]) (rest := []) ⟨hx, hb, hml, hown, hts⟩ (f1_L_prideOf l hfl G xa xr oa _ B σ z hI hzb hbad) (vx_cwSW 3 hts gL_law_L_prideOf rfl rfl rfl (by decide +kernel) ⟨Nat.le_of_ble_eq_true rfl, Nat.le_of_ble_eq_true rfl⟩) (preWF hK (b_x hP) (j_E hE0 hS) hN) rfl rfl hl.1 rfl (lv_room (Nat.le_of_ble_eq_true rfl)) dL_law_851 ⟨by show _ ≤ 698866; omega, by show _ ≤ 6999506; omega⟩) hS (fun H locs hS hkk => ?_)
  have hP := j_0 hP hkk
  refine lv_istore (lv' := [(5, .int (iI 1)), (4, .int (iI (ix : Int))), (0, .ref b), (1, .ref xa), (2, .ref ma), (3, .ref oa)]) hx hb dL_law_854 hl (by decide) rfl (fun ls hl => ?_)
  refine lv_aload_n hx hb dL_law_856 rfl (lv_at hl 4 rfl) ?_
  refine lv_aload_n hx hb dL_law_857 rfl (lv_at hl 2 rfl) ?_
  refine lv_iload hx hb dL_law_858 (lv_at hl 1 rfl) ?_
  refine lv_iconst (v := iI 1) hx hb dL_law_860 rfl ?_
  refine z_iadd hx hb dL_law_861 ?_
  refine z_sld hx hb hX hbl hS (ix + 1) (by omega) (by omega) hL e1 dL_law_862 ?_
  refine zc_wi (va_runV (As := [.int (iI z)]) (rest := []) ⟨hx, hb, hml, hown, hts⟩ (e1_X1_prideOf l G ma mr _ B σ t z hI hzb hbad) (cwV 1 hts gL_law_X1_prideOf rfl rfl rfl (by decide +kernel) ⟨Nat.le_of_ble_eq_true rfl, Nat.le_of_ble_eq_true rfl⟩) (preWM hK (b_m hP) (d_m hD)) rfl rfl hl.1 rfl (lv_room (Nat.le_of_ble_eq_true rfl)) dL_law_863 ⟨by show _ ≤ 698866; omega, by show _ ≤ 6999506; omega⟩) hS (a_m hD hS) (fun H locs hP1 hS _ hkk => ?_)
  have hP := j_m hP hD hP1 hkk
  have hD := d_mv hD σ σ 1 (v)
  refine lv_istore (lv' := [(6, .int (iI 0)), (5, .int (iI 1)), (4, .int (iI (ix : Int))), (0, .ref b), (1, .ref xa), (2, .ref ma), (3, .ref oa)]) hx hb dL_law_866 hl (by decide) rfl (fun ls hl => ?_)
  refine lv_aload_n hx hb dL_law_868 rfl (lv_at hl 5 rfl) ?_
  refine zc_wi (va_runV (As := []) (rest := []) ⟨hx, hb, hml, hown, hts⟩ (c_X1_thrown l G ma mr _ σ 1) (cwV 0 hts gL_law_X1_thrown rfl rfl rfl (by decide +kernel) ⟨Nat.le_of_ble_eq_true rfl, Nat.le_of_ble_eq_true rfl⟩) (preWM hK (b_m hP) (d_m hD)) rfl rfl hl.1 rfl (lv_room (Nat.le_of_ble_eq_true rfl)) dL_law_869 ⟨by show _ ≤ 698866; omega, by show _ ≤ 6999506; omega⟩) hS (a_m hD hS) (fun H locs hP1 hS _ hkk => ?_)
  have hP := j_m hP hD hP1 hkk
  refine lv_iload hx hb dL_law_872 (lv_at hl 1 rfl) ?_
  refine z_icmp_eq (tgt := 879) hx hb dL_law_874 (by decide) (by omega) (by omega) (fun _ => ?_) (fun h => absurd (by omega) h)
  refine lv_iload hx hb dL_law_879 (lv_at hl 1 rfl) ?_
  refine z_if_ne (tgt := 896) hx hb dL_law_881 (by decide) (by decide) (fun _ => ?_) (fun h => absurd h (by decide))
  refine lv_goto (tgt := 2000) hx hb dL_law_896 (by decide) ?_
  exact kk _ _ _ _ _ _ _ ⟨hP, hD, hS⟩ (by omega) (by omega) (lv_sub hl [2, 3, 4, 5, 6] rfl)
set_option maxHeartbeats 4000000 in
set_option maxRecDepth 100000 in
theorem k1_borneBy (C : lC pg l s m args c G b L xs) (hP : lP G s xa xr ma mr oa σ t v H locs) (hc : cells + 32 ≤ 698866) (hs : slots + 256 ≤ 6999506) (hl : lv_has ls 9 [(4, .int (iI (ix : Int))), (0, .ref b), (1, .ref xa), (2, .ref ma), (3, .ref oa)]) (hix : ix + 3 < L) (B : Nat) (z : Int) (e1 : xs (ix + 1) = iI z) (hI : zI B σ) (hzb : -2147483648 ≤ z ∧ z < 2147483648) (hbad : z < 0 ∨ (σ.1 0 : Int) ≤ z) (kk : lK pg l e s m args below meth c G b xa xr ma mr oa ix cells slots Q σ) : W pg l e room_1 s m args below meth c H locs cells slots Q (F0 m 899 ls []) := by
  obtain ⟨hx, hb, hml, hown, hts, hfl, hK, hE0, hN, hX, hbl, hL⟩ := C
  obtain ⟨hP, hD, hS⟩ := hP
  have hP : va_P G.1 vwCl (V3 G xa xr ma mr oa σ σ t v) H := hP
  have hD : va_D (nA s.heap.size) (V3 G xa xr ma mr oa σ σ t v) := hD
  refine lv_aload_n hx hb dL_law_899 rfl (lv_at hl 2 rfl) ?_
  refine lv_aload_n hx hb dL_law_900 rfl (lv_at hl 1 rfl) ?_
  refine lv_iload hx hb dL_law_901 (lv_at hl 0 rfl) ?_
  refine lv_iconst (v := iI 1) hx hb dL_law_903 rfl ?_
  refine z_iadd hx hb dL_law_904 ?_
  refine z_sld hx hb hX hbl hS (ix + 1) (by omega) (by omega) hL e1 dL_law_905 ?_
  refine lv_aload_n hx hb dL_law_906 rfl (lv_at hl 4 rfl) ?_
  refine zc_f (vx_runSW (As := [.ref xa, .int (iI z), .ref oa]) (rest := []) ⟨hx, hb, hml, hown, hts⟩ (f1_L_borneBy l hfl G xa xr oa _ B σ z hI hzb hbad) (vx_cwSW 3 hts gL_law_L_borneBy rfl rfl rfl (by decide +kernel) ⟨Nat.le_of_ble_eq_true rfl, Nat.le_of_ble_eq_true rfl⟩) (preWF hK (b_x hP) (j_E hE0 hS) hN) rfl rfl hl.1 rfl (lv_room (Nat.le_of_ble_eq_true rfl)) dL_law_907 ⟨by show _ ≤ 698866; omega, by show _ ≤ 6999506; omega⟩) hS (fun H locs hS hkk => ?_)
  have hP := j_0 hP hkk
  refine lv_istore (lv' := [(5, .int (iI 1)), (4, .int (iI (ix : Int))), (0, .ref b), (1, .ref xa), (2, .ref ma), (3, .ref oa)]) hx hb dL_law_910 hl (by decide) rfl (fun ls hl => ?_)
  refine lv_aload_n hx hb dL_law_912 rfl (lv_at hl 4 rfl) ?_
  refine lv_aload_n hx hb dL_law_913 rfl (lv_at hl 2 rfl) ?_
  refine lv_iload hx hb dL_law_914 (lv_at hl 1 rfl) ?_
  refine lv_iconst (v := iI 1) hx hb dL_law_916 rfl ?_
  refine z_iadd hx hb dL_law_917 ?_
  refine z_sld hx hb hX hbl hS (ix + 1) (by omega) (by omega) hL e1 dL_law_918 ?_
  refine zc_wi (va_runV (As := [.int (iI z)]) (rest := []) ⟨hx, hb, hml, hown, hts⟩ (e1_X1_borneBy l G ma mr _ B σ t z hI hzb hbad) (cwV 1 hts gL_law_X1_borneBy rfl rfl rfl (by decide +kernel) ⟨Nat.le_of_ble_eq_true rfl, Nat.le_of_ble_eq_true rfl⟩) (preWM hK (b_m hP) (d_m hD)) rfl rfl hl.1 rfl (lv_room (Nat.le_of_ble_eq_true rfl)) dL_law_919 ⟨by show _ ≤ 698866; omega, by show _ ≤ 6999506; omega⟩) hS (a_m hD hS) (fun H locs hP1 hS _ hkk => ?_)
  have hP := j_m hP hD hP1 hkk
  have hD := d_mv hD σ σ 1 (v)
  refine lv_istore (lv' := [(6, .int (iI 0)), (5, .int (iI 1)), (4, .int (iI (ix : Int))), (0, .ref b), (1, .ref xa), (2, .ref ma), (3, .ref oa)]) hx hb dL_law_922 hl (by decide) rfl (fun ls hl => ?_)
  refine lv_aload_n hx hb dL_law_924 rfl (lv_at hl 5 rfl) ?_
  refine zc_wi (va_runV (As := []) (rest := []) ⟨hx, hb, hml, hown, hts⟩ (c_X1_thrown l G ma mr _ σ 1) (cwV 0 hts gL_law_X1_thrown rfl rfl rfl (by decide +kernel) ⟨Nat.le_of_ble_eq_true rfl, Nat.le_of_ble_eq_true rfl⟩) (preWM hK (b_m hP) (d_m hD)) rfl rfl hl.1 rfl (lv_room (Nat.le_of_ble_eq_true rfl)) dL_law_925 ⟨by show _ ≤ 698866; omega, by show _ ≤ 6999506; omega⟩) hS (a_m hD hS) (fun H locs hP1 hS _ hkk => ?_)
  have hP := j_m hP hD hP1 hkk
  refine lv_iload hx hb dL_law_928 (lv_at hl 1 rfl) ?_
  refine z_icmp_eq (tgt := 935) hx hb dL_law_930 (by decide) (by omega) (by omega) (fun _ => ?_) (fun h => absurd (by omega) h)
  refine lv_iload hx hb dL_law_935 (lv_at hl 1 rfl) ?_
  refine z_if_ne (tgt := 952) hx hb dL_law_937 (by decide) (by decide) (fun _ => ?_) (fun h => absurd h (by decide))
  refine lv_goto (tgt := 2000) hx hb dL_law_952 (by decide) ?_
  exact kk _ _ _ _ _ _ _ ⟨hP, hD, hS⟩ (by omega) (by omega) (lv_sub hl [2, 3, 4, 5, 6] rfl)
set_option maxHeartbeats 4000000 in
set_option maxRecDepth 100000 in
theorem k1_owedBy (C : lC pg l s m args c G b L xs) (hP : lP G s xa xr ma mr oa σ t v H locs) (hc : cells + 32 ≤ 698866) (hs : slots + 256 ≤ 6999506) (hl : lv_has ls 9 [(4, .int (iI (ix : Int))), (0, .ref b), (1, .ref xa), (2, .ref ma), (3, .ref oa)]) (hix : ix + 3 < L) (B : Nat) (z : Int) (e1 : xs (ix + 1) = iI z) (hI : zI B σ) (hzb : -2147483648 ≤ z ∧ z < 2147483648) (hbad : z < 0 ∨ (σ.1 0 : Int) ≤ z) (kk : lK pg l e s m args below meth c G b xa xr ma mr oa ix cells slots Q σ) : W pg l e room_1 s m args below meth c H locs cells slots Q (F0 m 955 ls []) := by
  obtain ⟨hx, hb, hml, hown, hts, hfl, hK, hE0, hN, hX, hbl, hL⟩ := C
  obtain ⟨hP, hD, hS⟩ := hP
  have hP : va_P G.1 vwCl (V3 G xa xr ma mr oa σ σ t v) H := hP
  have hD : va_D (nA s.heap.size) (V3 G xa xr ma mr oa σ σ t v) := hD
  refine lv_aload_n hx hb dL_law_955 rfl (lv_at hl 2 rfl) ?_
  refine lv_aload_n hx hb dL_law_956 rfl (lv_at hl 1 rfl) ?_
  refine lv_iload hx hb dL_law_957 (lv_at hl 0 rfl) ?_
  refine lv_iconst (v := iI 1) hx hb dL_law_959 rfl ?_
  refine z_iadd hx hb dL_law_960 ?_
  refine z_sld hx hb hX hbl hS (ix + 1) (by omega) (by omega) hL e1 dL_law_961 ?_
  refine lv_aload_n hx hb dL_law_962 rfl (lv_at hl 4 rfl) ?_
  refine zc_f (vx_runSW (As := [.ref xa, .int (iI z), .ref oa]) (rest := []) ⟨hx, hb, hml, hown, hts⟩ (f1_L_owedBy l hfl G xa xr oa _ B σ z hI hzb hbad) (vx_cwSW 3 hts gL_law_L_owedBy rfl rfl rfl (by decide +kernel) ⟨Nat.le_of_ble_eq_true rfl, Nat.le_of_ble_eq_true rfl⟩) (preWF hK (b_x hP) (j_E hE0 hS) hN) rfl rfl hl.1 rfl (lv_room (Nat.le_of_ble_eq_true rfl)) dL_law_963 ⟨by show _ ≤ 698866; omega, by show _ ≤ 6999506; omega⟩) hS (fun H locs hS hkk => ?_)
  have hP := j_0 hP hkk
  refine lv_istore (lv' := [(5, .int (iI 1)), (4, .int (iI (ix : Int))), (0, .ref b), (1, .ref xa), (2, .ref ma), (3, .ref oa)]) hx hb dL_law_966 hl (by decide) rfl (fun ls hl => ?_)
  refine lv_aload_n hx hb dL_law_968 rfl (lv_at hl 4 rfl) ?_
  refine lv_aload_n hx hb dL_law_969 rfl (lv_at hl 2 rfl) ?_
  refine lv_iload hx hb dL_law_970 (lv_at hl 1 rfl) ?_
  refine lv_iconst (v := iI 1) hx hb dL_law_972 rfl ?_
  refine z_iadd hx hb dL_law_973 ?_
  refine z_sld hx hb hX hbl hS (ix + 1) (by omega) (by omega) hL e1 dL_law_974 ?_
  refine zc_wi (va_runV (As := [.int (iI z)]) (rest := []) ⟨hx, hb, hml, hown, hts⟩ (e1_X1_owedBy l G ma mr _ B σ t z hI hzb hbad) (cwV 1 hts gL_law_X1_owedBy rfl rfl rfl (by decide +kernel) ⟨Nat.le_of_ble_eq_true rfl, Nat.le_of_ble_eq_true rfl⟩) (preWM hK (b_m hP) (d_m hD)) rfl rfl hl.1 rfl (lv_room (Nat.le_of_ble_eq_true rfl)) dL_law_975 ⟨by show _ ≤ 698866; omega, by show _ ≤ 6999506; omega⟩) hS (a_m hD hS) (fun H locs hP1 hS _ hkk => ?_)
  have hP := j_m hP hD hP1 hkk
  have hD := d_mv hD σ σ 1 (v)
  refine lv_istore (lv' := [(6, .int (iI 0)), (5, .int (iI 1)), (4, .int (iI (ix : Int))), (0, .ref b), (1, .ref xa), (2, .ref ma), (3, .ref oa)]) hx hb dL_law_978 hl (by decide) rfl (fun ls hl => ?_)
  refine lv_aload_n hx hb dL_law_980 rfl (lv_at hl 5 rfl) ?_
  refine zc_wi (va_runV (As := []) (rest := []) ⟨hx, hb, hml, hown, hts⟩ (c_X1_thrown l G ma mr _ σ 1) (cwV 0 hts gL_law_X1_thrown rfl rfl rfl (by decide +kernel) ⟨Nat.le_of_ble_eq_true rfl, Nat.le_of_ble_eq_true rfl⟩) (preWM hK (b_m hP) (d_m hD)) rfl rfl hl.1 rfl (lv_room (Nat.le_of_ble_eq_true rfl)) dL_law_981 ⟨by show _ ≤ 698866; omega, by show _ ≤ 6999506; omega⟩) hS (a_m hD hS) (fun H locs hP1 hS _ hkk => ?_)
  have hP := j_m hP hD hP1 hkk
  refine lv_iload hx hb dL_law_984 (lv_at hl 1 rfl) ?_
  refine z_icmp_eq (tgt := 991) hx hb dL_law_986 (by decide) (by omega) (by omega) (fun _ => ?_) (fun h => absurd (by omega) h)
  refine lv_iload hx hb dL_law_991 (lv_at hl 1 rfl) ?_
  refine z_if_ne (tgt := 1008) hx hb dL_law_993 (by decide) (by decide) (fun _ => ?_) (fun h => absurd h (by decide))
  refine lv_goto (tgt := 2000) hx hb dL_law_1008 (by decide) ?_
  exact kk _ _ _ _ _ _ _ ⟨hP, hD, hS⟩ (by omega) (by omega) (lv_sub hl [2, 3, 4, 5, 6] rfl)
set_option maxHeartbeats 4000000 in
set_option maxRecDepth 100000 in
theorem k1_balance (C : lC pg l s m args c G b L xs) (hP : lP G s xa xr ma mr oa σ t v H locs) (hc : cells + 32 ≤ 698866) (hs : slots + 256 ≤ 6999506) (hl : lv_has ls 9 [(4, .int (iI (ix : Int))), (0, .ref b), (1, .ref xa), (2, .ref ma), (3, .ref oa)]) (hix : ix + 3 < L) (B : Nat) (z : Int) (y : Int) (e1 : xs (ix + 1) = iI z) (e2 : xs (ix + 2) = iI y) (hI : zI B σ) (hzb : -2147483648 ≤ z ∧ z < 2147483648) (hbad : z < 0 ∨ (σ.1 0 : Int) ≤ z) (kk : lK pg l e s m args below meth c G b xa xr ma mr oa ix cells slots Q σ) : W pg l e room_1 s m args below meth c H locs cells slots Q (F0 m 1011 ls []) := by
  obtain ⟨hx, hb, hml, hown, hts, hfl, hK, hE0, hN, hX, hbl, hL⟩ := C
  obtain ⟨hP, hD, hS⟩ := hP
  have hP : va_P G.1 vwCl (V3 G xa xr ma mr oa σ σ t v) H := hP
  have hD : va_D (nA s.heap.size) (V3 G xa xr ma mr oa σ σ t v) := hD
  refine lv_aload_n hx hb dL_law_1011 rfl (lv_at hl 2 rfl) ?_
  refine lv_aload_n hx hb dL_law_1012 rfl (lv_at hl 1 rfl) ?_
  refine lv_iload hx hb dL_law_1013 (lv_at hl 0 rfl) ?_
  refine lv_iconst (v := iI 1) hx hb dL_law_1015 rfl ?_
  refine z_iadd hx hb dL_law_1016 ?_
  refine z_sld hx hb hX hbl hS (ix + 1) (by omega) (by omega) hL e1 dL_law_1017 ?_
  refine lv_aload_n hx hb dL_law_1018 rfl (lv_at hl 1 rfl) ?_
  refine lv_iload hx hb dL_law_1019 (lv_at hl 0 rfl) ?_
  refine lv_iconst (v := iI 2) hx hb dL_law_1021 rfl ?_
  refine z_iadd hx hb dL_law_1022 ?_
  refine z_sld hx hb hX hbl hS (ix + 2) (by omega) (by omega) hL e2 dL_law_1023 ?_
  refine lv_aload_n hx hb dL_law_1024 rfl (lv_at hl 4 rfl) ?_
  refine zc_f (vx_runSW (As := [.ref xa, .int (iI z), .int (iI y), .ref oa]) (rest := []) ⟨hx, hb, hml, hown, hts⟩ (f1_L_balance l hfl G xa xr oa _ B σ z y hI hzb hbad) (vx_cwSW 4 hts gL_law_L_balance rfl rfl rfl (by decide +kernel) ⟨Nat.le_of_ble_eq_true rfl, Nat.le_of_ble_eq_true rfl⟩) (preWF hK (b_x hP) (j_E hE0 hS) hN) rfl rfl hl.1 rfl (lv_room (Nat.le_of_ble_eq_true rfl)) dL_law_1025 ⟨by show _ ≤ 698866; omega, by show _ ≤ 6999506; omega⟩) hS (fun H locs hS hkk => ?_)
  have hP := j_0 hP hkk
  refine lv_istore (lv' := [(5, .int (iI 1)), (4, .int (iI (ix : Int))), (0, .ref b), (1, .ref xa), (2, .ref ma), (3, .ref oa)]) hx hb dL_law_1028 hl (by decide) rfl (fun ls hl => ?_)
  refine lv_aload_n hx hb dL_law_1030 rfl (lv_at hl 4 rfl) ?_
  refine lv_aload_n hx hb dL_law_1031 rfl (lv_at hl 2 rfl) ?_
  refine lv_iload hx hb dL_law_1032 (lv_at hl 1 rfl) ?_
  refine lv_iconst (v := iI 1) hx hb dL_law_1034 rfl ?_
  refine z_iadd hx hb dL_law_1035 ?_
  refine z_sld hx hb hX hbl hS (ix + 1) (by omega) (by omega) hL e1 dL_law_1036 ?_
  refine lv_aload_n hx hb dL_law_1037 rfl (lv_at hl 2 rfl) ?_
  refine lv_iload hx hb dL_law_1038 (lv_at hl 1 rfl) ?_
  refine lv_iconst (v := iI 2) hx hb dL_law_1040 rfl ?_
  refine z_iadd hx hb dL_law_1041 ?_
  refine z_sld hx hb hX hbl hS (ix + 2) (by omega) (by omega) hL e2 dL_law_1042 ?_
  refine zc_wi (va_runV (As := [.int (iI z), .int (iI y)]) (rest := []) ⟨hx, hb, hml, hown, hts⟩ (e1_X1_balance l G ma mr _ B σ t z y hI hzb hbad) (cwV 2 hts gL_law_X1_balance rfl rfl rfl (by decide +kernel) ⟨Nat.le_of_ble_eq_true rfl, Nat.le_of_ble_eq_true rfl⟩) (preWM hK (b_m hP) (d_m hD)) rfl rfl hl.1 rfl (lv_room (Nat.le_of_ble_eq_true rfl)) dL_law_1043 ⟨by show _ ≤ 698866; omega, by show _ ≤ 6999506; omega⟩) hS (a_m hD hS) (fun H locs hP1 hS _ hkk => ?_)
  have hP := j_m hP hD hP1 hkk
  have hD := d_mv hD σ σ 1 (v)
  refine lv_istore (lv' := [(6, .int (iI 0)), (5, .int (iI 1)), (4, .int (iI (ix : Int))), (0, .ref b), (1, .ref xa), (2, .ref ma), (3, .ref oa)]) hx hb dL_law_1046 hl (by decide) rfl (fun ls hl => ?_)
  refine lv_aload_n hx hb dL_law_1048 rfl (lv_at hl 5 rfl) ?_
  refine zc_wi (va_runV (As := []) (rest := []) ⟨hx, hb, hml, hown, hts⟩ (c_X1_thrown l G ma mr _ σ 1) (cwV 0 hts gL_law_X1_thrown rfl rfl rfl (by decide +kernel) ⟨Nat.le_of_ble_eq_true rfl, Nat.le_of_ble_eq_true rfl⟩) (preWM hK (b_m hP) (d_m hD)) rfl rfl hl.1 rfl (lv_room (Nat.le_of_ble_eq_true rfl)) dL_law_1049 ⟨by show _ ≤ 698866; omega, by show _ ≤ 6999506; omega⟩) hS (a_m hD hS) (fun H locs hP1 hS _ hkk => ?_)
  have hP := j_m hP hD hP1 hkk
  refine lv_iload hx hb dL_law_1052 (lv_at hl 1 rfl) ?_
  refine z_icmp_eq (tgt := 1059) hx hb dL_law_1054 (by decide) (by omega) (by omega) (fun _ => ?_) (fun h => absurd (by omega) h)
  refine lv_iload hx hb dL_law_1059 (lv_at hl 1 rfl) ?_
  refine z_if_ne (tgt := 1076) hx hb dL_law_1061 (by decide) (by decide) (fun _ => ?_) (fun h => absurd h (by decide))
  refine lv_goto (tgt := 2000) hx hb dL_law_1076 (by decide) ?_
  exact kk _ _ _ _ _ _ _ ⟨hP, hD, hS⟩ (by omega) (by omega) (lv_sub hl [2, 3, 4, 5, 6] rfl)
set_option maxHeartbeats 4000000 in
set_option maxRecDepth 100000 in
theorem k2_balance (C : lC pg l s m args c G b L xs) (hP : lP G s xa xr ma mr oa σ t v H locs) (hc : cells + 32 ≤ 698866) (hs : slots + 256 ≤ 6999506) (hl : lv_has ls 9 [(4, .int (iI (ix : Int))), (0, .ref b), (1, .ref xa), (2, .ref ma), (3, .ref oa)]) (hix : ix + 3 < L) (B : Nat) (i : Nat) (z : Int) (e1 : xs (ix + 1) = iI (i : Int)) (e2 : xs (ix + 2) = iI z) (hI : zI B σ) (hi : i < σ.1 0) (hzb : -2147483648 ≤ z ∧ z < 2147483648) (hbad : z < 0 ∨ (σ.1 0 : Int) ≤ z) (kk : lK pg l e s m args below meth c G b xa xr ma mr oa ix cells slots Q σ) : W pg l e room_1 s m args below meth c H locs cells slots Q (F0 m 1011 ls []) := by
  obtain ⟨hx, hb, hml, hown, hts, hfl, hK, hE0, hN, hX, hbl, hL⟩ := C
  obtain ⟨hP, hD, hS⟩ := hP
  have hP : va_P G.1 vwCl (V3 G xa xr ma mr oa σ σ t v) H := hP
  have hD : va_D (nA s.heap.size) (V3 G xa xr ma mr oa σ σ t v) := hD
  refine lv_aload_n hx hb dL_law_1011 rfl (lv_at hl 2 rfl) ?_
  refine lv_aload_n hx hb dL_law_1012 rfl (lv_at hl 1 rfl) ?_
  refine lv_iload hx hb dL_law_1013 (lv_at hl 0 rfl) ?_
  refine lv_iconst (v := iI 1) hx hb dL_law_1015 rfl ?_
  refine z_iadd hx hb dL_law_1016 ?_
  refine z_sld hx hb hX hbl hS (ix + 1) (by omega) (by omega) hL e1 dL_law_1017 ?_
  refine lv_aload_n hx hb dL_law_1018 rfl (lv_at hl 1 rfl) ?_
  refine lv_iload hx hb dL_law_1019 (lv_at hl 0 rfl) ?_
  refine lv_iconst (v := iI 2) hx hb dL_law_1021 rfl ?_
  refine z_iadd hx hb dL_law_1022 ?_
  refine z_sld hx hb hX hbl hS (ix + 2) (by omega) (by omega) hL e2 dL_law_1023 ?_
  refine lv_aload_n hx hb dL_law_1024 rfl (lv_at hl 4 rfl) ?_
  refine zc_f (vx_runSW (As := [.ref xa, .int (iI (i : Int)), .int (iI z), .ref oa]) (rest := []) ⟨hx, hb, hml, hown, hts⟩ (f2_L_balance l hfl G xa xr oa _ B σ i z hI hi hzb hbad) (vx_cwSW 4 hts gL_law_L_balance rfl rfl rfl (by decide +kernel) ⟨Nat.le_of_ble_eq_true rfl, Nat.le_of_ble_eq_true rfl⟩) (preWF hK (b_x hP) (j_E hE0 hS) hN) rfl rfl hl.1 rfl (lv_room (Nat.le_of_ble_eq_true rfl)) dL_law_1025 ⟨by show _ ≤ 698866; omega, by show _ ≤ 6999506; omega⟩) hS (fun H locs hS hkk => ?_)
  have hP := j_0 hP hkk
  refine lv_istore (lv' := [(5, .int (iI 1)), (4, .int (iI (ix : Int))), (0, .ref b), (1, .ref xa), (2, .ref ma), (3, .ref oa)]) hx hb dL_law_1028 hl (by decide) rfl (fun ls hl => ?_)
  refine lv_aload_n hx hb dL_law_1030 rfl (lv_at hl 4 rfl) ?_
  refine lv_aload_n hx hb dL_law_1031 rfl (lv_at hl 2 rfl) ?_
  refine lv_iload hx hb dL_law_1032 (lv_at hl 1 rfl) ?_
  refine lv_iconst (v := iI 1) hx hb dL_law_1034 rfl ?_
  refine z_iadd hx hb dL_law_1035 ?_
  refine z_sld hx hb hX hbl hS (ix + 1) (by omega) (by omega) hL e1 dL_law_1036 ?_
  refine lv_aload_n hx hb dL_law_1037 rfl (lv_at hl 2 rfl) ?_
  refine lv_iload hx hb dL_law_1038 (lv_at hl 1 rfl) ?_
  refine lv_iconst (v := iI 2) hx hb dL_law_1040 rfl ?_
  refine z_iadd hx hb dL_law_1041 ?_
  refine z_sld hx hb hX hbl hS (ix + 2) (by omega) (by omega) hL e2 dL_law_1042 ?_
  refine zc_wi (va_runV (As := [.int (iI (i : Int)), .int (iI z)]) (rest := []) ⟨hx, hb, hml, hown, hts⟩ (e2_X1_balance l G ma mr _ B σ t i z hI hi hzb hbad) (cwV 2 hts gL_law_X1_balance rfl rfl rfl (by decide +kernel) ⟨Nat.le_of_ble_eq_true rfl, Nat.le_of_ble_eq_true rfl⟩) (preWM hK (b_m hP) (d_m hD)) rfl rfl hl.1 rfl (lv_room (Nat.le_of_ble_eq_true rfl)) dL_law_1043 ⟨by show _ ≤ 698866; omega, by show _ ≤ 6999506; omega⟩) hS (a_m hD hS) (fun H locs hP1 hS _ hkk => ?_)
  have hP := j_m hP hD hP1 hkk
  have hD := d_mv hD σ σ 1 (v)
  refine lv_istore (lv' := [(6, .int (iI 0)), (5, .int (iI 1)), (4, .int (iI (ix : Int))), (0, .ref b), (1, .ref xa), (2, .ref ma), (3, .ref oa)]) hx hb dL_law_1046 hl (by decide) rfl (fun ls hl => ?_)
  refine lv_aload_n hx hb dL_law_1048 rfl (lv_at hl 5 rfl) ?_
  refine zc_wi (va_runV (As := []) (rest := []) ⟨hx, hb, hml, hown, hts⟩ (c_X1_thrown l G ma mr _ σ 1) (cwV 0 hts gL_law_X1_thrown rfl rfl rfl (by decide +kernel) ⟨Nat.le_of_ble_eq_true rfl, Nat.le_of_ble_eq_true rfl⟩) (preWM hK (b_m hP) (d_m hD)) rfl rfl hl.1 rfl (lv_room (Nat.le_of_ble_eq_true rfl)) dL_law_1049 ⟨by show _ ≤ 698866; omega, by show _ ≤ 6999506; omega⟩) hS (a_m hD hS) (fun H locs hP1 hS _ hkk => ?_)
  have hP := j_m hP hD hP1 hkk
  refine lv_iload hx hb dL_law_1052 (lv_at hl 1 rfl) ?_
  refine z_icmp_eq (tgt := 1059) hx hb dL_law_1054 (by decide) (by omega) (by omega) (fun _ => ?_) (fun h => absurd (by omega) h)
  refine lv_iload hx hb dL_law_1059 (lv_at hl 1 rfl) ?_
  refine z_if_ne (tgt := 1076) hx hb dL_law_1061 (by decide) (by decide) (fun _ => ?_) (fun h => absurd h (by decide))
  refine lv_goto (tgt := 2000) hx hb dL_law_1076 (by decide) ?_
  exact kk _ _ _ _ _ _ _ ⟨hP, hD, hS⟩ (by omega) (by omega) (lv_sub hl [2, 3, 4, 5, 6] rfl)
set_option maxHeartbeats 4000000 in
set_option maxRecDepth 100000 in
theorem k1_offenderOf (C : lC pg l s m args c G b L xs) (hP : lP G s xa xr ma mr oa σ t v H locs) (hc : cells + 32 ≤ 698866) (hs : slots + 256 ≤ 6999506) (hl : lv_has ls 9 [(4, .int (iI (ix : Int))), (0, .ref b), (1, .ref xa), (2, .ref ma), (3, .ref oa)]) (hix : ix + 3 < L) (B : Nat) (z : Int) (e1 : xs (ix + 1) = iI z) (hI : zI B σ) (hzb : -2147483648 ≤ z ∧ z < 2147483648) (hbad : z < 0 ∨ (σ.1 1 : Int) ≤ z) (kk : lK pg l e s m args below meth c G b xa xr ma mr oa ix cells slots Q σ) : W pg l e room_1 s m args below meth c H locs cells slots Q (F0 m 1092 ls []) := by
  obtain ⟨hx, hb, hml, hown, hts, hfl, hK, hE0, hN, hX, hbl, hL⟩ := C
  obtain ⟨hP, hD, hS⟩ := hP
  have hP : va_P G.1 vwCl (V3 G xa xr ma mr oa σ σ t v) H := hP
  have hD : va_D (nA s.heap.size) (V3 G xa xr ma mr oa σ σ t v) := hD
  refine lv_aload_n hx hb dL_law_1092 rfl (lv_at hl 2 rfl) ?_
  refine lv_aload_n hx hb dL_law_1093 rfl (lv_at hl 1 rfl) ?_
  refine lv_iload hx hb dL_law_1094 (lv_at hl 0 rfl) ?_
  refine lv_iconst (v := iI 1) hx hb dL_law_1096 rfl ?_
  refine z_iadd hx hb dL_law_1097 ?_
  refine z_sld hx hb hX hbl hS (ix + 1) (by omega) (by omega) hL e1 dL_law_1098 ?_
  refine lv_aload_n hx hb dL_law_1099 rfl (lv_at hl 4 rfl) ?_
  refine zc_f (vx_runSW (As := [.ref xa, .int (iI z), .ref oa]) (rest := []) ⟨hx, hb, hml, hown, hts⟩ (f1_L_offenderOf l hfl G xa xr oa _ B σ z hI hzb hbad) (vx_cwSW 3 hts gL_law_L_offenderOf rfl rfl rfl (by decide +kernel) ⟨Nat.le_of_ble_eq_true rfl, Nat.le_of_ble_eq_true rfl⟩) (preWF hK (b_x hP) (j_E hE0 hS) hN) rfl rfl hl.1 rfl (lv_room (Nat.le_of_ble_eq_true rfl)) dL_law_1100 ⟨by show _ ≤ 698866; omega, by show _ ≤ 6999506; omega⟩) hS (fun H locs hS hkk => ?_)
  have hP := j_0 hP hkk
  refine lv_istore (lv' := [(5, .int (iI 1)), (4, .int (iI (ix : Int))), (0, .ref b), (1, .ref xa), (2, .ref ma), (3, .ref oa)]) hx hb dL_law_1103 hl (by decide) rfl (fun ls hl => ?_)
  refine lv_aload_n hx hb dL_law_1105 rfl (lv_at hl 4 rfl) ?_
  refine lv_aload_n hx hb dL_law_1106 rfl (lv_at hl 2 rfl) ?_
  refine lv_iload hx hb dL_law_1107 (lv_at hl 1 rfl) ?_
  refine lv_iconst (v := iI 1) hx hb dL_law_1109 rfl ?_
  refine z_iadd hx hb dL_law_1110 ?_
  refine z_sld hx hb hX hbl hS (ix + 1) (by omega) (by omega) hL e1 dL_law_1111 ?_
  refine zc_wi (va_runV (As := [.int (iI z)]) (rest := []) ⟨hx, hb, hml, hown, hts⟩ (e1_X1_offenderOf l G ma mr _ B σ t z hI hzb hbad) (cwV 1 hts gL_law_X1_offenderOf rfl rfl rfl (by decide +kernel) ⟨Nat.le_of_ble_eq_true rfl, Nat.le_of_ble_eq_true rfl⟩) (preWM hK (b_m hP) (d_m hD)) rfl rfl hl.1 rfl (lv_room (Nat.le_of_ble_eq_true rfl)) dL_law_1112 ⟨by show _ ≤ 698866; omega, by show _ ≤ 6999506; omega⟩) hS (a_m hD hS) (fun H locs hP1 hS _ hkk => ?_)
  have hP := j_m hP hD hP1 hkk
  have hD := d_mv hD σ σ 1 (v)
  refine lv_istore (lv' := [(6, .int (iI 0)), (5, .int (iI 1)), (4, .int (iI (ix : Int))), (0, .ref b), (1, .ref xa), (2, .ref ma), (3, .ref oa)]) hx hb dL_law_1115 hl (by decide) rfl (fun ls hl => ?_)
  refine lv_aload_n hx hb dL_law_1117 rfl (lv_at hl 5 rfl) ?_
  refine zc_wi (va_runV (As := []) (rest := []) ⟨hx, hb, hml, hown, hts⟩ (c_X1_thrown l G ma mr _ σ 1) (cwV 0 hts gL_law_X1_thrown rfl rfl rfl (by decide +kernel) ⟨Nat.le_of_ble_eq_true rfl, Nat.le_of_ble_eq_true rfl⟩) (preWM hK (b_m hP) (d_m hD)) rfl rfl hl.1 rfl (lv_room (Nat.le_of_ble_eq_true rfl)) dL_law_1118 ⟨by show _ ≤ 698866; omega, by show _ ≤ 6999506; omega⟩) hS (a_m hD hS) (fun H locs hP1 hS _ hkk => ?_)
  have hP := j_m hP hD hP1 hkk
  refine lv_iload hx hb dL_law_1121 (lv_at hl 1 rfl) ?_
  refine z_icmp_eq (tgt := 1128) hx hb dL_law_1123 (by decide) (by omega) (by omega) (fun _ => ?_) (fun h => absurd (by omega) h)
  refine lv_iload hx hb dL_law_1128 (lv_at hl 1 rfl) ?_
  refine z_if_ne (tgt := 1145) hx hb dL_law_1130 (by decide) (by decide) (fun _ => ?_) (fun h => absurd h (by decide))
  refine lv_goto (tgt := 2000) hx hb dL_law_1145 (by decide) ?_
  exact kk _ _ _ _ _ _ _ ⟨hP, hD, hS⟩ (by omega) (by omega) (lv_sub hl [2, 3, 4, 5, 6] rfl)
set_option maxHeartbeats 4000000 in
set_option maxRecDepth 100000 in
theorem k1_offendedOf (C : lC pg l s m args c G b L xs) (hP : lP G s xa xr ma mr oa σ t v H locs) (hc : cells + 32 ≤ 698866) (hs : slots + 256 ≤ 6999506) (hl : lv_has ls 9 [(4, .int (iI (ix : Int))), (0, .ref b), (1, .ref xa), (2, .ref ma), (3, .ref oa)]) (hix : ix + 3 < L) (B : Nat) (z : Int) (e1 : xs (ix + 1) = iI z) (hI : zI B σ) (hzb : -2147483648 ≤ z ∧ z < 2147483648) (hbad : z < 0 ∨ (σ.1 1 : Int) ≤ z) (kk : lK pg l e s m args below meth c G b xa xr ma mr oa ix cells slots Q σ) : W pg l e room_1 s m args below meth c H locs cells slots Q (F0 m 1148 ls []) := by
  obtain ⟨hx, hb, hml, hown, hts, hfl, hK, hE0, hN, hX, hbl, hL⟩ := C
  obtain ⟨hP, hD, hS⟩ := hP
  have hP : va_P G.1 vwCl (V3 G xa xr ma mr oa σ σ t v) H := hP
  have hD : va_D (nA s.heap.size) (V3 G xa xr ma mr oa σ σ t v) := hD
  refine lv_aload_n hx hb dL_law_1148 rfl (lv_at hl 2 rfl) ?_
  refine lv_aload_n hx hb dL_law_1149 rfl (lv_at hl 1 rfl) ?_
  refine lv_iload hx hb dL_law_1150 (lv_at hl 0 rfl) ?_
  refine lv_iconst (v := iI 1) hx hb dL_law_1152 rfl ?_
  refine z_iadd hx hb dL_law_1153 ?_
  refine z_sld hx hb hX hbl hS (ix + 1) (by omega) (by omega) hL e1 dL_law_1154 ?_
  refine lv_aload_n hx hb dL_law_1155 rfl (lv_at hl 4 rfl) ?_
  refine zc_f (vx_runSW (As := [.ref xa, .int (iI z), .ref oa]) (rest := []) ⟨hx, hb, hml, hown, hts⟩ (f1_L_offendedOf l hfl G xa xr oa _ B σ z hI hzb hbad) (vx_cwSW 3 hts gL_law_L_offendedOf rfl rfl rfl (by decide +kernel) ⟨Nat.le_of_ble_eq_true rfl, Nat.le_of_ble_eq_true rfl⟩) (preWF hK (b_x hP) (j_E hE0 hS) hN) rfl rfl hl.1 rfl (lv_room (Nat.le_of_ble_eq_true rfl)) dL_law_1156 ⟨by show _ ≤ 698866; omega, by show _ ≤ 6999506; omega⟩) hS (fun H locs hS hkk => ?_)
  have hP := j_0 hP hkk
  refine lv_istore (lv' := [(5, .int (iI 1)), (4, .int (iI (ix : Int))), (0, .ref b), (1, .ref xa), (2, .ref ma), (3, .ref oa)]) hx hb dL_law_1159 hl (by decide) rfl (fun ls hl => ?_)
  refine lv_aload_n hx hb dL_law_1161 rfl (lv_at hl 4 rfl) ?_
  refine lv_aload_n hx hb dL_law_1162 rfl (lv_at hl 2 rfl) ?_
  refine lv_iload hx hb dL_law_1163 (lv_at hl 1 rfl) ?_
  refine lv_iconst (v := iI 1) hx hb dL_law_1165 rfl ?_
  refine z_iadd hx hb dL_law_1166 ?_
  refine z_sld hx hb hX hbl hS (ix + 1) (by omega) (by omega) hL e1 dL_law_1167 ?_
  refine zc_wi (va_runV (As := [.int (iI z)]) (rest := []) ⟨hx, hb, hml, hown, hts⟩ (e1_X1_offendedOf l G ma mr _ B σ t z hI hzb hbad) (cwV 1 hts gL_law_X1_offendedOf rfl rfl rfl (by decide +kernel) ⟨Nat.le_of_ble_eq_true rfl, Nat.le_of_ble_eq_true rfl⟩) (preWM hK (b_m hP) (d_m hD)) rfl rfl hl.1 rfl (lv_room (Nat.le_of_ble_eq_true rfl)) dL_law_1168 ⟨by show _ ≤ 698866; omega, by show _ ≤ 6999506; omega⟩) hS (a_m hD hS) (fun H locs hP1 hS _ hkk => ?_)
  have hP := j_m hP hD hP1 hkk
  have hD := d_mv hD σ σ 1 (v)
  refine lv_istore (lv' := [(6, .int (iI 0)), (5, .int (iI 1)), (4, .int (iI (ix : Int))), (0, .ref b), (1, .ref xa), (2, .ref ma), (3, .ref oa)]) hx hb dL_law_1171 hl (by decide) rfl (fun ls hl => ?_)
  refine lv_aload_n hx hb dL_law_1173 rfl (lv_at hl 5 rfl) ?_
  refine zc_wi (va_runV (As := []) (rest := []) ⟨hx, hb, hml, hown, hts⟩ (c_X1_thrown l G ma mr _ σ 1) (cwV 0 hts gL_law_X1_thrown rfl rfl rfl (by decide +kernel) ⟨Nat.le_of_ble_eq_true rfl, Nat.le_of_ble_eq_true rfl⟩) (preWM hK (b_m hP) (d_m hD)) rfl rfl hl.1 rfl (lv_room (Nat.le_of_ble_eq_true rfl)) dL_law_1174 ⟨by show _ ≤ 698866; omega, by show _ ≤ 6999506; omega⟩) hS (a_m hD hS) (fun H locs hP1 hS _ hkk => ?_)
  have hP := j_m hP hD hP1 hkk
  refine lv_iload hx hb dL_law_1177 (lv_at hl 1 rfl) ?_
  refine z_icmp_eq (tgt := 1184) hx hb dL_law_1179 (by decide) (by omega) (by omega) (fun _ => ?_) (fun h => absurd (by omega) h)
  refine lv_iload hx hb dL_law_1184 (lv_at hl 1 rfl) ?_
  refine z_if_ne (tgt := 1201) hx hb dL_law_1186 (by decide) (by decide) (fun _ => ?_) (fun h => absurd h (by decide))
  refine lv_goto (tgt := 2000) hx hb dL_law_1201 (by decide) ?_
  exact kk _ _ _ _ _ _ _ ⟨hP, hD, hS⟩ (by omega) (by omega) (lv_sub hl [2, 3, 4, 5, 6] rfl)
set_option maxHeartbeats 4000000 in
set_option maxRecDepth 100000 in
theorem k1_weightOf (C : lC pg l s m args c G b L xs) (hP : lP G s xa xr ma mr oa σ t v H locs) (hc : cells + 32 ≤ 698866) (hs : slots + 256 ≤ 6999506) (hl : lv_has ls 9 [(4, .int (iI (ix : Int))), (0, .ref b), (1, .ref xa), (2, .ref ma), (3, .ref oa)]) (hix : ix + 3 < L) (B : Nat) (z : Int) (e1 : xs (ix + 1) = iI z) (hI : zI B σ) (hzb : -2147483648 ≤ z ∧ z < 2147483648) (hbad : z < 0 ∨ (σ.1 1 : Int) ≤ z) (kk : lK pg l e s m args below meth c G b xa xr ma mr oa ix cells slots Q σ) : W pg l e room_1 s m args below meth c H locs cells slots Q (F0 m 1204 ls []) := by
  obtain ⟨hx, hb, hml, hown, hts, hfl, hK, hE0, hN, hX, hbl, hL⟩ := C
  obtain ⟨hP, hD, hS⟩ := hP
  have hP : va_P G.1 vwCl (V3 G xa xr ma mr oa σ σ t v) H := hP
  have hD : va_D (nA s.heap.size) (V3 G xa xr ma mr oa σ σ t v) := hD
  refine lv_aload_n hx hb dL_law_1204 rfl (lv_at hl 2 rfl) ?_
  refine lv_aload_n hx hb dL_law_1205 rfl (lv_at hl 1 rfl) ?_
  refine lv_iload hx hb dL_law_1206 (lv_at hl 0 rfl) ?_
  refine lv_iconst (v := iI 1) hx hb dL_law_1208 rfl ?_
  refine z_iadd hx hb dL_law_1209 ?_
  refine z_sld hx hb hX hbl hS (ix + 1) (by omega) (by omega) hL e1 dL_law_1210 ?_
  refine lv_aload_n hx hb dL_law_1211 rfl (lv_at hl 4 rfl) ?_
  refine zc_f (vx_runSW (As := [.ref xa, .int (iI z), .ref oa]) (rest := []) ⟨hx, hb, hml, hown, hts⟩ (f1_L_weightOf l hfl G xa xr oa _ B σ z hI hzb hbad) (vx_cwSW 3 hts gL_law_L_weightOf rfl rfl rfl (by decide +kernel) ⟨Nat.le_of_ble_eq_true rfl, Nat.le_of_ble_eq_true rfl⟩) (preWF hK (b_x hP) (j_E hE0 hS) hN) rfl rfl hl.1 rfl (lv_room (Nat.le_of_ble_eq_true rfl)) dL_law_1212 ⟨by show _ ≤ 698866; omega, by show _ ≤ 6999506; omega⟩) hS (fun H locs hS hkk => ?_)
  have hP := j_0 hP hkk
  refine lv_istore (lv' := [(5, .int (iI 1)), (4, .int (iI (ix : Int))), (0, .ref b), (1, .ref xa), (2, .ref ma), (3, .ref oa)]) hx hb dL_law_1215 hl (by decide) rfl (fun ls hl => ?_)
  refine lv_aload_n hx hb dL_law_1217 rfl (lv_at hl 4 rfl) ?_
  refine lv_aload_n hx hb dL_law_1218 rfl (lv_at hl 2 rfl) ?_
  refine lv_iload hx hb dL_law_1219 (lv_at hl 1 rfl) ?_
  refine lv_iconst (v := iI 1) hx hb dL_law_1221 rfl ?_
  refine z_iadd hx hb dL_law_1222 ?_
  refine z_sld hx hb hX hbl hS (ix + 1) (by omega) (by omega) hL e1 dL_law_1223 ?_
  refine zc_wi (va_runV (As := [.int (iI z)]) (rest := []) ⟨hx, hb, hml, hown, hts⟩ (e1_X1_weightOf l G ma mr _ B σ t z hI hzb hbad) (cwV 1 hts gL_law_X1_weightOf rfl rfl rfl (by decide +kernel) ⟨Nat.le_of_ble_eq_true rfl, Nat.le_of_ble_eq_true rfl⟩) (preWM hK (b_m hP) (d_m hD)) rfl rfl hl.1 rfl (lv_room (Nat.le_of_ble_eq_true rfl)) dL_law_1224 ⟨by show _ ≤ 698866; omega, by show _ ≤ 6999506; omega⟩) hS (a_m hD hS) (fun H locs hP1 hS _ hkk => ?_)
  have hP := j_m hP hD hP1 hkk
  have hD := d_mv hD σ σ 1 (v)
  refine lv_istore (lv' := [(6, .int (iI 0)), (5, .int (iI 1)), (4, .int (iI (ix : Int))), (0, .ref b), (1, .ref xa), (2, .ref ma), (3, .ref oa)]) hx hb dL_law_1227 hl (by decide) rfl (fun ls hl => ?_)
  refine lv_aload_n hx hb dL_law_1229 rfl (lv_at hl 5 rfl) ?_
  refine zc_wi (va_runV (As := []) (rest := []) ⟨hx, hb, hml, hown, hts⟩ (c_X1_thrown l G ma mr _ σ 1) (cwV 0 hts gL_law_X1_thrown rfl rfl rfl (by decide +kernel) ⟨Nat.le_of_ble_eq_true rfl, Nat.le_of_ble_eq_true rfl⟩) (preWM hK (b_m hP) (d_m hD)) rfl rfl hl.1 rfl (lv_room (Nat.le_of_ble_eq_true rfl)) dL_law_1230 ⟨by show _ ≤ 698866; omega, by show _ ≤ 6999506; omega⟩) hS (a_m hD hS) (fun H locs hP1 hS _ hkk => ?_)
  have hP := j_m hP hD hP1 hkk
  refine lv_iload hx hb dL_law_1233 (lv_at hl 1 rfl) ?_
  refine z_icmp_eq (tgt := 1240) hx hb dL_law_1235 (by decide) (by omega) (by omega) (fun _ => ?_) (fun h => absurd (by omega) h)
  refine lv_iload hx hb dL_law_1240 (lv_at hl 1 rfl) ?_
  refine z_if_ne (tgt := 1257) hx hb dL_law_1242 (by decide) (by decide) (fun _ => ?_) (fun h => absurd h (by decide))
  refine lv_goto (tgt := 2000) hx hb dL_law_1257 (by decide) ?_
  exact kk _ _ _ _ _ _ _ ⟨hP, hD, hS⟩ (by omega) (by omega) (lv_sub hl [2, 3, 4, 5, 6] rfl)
set_option maxHeartbeats 4000000 in
set_option maxRecDepth 100000 in
theorem k1_stateOf (C : lC pg l s m args c G b L xs) (hP : lP G s xa xr ma mr oa σ t v H locs) (hc : cells + 32 ≤ 698866) (hs : slots + 256 ≤ 6999506) (hl : lv_has ls 9 [(4, .int (iI (ix : Int))), (0, .ref b), (1, .ref xa), (2, .ref ma), (3, .ref oa)]) (hix : ix + 3 < L) (B : Nat) (z : Int) (e1 : xs (ix + 1) = iI z) (hI : zI B σ) (hzb : -2147483648 ≤ z ∧ z < 2147483648) (hbad : z < 0 ∨ (σ.1 1 : Int) ≤ z) (kk : lK pg l e s m args below meth c G b xa xr ma mr oa ix cells slots Q σ) : W pg l e room_1 s m args below meth c H locs cells slots Q (F0 m 1260 ls []) := by
  obtain ⟨hx, hb, hml, hown, hts, hfl, hK, hE0, hN, hX, hbl, hL⟩ := C
  obtain ⟨hP, hD, hS⟩ := hP
  have hP : va_P G.1 vwCl (V3 G xa xr ma mr oa σ σ t v) H := hP
  have hD : va_D (nA s.heap.size) (V3 G xa xr ma mr oa σ σ t v) := hD
  refine lv_aload_n hx hb dL_law_1260 rfl (lv_at hl 2 rfl) ?_
  refine lv_aload_n hx hb dL_law_1261 rfl (lv_at hl 1 rfl) ?_
  refine lv_iload hx hb dL_law_1262 (lv_at hl 0 rfl) ?_
  refine lv_iconst (v := iI 1) hx hb dL_law_1264 rfl ?_
  refine z_iadd hx hb dL_law_1265 ?_
  refine z_sld hx hb hX hbl hS (ix + 1) (by omega) (by omega) hL e1 dL_law_1266 ?_
  refine lv_aload_n hx hb dL_law_1267 rfl (lv_at hl 4 rfl) ?_
  refine zc_f (vx_runSW (As := [.ref xa, .int (iI z), .ref oa]) (rest := []) ⟨hx, hb, hml, hown, hts⟩ (f1_L_stateOf l hfl G xa xr oa _ B σ z hI hzb hbad) (vx_cwSW 3 hts gL_law_L_stateOf rfl rfl rfl (by decide +kernel) ⟨Nat.le_of_ble_eq_true rfl, Nat.le_of_ble_eq_true rfl⟩) (preWF hK (b_x hP) (j_E hE0 hS) hN) rfl rfl hl.1 rfl (lv_room (Nat.le_of_ble_eq_true rfl)) dL_law_1268 ⟨by show _ ≤ 698866; omega, by show _ ≤ 6999506; omega⟩) hS (fun H locs hS hkk => ?_)
  have hP := j_0 hP hkk
  refine lv_istore (lv' := [(5, .int (iI 1)), (4, .int (iI (ix : Int))), (0, .ref b), (1, .ref xa), (2, .ref ma), (3, .ref oa)]) hx hb dL_law_1271 hl (by decide) rfl (fun ls hl => ?_)
  refine lv_aload_n hx hb dL_law_1273 rfl (lv_at hl 4 rfl) ?_
  refine lv_aload_n hx hb dL_law_1274 rfl (lv_at hl 2 rfl) ?_
  refine lv_iload hx hb dL_law_1275 (lv_at hl 1 rfl) ?_
  refine lv_iconst (v := iI 1) hx hb dL_law_1277 rfl ?_
  refine z_iadd hx hb dL_law_1278 ?_
  refine z_sld hx hb hX hbl hS (ix + 1) (by omega) (by omega) hL e1 dL_law_1279 ?_
  refine zc_wi (va_runV (As := [.int (iI z)]) (rest := []) ⟨hx, hb, hml, hown, hts⟩ (e1_X1_stateOf l G ma mr _ B σ t z hI hzb hbad) (cwV 1 hts gL_law_X1_stateOf rfl rfl rfl (by decide +kernel) ⟨Nat.le_of_ble_eq_true rfl, Nat.le_of_ble_eq_true rfl⟩) (preWM hK (b_m hP) (d_m hD)) rfl rfl hl.1 rfl (lv_room (Nat.le_of_ble_eq_true rfl)) dL_law_1280 ⟨by show _ ≤ 698866; omega, by show _ ≤ 6999506; omega⟩) hS (a_m hD hS) (fun H locs hP1 hS _ hkk => ?_)
  have hP := j_m hP hD hP1 hkk
  have hD := d_mv hD σ σ 1 (v)
  refine lv_istore (lv' := [(6, .int (iI 0)), (5, .int (iI 1)), (4, .int (iI (ix : Int))), (0, .ref b), (1, .ref xa), (2, .ref ma), (3, .ref oa)]) hx hb dL_law_1283 hl (by decide) rfl (fun ls hl => ?_)
  refine lv_aload_n hx hb dL_law_1285 rfl (lv_at hl 5 rfl) ?_
  refine zc_wi (va_runV (As := []) (rest := []) ⟨hx, hb, hml, hown, hts⟩ (c_X1_thrown l G ma mr _ σ 1) (cwV 0 hts gL_law_X1_thrown rfl rfl rfl (by decide +kernel) ⟨Nat.le_of_ble_eq_true rfl, Nat.le_of_ble_eq_true rfl⟩) (preWM hK (b_m hP) (d_m hD)) rfl rfl hl.1 rfl (lv_room (Nat.le_of_ble_eq_true rfl)) dL_law_1286 ⟨by show _ ≤ 698866; omega, by show _ ≤ 6999506; omega⟩) hS (a_m hD hS) (fun H locs hP1 hS _ hkk => ?_)
  have hP := j_m hP hD hP1 hkk
  refine lv_iload hx hb dL_law_1289 (lv_at hl 1 rfl) ?_
  refine z_icmp_eq (tgt := 1296) hx hb dL_law_1291 (by decide) (by omega) (by omega) (fun _ => ?_) (fun h => absurd (by omega) h)
  refine lv_iload hx hb dL_law_1296 (lv_at hl 1 rfl) ?_
  refine z_if_ne (tgt := 1313) hx hb dL_law_1298 (by decide) (by decide) (fun _ => ?_) (fun h => absurd h (by decide))
  refine lv_goto (tgt := 2000) hx hb dL_law_1313 (by decide) ?_
  exact kk _ _ _ _ _ _ _ ⟨hP, hD, hS⟩ (by omega) (by omega) (lv_sub hl [2, 3, 4, 5, 6] rfl)
set_option maxHeartbeats 4000000 in
set_option maxRecDepth 100000 in
theorem k1_borneFor (C : lC pg l s m args c G b L xs) (hP : lP G s xa xr ma mr oa σ t v H locs) (hc : cells + 32 ≤ 698866) (hs : slots + 256 ≤ 6999506) (hl : lv_has ls 9 [(4, .int (iI (ix : Int))), (0, .ref b), (1, .ref xa), (2, .ref ma), (3, .ref oa)]) (hix : ix + 3 < L) (B : Nat) (z : Int) (e1 : xs (ix + 1) = iI z) (hI : zI B σ) (hzb : -2147483648 ≤ z ∧ z < 2147483648) (hbad : z < 0 ∨ (σ.1 1 : Int) ≤ z) (kk : lK pg l e s m args below meth c G b xa xr ma mr oa ix cells slots Q σ) : W pg l e room_1 s m args below meth c H locs cells slots Q (F0 m 1316 ls []) := by
  obtain ⟨hx, hb, hml, hown, hts, hfl, hK, hE0, hN, hX, hbl, hL⟩ := C
  obtain ⟨hP, hD, hS⟩ := hP
  have hP : va_P G.1 vwCl (V3 G xa xr ma mr oa σ σ t v) H := hP
  have hD : va_D (nA s.heap.size) (V3 G xa xr ma mr oa σ σ t v) := hD
  refine lv_aload_n hx hb dL_law_1316 rfl (lv_at hl 2 rfl) ?_
  refine lv_aload_n hx hb dL_law_1317 rfl (lv_at hl 1 rfl) ?_
  refine lv_iload hx hb dL_law_1318 (lv_at hl 0 rfl) ?_
  refine lv_iconst (v := iI 1) hx hb dL_law_1320 rfl ?_
  refine z_iadd hx hb dL_law_1321 ?_
  refine z_sld hx hb hX hbl hS (ix + 1) (by omega) (by omega) hL e1 dL_law_1322 ?_
  refine lv_aload_n hx hb dL_law_1323 rfl (lv_at hl 4 rfl) ?_
  refine zc_f (vx_runSW (As := [.ref xa, .int (iI z), .ref oa]) (rest := []) ⟨hx, hb, hml, hown, hts⟩ (f1_L_borneFor l hfl G xa xr oa _ B σ z hI hzb hbad) (vx_cwSW 3 hts gL_law_L_borneFor rfl rfl rfl (by decide +kernel) ⟨Nat.le_of_ble_eq_true rfl, Nat.le_of_ble_eq_true rfl⟩) (preWF hK (b_x hP) (j_E hE0 hS) hN) rfl rfl hl.1 rfl (lv_room (Nat.le_of_ble_eq_true rfl)) dL_law_1324 ⟨by show _ ≤ 698866; omega, by show _ ≤ 6999506; omega⟩) hS (fun H locs hS hkk => ?_)
  have hP := j_0 hP hkk
  refine lv_istore (lv' := [(5, .int (iI 1)), (4, .int (iI (ix : Int))), (0, .ref b), (1, .ref xa), (2, .ref ma), (3, .ref oa)]) hx hb dL_law_1327 hl (by decide) rfl (fun ls hl => ?_)
  refine lv_aload_n hx hb dL_law_1329 rfl (lv_at hl 4 rfl) ?_
  refine lv_aload_n hx hb dL_law_1330 rfl (lv_at hl 2 rfl) ?_
  refine lv_iload hx hb dL_law_1331 (lv_at hl 1 rfl) ?_
  refine lv_iconst (v := iI 1) hx hb dL_law_1333 rfl ?_
  refine z_iadd hx hb dL_law_1334 ?_
  refine z_sld hx hb hX hbl hS (ix + 1) (by omega) (by omega) hL e1 dL_law_1335 ?_
  refine zc_wi (va_runV (As := [.int (iI z)]) (rest := []) ⟨hx, hb, hml, hown, hts⟩ (e1_X1_borneFor l G ma mr _ B σ t z hI hzb hbad) (cwV 1 hts gL_law_X1_borneFor rfl rfl rfl (by decide +kernel) ⟨Nat.le_of_ble_eq_true rfl, Nat.le_of_ble_eq_true rfl⟩) (preWM hK (b_m hP) (d_m hD)) rfl rfl hl.1 rfl (lv_room (Nat.le_of_ble_eq_true rfl)) dL_law_1336 ⟨by show _ ≤ 698866; omega, by show _ ≤ 6999506; omega⟩) hS (a_m hD hS) (fun H locs hP1 hS _ hkk => ?_)
  have hP := j_m hP hD hP1 hkk
  have hD := d_mv hD σ σ 1 (v)
  refine lv_istore (lv' := [(6, .int (iI 0)), (5, .int (iI 1)), (4, .int (iI (ix : Int))), (0, .ref b), (1, .ref xa), (2, .ref ma), (3, .ref oa)]) hx hb dL_law_1339 hl (by decide) rfl (fun ls hl => ?_)
  refine lv_aload_n hx hb dL_law_1341 rfl (lv_at hl 5 rfl) ?_
  refine zc_wi (va_runV (As := []) (rest := []) ⟨hx, hb, hml, hown, hts⟩ (c_X1_thrown l G ma mr _ σ 1) (cwV 0 hts gL_law_X1_thrown rfl rfl rfl (by decide +kernel) ⟨Nat.le_of_ble_eq_true rfl, Nat.le_of_ble_eq_true rfl⟩) (preWM hK (b_m hP) (d_m hD)) rfl rfl hl.1 rfl (lv_room (Nat.le_of_ble_eq_true rfl)) dL_law_1342 ⟨by show _ ≤ 698866; omega, by show _ ≤ 6999506; omega⟩) hS (a_m hD hS) (fun H locs hP1 hS _ hkk => ?_)
  have hP := j_m hP hD hP1 hkk
  refine lv_iload hx hb dL_law_1345 (lv_at hl 1 rfl) ?_
  refine z_icmp_eq (tgt := 1352) hx hb dL_law_1347 (by decide) (by omega) (by omega) (fun _ => ?_) (fun h => absurd (by omega) h)
  refine lv_iload hx hb dL_law_1352 (lv_at hl 1 rfl) ?_
  refine z_if_ne (tgt := 1369) hx hb dL_law_1354 (by decide) (by decide) (fun _ => ?_) (fun h => absurd h (by decide))
  refine lv_goto (tgt := 2000) hx hb dL_law_1369 (by decide) ?_
  exact kk _ _ _ _ _ _ _ ⟨hP, hD, hS⟩ (by omega) (by omega) (lv_sub hl [2, 3, 4, 5, 6] rfl)
set_option maxHeartbeats 4000000 in
set_option maxRecDepth 100000 in
theorem k1_quietFor (C : lC pg l s m args c G b L xs) (hP : lP G s xa xr ma mr oa σ t v H locs) (hc : cells + 32 ≤ 698866) (hs : slots + 256 ≤ 6999506) (hl : lv_has ls 9 [(4, .int (iI (ix : Int))), (0, .ref b), (1, .ref xa), (2, .ref ma), (3, .ref oa)]) (hix : ix + 3 < L) (B : Nat) (z : Int) (e1 : xs (ix + 1) = iI z) (hI : zI B σ) (hzb : -2147483648 ≤ z ∧ z < 2147483648) (hbad : z < 0 ∨ (σ.1 1 : Int) ≤ z) (kk : lK pg l e s m args below meth c G b xa xr ma mr oa ix cells slots Q σ) : W pg l e room_1 s m args below meth c H locs cells slots Q (F0 m 1372 ls []) := by
  obtain ⟨hx, hb, hml, hown, hts, hfl, hK, hE0, hN, hX, hbl, hL⟩ := C
  obtain ⟨hP, hD, hS⟩ := hP
  have hP : va_P G.1 vwCl (V3 G xa xr ma mr oa σ σ t v) H := hP
  have hD : va_D (nA s.heap.size) (V3 G xa xr ma mr oa σ σ t v) := hD
  refine lv_aload_n hx hb dL_law_1372 rfl (lv_at hl 2 rfl) ?_
  refine lv_aload_n hx hb dL_law_1373 rfl (lv_at hl 1 rfl) ?_
  refine lv_iload hx hb dL_law_1374 (lv_at hl 0 rfl) ?_
  refine lv_iconst (v := iI 1) hx hb dL_law_1376 rfl ?_
  refine z_iadd hx hb dL_law_1377 ?_
  refine z_sld hx hb hX hbl hS (ix + 1) (by omega) (by omega) hL e1 dL_law_1378 ?_
  refine lv_aload_n hx hb dL_law_1379 rfl (lv_at hl 4 rfl) ?_
  refine zc_f (vx_runSW (As := [.ref xa, .int (iI z), .ref oa]) (rest := []) ⟨hx, hb, hml, hown, hts⟩ (f1_L_quietFor l hfl G xa xr oa _ B σ z hI hzb hbad) (vx_cwSW 3 hts gL_law_L_quietFor rfl rfl rfl (by decide +kernel) ⟨Nat.le_of_ble_eq_true rfl, Nat.le_of_ble_eq_true rfl⟩) (preWF hK (b_x hP) (j_E hE0 hS) hN) rfl rfl hl.1 rfl (lv_room (Nat.le_of_ble_eq_true rfl)) dL_law_1380 ⟨by show _ ≤ 698866; omega, by show _ ≤ 6999506; omega⟩) hS (fun H locs hS hkk => ?_)
  have hP := j_0 hP hkk
  refine lv_istore (lv' := [(5, .int (iI 1)), (4, .int (iI (ix : Int))), (0, .ref b), (1, .ref xa), (2, .ref ma), (3, .ref oa)]) hx hb dL_law_1383 hl (by decide) rfl (fun ls hl => ?_)
  refine lv_aload_n hx hb dL_law_1385 rfl (lv_at hl 4 rfl) ?_
  refine lv_aload_n hx hb dL_law_1386 rfl (lv_at hl 2 rfl) ?_
  refine lv_iload hx hb dL_law_1387 (lv_at hl 1 rfl) ?_
  refine lv_iconst (v := iI 1) hx hb dL_law_1389 rfl ?_
  refine z_iadd hx hb dL_law_1390 ?_
  refine z_sld hx hb hX hbl hS (ix + 1) (by omega) (by omega) hL e1 dL_law_1391 ?_
  refine zc_wi (va_runV (As := [.int (iI z)]) (rest := []) ⟨hx, hb, hml, hown, hts⟩ (e1_X1_quietFor l G ma mr _ B σ t z hI hzb hbad) (cwV 1 hts gL_law_X1_quietFor rfl rfl rfl (by decide +kernel) ⟨Nat.le_of_ble_eq_true rfl, Nat.le_of_ble_eq_true rfl⟩) (preWM hK (b_m hP) (d_m hD)) rfl rfl hl.1 rfl (lv_room (Nat.le_of_ble_eq_true rfl)) dL_law_1392 ⟨by show _ ≤ 698866; omega, by show _ ≤ 6999506; omega⟩) hS (a_m hD hS) (fun H locs hP1 hS _ hkk => ?_)
  have hP := j_m hP hD hP1 hkk
  have hD := d_mv hD σ σ 1 (v)
  refine lv_istore (lv' := [(6, .int (iI 0)), (5, .int (iI 1)), (4, .int (iI (ix : Int))), (0, .ref b), (1, .ref xa), (2, .ref ma), (3, .ref oa)]) hx hb dL_law_1395 hl (by decide) rfl (fun ls hl => ?_)
  refine lv_aload_n hx hb dL_law_1397 rfl (lv_at hl 5 rfl) ?_
  refine zc_wi (va_runV (As := []) (rest := []) ⟨hx, hb, hml, hown, hts⟩ (c_X1_thrown l G ma mr _ σ 1) (cwV 0 hts gL_law_X1_thrown rfl rfl rfl (by decide +kernel) ⟨Nat.le_of_ble_eq_true rfl, Nat.le_of_ble_eq_true rfl⟩) (preWM hK (b_m hP) (d_m hD)) rfl rfl hl.1 rfl (lv_room (Nat.le_of_ble_eq_true rfl)) dL_law_1398 ⟨by show _ ≤ 698866; omega, by show _ ≤ 6999506; omega⟩) hS (a_m hD hS) (fun H locs hP1 hS _ hkk => ?_)
  have hP := j_m hP hD hP1 hkk
  refine lv_iload hx hb dL_law_1401 (lv_at hl 1 rfl) ?_
  refine z_icmp_eq (tgt := 1408) hx hb dL_law_1403 (by decide) (by omega) (by omega) (fun _ => ?_) (fun h => absurd (by omega) h)
  refine lv_iload hx hb dL_law_1408 (lv_at hl 1 rfl) ?_
  refine z_if_ne (tgt := 1425) hx hb dL_law_1410 (by decide) (by decide) (fun _ => ?_) (fun h => absurd h (by decide))
  refine lv_goto (tgt := 2000) hx hb dL_law_1425 (by decide) ?_
  exact kk _ _ _ _ _ _ _ ⟨hP, hD, hS⟩ (by omega) (by omega) (lv_sub hl [2, 3, 4, 5, 6] rfl)
set_option maxHeartbeats 4000000 in
set_option maxRecDepth 100000 in
theorem k1_witnessesFor (C : lC pg l s m args c G b L xs) (hP : lP G s xa xr ma mr oa σ t v H locs) (hc : cells + 32 ≤ 698866) (hs : slots + 256 ≤ 6999506) (hl : lv_has ls 9 [(4, .int (iI (ix : Int))), (0, .ref b), (1, .ref xa), (2, .ref ma), (3, .ref oa)]) (hix : ix + 3 < L) (B : Nat) (z : Int) (e1 : xs (ix + 1) = iI z) (hI : zI B σ) (hzb : -2147483648 ≤ z ∧ z < 2147483648) (hbad : z < 0 ∨ (σ.1 1 : Int) ≤ z) (kk : lK pg l e s m args below meth c G b xa xr ma mr oa ix cells slots Q σ) : W pg l e room_1 s m args below meth c H locs cells slots Q (F0 m 1428 ls []) := by
  obtain ⟨hx, hb, hml, hown, hts, hfl, hK, hE0, hN, hX, hbl, hL⟩ := C
  obtain ⟨hP, hD, hS⟩ := hP
  have hP : va_P G.1 vwCl (V3 G xa xr ma mr oa σ σ t v) H := hP
  have hD : va_D (nA s.heap.size) (V3 G xa xr ma mr oa σ σ t v) := hD
  refine lv_aload_n hx hb dL_law_1428 rfl (lv_at hl 2 rfl) ?_
  refine lv_aload_n hx hb dL_law_1429 rfl (lv_at hl 1 rfl) ?_
  refine lv_iload hx hb dL_law_1430 (lv_at hl 0 rfl) ?_
  refine lv_iconst (v := iI 1) hx hb dL_law_1432 rfl ?_
  refine z_iadd hx hb dL_law_1433 ?_
  refine z_sld hx hb hX hbl hS (ix + 1) (by omega) (by omega) hL e1 dL_law_1434 ?_
  refine lv_aload_n hx hb dL_law_1435 rfl (lv_at hl 4 rfl) ?_
  refine zc_f (vx_runSW (As := [.ref xa, .int (iI z), .ref oa]) (rest := []) ⟨hx, hb, hml, hown, hts⟩ (f1_L_witnessesFor l hfl G xa xr oa _ B σ z hI hzb hbad) (vx_cwSW 3 hts gL_law_L_witnessesFor rfl rfl rfl (by decide +kernel) ⟨Nat.le_of_ble_eq_true rfl, Nat.le_of_ble_eq_true rfl⟩) (preWF hK (b_x hP) (j_E hE0 hS) hN) rfl rfl hl.1 rfl (lv_room (Nat.le_of_ble_eq_true rfl)) dL_law_1436 ⟨by show _ ≤ 698866; omega, by show _ ≤ 6999506; omega⟩) hS (fun H locs hS hkk => ?_)
  have hP := j_0 hP hkk
  refine lv_istore (lv' := [(5, .int (iI 1)), (4, .int (iI (ix : Int))), (0, .ref b), (1, .ref xa), (2, .ref ma), (3, .ref oa)]) hx hb dL_law_1439 hl (by decide) rfl (fun ls hl => ?_)
  refine lv_aload_n hx hb dL_law_1441 rfl (lv_at hl 4 rfl) ?_
  refine lv_aload_n hx hb dL_law_1442 rfl (lv_at hl 2 rfl) ?_
  refine lv_iload hx hb dL_law_1443 (lv_at hl 1 rfl) ?_
  refine lv_iconst (v := iI 1) hx hb dL_law_1445 rfl ?_
  refine z_iadd hx hb dL_law_1446 ?_
  refine z_sld hx hb hX hbl hS (ix + 1) (by omega) (by omega) hL e1 dL_law_1447 ?_
  refine zc_wi (va_runV (As := [.int (iI z)]) (rest := []) ⟨hx, hb, hml, hown, hts⟩ (e1_X1_witnessesFor l G ma mr _ B σ t z hI hzb hbad) (cwV 1 hts gL_law_X1_witnessesFor rfl rfl rfl (by decide +kernel) ⟨Nat.le_of_ble_eq_true rfl, Nat.le_of_ble_eq_true rfl⟩) (preWM hK (b_m hP) (d_m hD)) rfl rfl hl.1 rfl (lv_room (Nat.le_of_ble_eq_true rfl)) dL_law_1448 ⟨by show _ ≤ 698866; omega, by show _ ≤ 6999506; omega⟩) hS (a_m hD hS) (fun H locs hP1 hS _ hkk => ?_)
  have hP := j_m hP hD hP1 hkk
  have hD := d_mv hD σ σ 1 (v)
  refine lv_istore (lv' := [(6, .int (iI 0)), (5, .int (iI 1)), (4, .int (iI (ix : Int))), (0, .ref b), (1, .ref xa), (2, .ref ma), (3, .ref oa)]) hx hb dL_law_1451 hl (by decide) rfl (fun ls hl => ?_)
  refine lv_aload_n hx hb dL_law_1453 rfl (lv_at hl 5 rfl) ?_
  refine zc_wi (va_runV (As := []) (rest := []) ⟨hx, hb, hml, hown, hts⟩ (c_X1_thrown l G ma mr _ σ 1) (cwV 0 hts gL_law_X1_thrown rfl rfl rfl (by decide +kernel) ⟨Nat.le_of_ble_eq_true rfl, Nat.le_of_ble_eq_true rfl⟩) (preWM hK (b_m hP) (d_m hD)) rfl rfl hl.1 rfl (lv_room (Nat.le_of_ble_eq_true rfl)) dL_law_1454 ⟨by show _ ≤ 698866; omega, by show _ ≤ 6999506; omega⟩) hS (a_m hD hS) (fun H locs hP1 hS _ hkk => ?_)
  have hP := j_m hP hD hP1 hkk
  refine lv_iload hx hb dL_law_1457 (lv_at hl 1 rfl) ?_
  refine z_icmp_eq (tgt := 1464) hx hb dL_law_1459 (by decide) (by omega) (by omega) (fun _ => ?_) (fun h => absurd (by omega) h)
  refine lv_iload hx hb dL_law_1464 (lv_at hl 1 rfl) ?_
  refine z_if_ne (tgt := 1481) hx hb dL_law_1466 (by decide) (by decide) (fun _ => ?_) (fun h => absurd h (by decide))
  refine lv_goto (tgt := 2000) hx hb dL_law_1481 (by decide) ?_
  exact kk _ _ _ _ _ _ _ ⟨hP, hD, hS⟩ (by omega) (by omega) (lv_sub hl [2, 3, 4, 5, 6] rfl)
set_option maxHeartbeats 4000000 in
set_option maxRecDepth 100000 in
theorem k1_inState (C : lC pg l s m args c G b L xs) (hP : lP G s xa xr ma mr oa σ t v H locs) (hc : cells + 32 ≤ 698866) (hs : slots + 256 ≤ 6999506) (hl : lv_has ls 9 [(4, .int (iI (ix : Int))), (0, .ref b), (1, .ref xa), (2, .ref ma), (3, .ref oa)]) (hix : ix + 3 < L) (B : Nat) (z : Int) (e1 : xs (ix + 1) = iI z) (hI : zI B σ) (hzb : -2147483648 ≤ z ∧ z < 2147483648) (hbad : z < 0 ∨ 3 < z) (kk : lK pg l e s m args below meth c G b xa xr ma mr oa ix cells slots Q σ) : W pg l e room_1 s m args below meth c H locs cells slots Q (F0 m 1484 ls []) := by
  obtain ⟨hx, hb, hml, hown, hts, hfl, hK, hE0, hN, hX, hbl, hL⟩ := C
  obtain ⟨hP, hD, hS⟩ := hP
  have hP : va_P G.1 vwCl (V3 G xa xr ma mr oa σ σ t v) H := hP
  have hD : va_D (nA s.heap.size) (V3 G xa xr ma mr oa σ σ t v) := hD
  refine lv_aload_n hx hb dL_law_1484 rfl (lv_at hl 2 rfl) ?_
  refine lv_aload_n hx hb dL_law_1485 rfl (lv_at hl 1 rfl) ?_
  refine lv_iload hx hb dL_law_1486 (lv_at hl 0 rfl) ?_
  refine lv_iconst (v := iI 1) hx hb dL_law_1488 rfl ?_
  refine z_iadd hx hb dL_law_1489 ?_
  refine z_sld hx hb hX hbl hS (ix + 1) (by omega) (by omega) hL e1 dL_law_1490 ?_
  refine lv_aload_n hx hb dL_law_1491 rfl (lv_at hl 4 rfl) ?_
  refine zc_f (vx_runSW (As := [.ref xa, .int (iI z), .ref oa]) (rest := []) ⟨hx, hb, hml, hown, hts⟩ (f1_L_inState l hfl G xa xr oa _ B σ z hI hzb hbad) (vx_cwSW 3 hts gL_law_L_inState rfl rfl rfl (by decide +kernel) ⟨Nat.le_of_ble_eq_true rfl, Nat.le_of_ble_eq_true rfl⟩) (preWF hK (b_x hP) (j_E hE0 hS) hN) rfl rfl hl.1 rfl (lv_room (Nat.le_of_ble_eq_true rfl)) dL_law_1492 ⟨by show _ ≤ 698866; omega, by show _ ≤ 6999506; omega⟩) hS (fun H locs hS hkk => ?_)
  have hP := j_0 hP hkk
  refine lv_istore (lv' := [(5, .int (iI 1)), (4, .int (iI (ix : Int))), (0, .ref b), (1, .ref xa), (2, .ref ma), (3, .ref oa)]) hx hb dL_law_1495 hl (by decide) rfl (fun ls hl => ?_)
  refine lv_aload_n hx hb dL_law_1497 rfl (lv_at hl 4 rfl) ?_
  refine lv_aload_n hx hb dL_law_1498 rfl (lv_at hl 2 rfl) ?_
  refine lv_iload hx hb dL_law_1499 (lv_at hl 1 rfl) ?_
  refine lv_iconst (v := iI 1) hx hb dL_law_1501 rfl ?_
  refine z_iadd hx hb dL_law_1502 ?_
  refine z_sld hx hb hX hbl hS (ix + 1) (by omega) (by omega) hL e1 dL_law_1503 ?_
  refine zc_wi (va_runV (As := [.int (iI z)]) (rest := []) ⟨hx, hb, hml, hown, hts⟩ (e1_X1_inState l G ma mr _ B σ t z hI hzb hbad) (cwV 1 hts gL_law_X1_inState rfl rfl rfl (by decide +kernel) ⟨Nat.le_of_ble_eq_true rfl, Nat.le_of_ble_eq_true rfl⟩) (preWM hK (b_m hP) (d_m hD)) rfl rfl hl.1 rfl (lv_room (Nat.le_of_ble_eq_true rfl)) dL_law_1504 ⟨by show _ ≤ 698866; omega, by show _ ≤ 6999506; omega⟩) hS (a_m hD hS) (fun H locs hP1 hS _ hkk => ?_)
  have hP := j_m hP hD hP1 hkk
  have hD := d_mv hD σ σ 1 (v)
  refine lv_istore (lv' := [(6, .int (iI 0)), (5, .int (iI 1)), (4, .int (iI (ix : Int))), (0, .ref b), (1, .ref xa), (2, .ref ma), (3, .ref oa)]) hx hb dL_law_1507 hl (by decide) rfl (fun ls hl => ?_)
  refine lv_aload_n hx hb dL_law_1509 rfl (lv_at hl 5 rfl) ?_
  refine zc_wi (va_runV (As := []) (rest := []) ⟨hx, hb, hml, hown, hts⟩ (c_X1_thrown l G ma mr _ σ 1) (cwV 0 hts gL_law_X1_thrown rfl rfl rfl (by decide +kernel) ⟨Nat.le_of_ble_eq_true rfl, Nat.le_of_ble_eq_true rfl⟩) (preWM hK (b_m hP) (d_m hD)) rfl rfl hl.1 rfl (lv_room (Nat.le_of_ble_eq_true rfl)) dL_law_1510 ⟨by show _ ≤ 698866; omega, by show _ ≤ 6999506; omega⟩) hS (a_m hD hS) (fun H locs hP1 hS _ hkk => ?_)
  have hP := j_m hP hD hP1 hkk
  refine lv_iload hx hb dL_law_1513 (lv_at hl 1 rfl) ?_
  refine z_icmp_eq (tgt := 1520) hx hb dL_law_1515 (by decide) (by omega) (by omega) (fun _ => ?_) (fun h => absurd (by omega) h)
  refine lv_iload hx hb dL_law_1520 (lv_at hl 1 rfl) ?_
  refine z_if_ne (tgt := 1537) hx hb dL_law_1522 (by decide) (by decide) (fun _ => ?_) (fun h => absurd h (by decide))
  refine lv_goto (tgt := 2000) hx hb dL_law_1537 (by decide) ?_
  exact kk _ _ _ _ _ _ _ ⟨hP, hD, hS⟩ (by omega) (by omega) (lv_sub hl [2, 3, 4, 5, 6] rfl)
set_option maxHeartbeats 4000000 in
set_option maxRecDepth 100000 in
theorem k1_wordsWanted (C : lC pg l s m args c G b L xs) (hP : lP G s xa xr ma mr oa σ t v H locs) (hc : cells + 32 ≤ 698866) (hs : slots + 256 ≤ 6999506) (hl : lv_has ls 9 [(4, .int (iI (ix : Int))), (0, .ref b), (1, .ref xa), (2, .ref ma), (3, .ref oa)]) (hix : ix + 3 < L) (B : Nat) (z : Int) (e1 : xs (ix + 1) = iI z) (hI : zI B σ) (hzb : -2147483648 ≤ z ∧ z < 2147483648) (hbad : z < 0 ∨ (σ.1 1 : Int) ≤ z) (kk : lK pg l e s m args below meth c G b xa xr ma mr oa ix cells slots Q σ) : W pg l e room_1 s m args below meth c H locs cells slots Q (F0 m 1566 ls []) := by
  obtain ⟨hx, hb, hml, hown, hts, hfl, hK, hE0, hN, hX, hbl, hL⟩ := C
  obtain ⟨hP, hD, hS⟩ := hP
  have hP : va_P G.1 vwCl (V3 G xa xr ma mr oa σ σ t v) H := hP
  have hD : va_D (nA s.heap.size) (V3 G xa xr ma mr oa σ σ t v) := hD
  refine lv_aload_n hx hb dL_law_1566 rfl (lv_at hl 2 rfl) ?_
  refine lv_aload_n hx hb dL_law_1567 rfl (lv_at hl 1 rfl) ?_
  refine lv_iload hx hb dL_law_1568 (lv_at hl 0 rfl) ?_
  refine lv_iconst (v := iI 1) hx hb dL_law_1570 rfl ?_
  refine z_iadd hx hb dL_law_1571 ?_
  refine z_sld hx hb hX hbl hS (ix + 1) (by omega) (by omega) hL e1 dL_law_1572 ?_
  refine lv_aload_n hx hb dL_law_1573 rfl (lv_at hl 4 rfl) ?_
  refine zc_f (vx_runSW (As := [.ref xa, .int (iI z), .ref oa]) (rest := []) ⟨hx, hb, hml, hown, hts⟩ (f1_L_wordsWanted l hfl G xa xr oa _ B σ z hI hzb hbad) (vx_cwSW 3 hts gL_law_L_wordsWanted rfl rfl rfl (by decide +kernel) ⟨Nat.le_of_ble_eq_true rfl, Nat.le_of_ble_eq_true rfl⟩) (preWF hK (b_x hP) (j_E hE0 hS) hN) rfl rfl hl.1 rfl (lv_room (Nat.le_of_ble_eq_true rfl)) dL_law_1574 ⟨by show _ ≤ 698866; omega, by show _ ≤ 6999506; omega⟩) hS (fun H locs hS hkk => ?_)
  have hP := j_0 hP hkk
  refine lv_istore (lv' := [(5, .int (iI 1)), (4, .int (iI (ix : Int))), (0, .ref b), (1, .ref xa), (2, .ref ma), (3, .ref oa)]) hx hb dL_law_1577 hl (by decide) rfl (fun ls hl => ?_)
  refine lv_aload_n hx hb dL_law_1579 rfl (lv_at hl 4 rfl) ?_
  refine lv_aload_n hx hb dL_law_1580 rfl (lv_at hl 2 rfl) ?_
  refine lv_iload hx hb dL_law_1581 (lv_at hl 1 rfl) ?_
  refine lv_iconst (v := iI 1) hx hb dL_law_1583 rfl ?_
  refine z_iadd hx hb dL_law_1584 ?_
  refine z_sld hx hb hX hbl hS (ix + 1) (by omega) (by omega) hL e1 dL_law_1585 ?_
  refine zc_wi (va_runV (As := [.int (iI z)]) (rest := []) ⟨hx, hb, hml, hown, hts⟩ (e1_X1_wordsWanted l G ma mr _ B σ t z hI hzb hbad) (cwV 1 hts gL_law_X1_wordsWanted rfl rfl rfl (by decide +kernel) ⟨Nat.le_of_ble_eq_true rfl, Nat.le_of_ble_eq_true rfl⟩) (preWM hK (b_m hP) (d_m hD)) rfl rfl hl.1 rfl (lv_room (Nat.le_of_ble_eq_true rfl)) dL_law_1586 ⟨by show _ ≤ 698866; omega, by show _ ≤ 6999506; omega⟩) hS (a_m hD hS) (fun H locs hP1 hS _ hkk => ?_)
  have hP := j_m hP hD hP1 hkk
  have hD := d_mv hD σ σ 1 (v)
  refine lv_istore (lv' := [(6, .int (iI 0)), (5, .int (iI 1)), (4, .int (iI (ix : Int))), (0, .ref b), (1, .ref xa), (2, .ref ma), (3, .ref oa)]) hx hb dL_law_1589 hl (by decide) rfl (fun ls hl => ?_)
  refine lv_aload_n hx hb dL_law_1591 rfl (lv_at hl 5 rfl) ?_
  refine zc_wi (va_runV (As := []) (rest := []) ⟨hx, hb, hml, hown, hts⟩ (c_X1_thrown l G ma mr _ σ 1) (cwV 0 hts gL_law_X1_thrown rfl rfl rfl (by decide +kernel) ⟨Nat.le_of_ble_eq_true rfl, Nat.le_of_ble_eq_true rfl⟩) (preWM hK (b_m hP) (d_m hD)) rfl rfl hl.1 rfl (lv_room (Nat.le_of_ble_eq_true rfl)) dL_law_1592 ⟨by show _ ≤ 698866; omega, by show _ ≤ 6999506; omega⟩) hS (a_m hD hS) (fun H locs hP1 hS _ hkk => ?_)
  have hP := j_m hP hD hP1 hkk
  refine lv_iload hx hb dL_law_1595 (lv_at hl 1 rfl) ?_
  refine z_icmp_eq (tgt := 1602) hx hb dL_law_1597 (by decide) (by omega) (by omega) (fun _ => ?_) (fun h => absurd (by omega) h)
  refine lv_iload hx hb dL_law_1602 (lv_at hl 1 rfl) ?_
  refine z_if_ne (tgt := 1619) hx hb dL_law_1604 (by decide) (by decide) (fun _ => ?_) (fun h => absurd h (by decide))
  refine lv_goto (tgt := 2000) hx hb dL_law_1619 (by decide) ?_
  exact kk _ _ _ _ _ _ _ ⟨hP, hD, hS⟩ (by omega) (by omega) (lv_sub hl [2, 3, 4, 5, 6] rfl)
set_option maxHeartbeats 4000000 in
set_option maxRecDepth 100000 in
theorem k1_wouldBeScorned (C : lC pg l s m args c G b L xs) (hP : lP G s xa xr ma mr oa σ t v H locs) (hc : cells + 32 ≤ 698866) (hs : slots + 256 ≤ 6999506) (hl : lv_has ls 9 [(4, .int (iI (ix : Int))), (0, .ref b), (1, .ref xa), (2, .ref ma), (3, .ref oa)]) (hix : ix + 3 < L) (B : Nat) (z : Int) (w : Int) (e1 : xs (ix + 1) = iI z) (e2 : xs (ix + 2) = iI w) (hI : zI B σ) (hzb : -2147483648 ≤ z ∧ z < 2147483648) (hbad : z < 0 ∨ (σ.1 1 : Int) ≤ z) (kk : lK pg l e s m args below meth c G b xa xr ma mr oa ix cells slots Q σ) : W pg l e room_1 s m args below meth c H locs cells slots Q (F0 m 1622 ls []) := by
  obtain ⟨hx, hb, hml, hown, hts, hfl, hK, hE0, hN, hX, hbl, hL⟩ := C
  obtain ⟨hP, hD, hS⟩ := hP
  have hP : va_P G.1 vwCl (V3 G xa xr ma mr oa σ σ t v) H := hP
  have hD : va_D (nA s.heap.size) (V3 G xa xr ma mr oa σ σ t v) := hD
  refine lv_aload_n hx hb dL_law_1622 rfl (lv_at hl 2 rfl) ?_
  refine lv_aload_n hx hb dL_law_1623 rfl (lv_at hl 1 rfl) ?_
  refine lv_iload hx hb dL_law_1624 (lv_at hl 0 rfl) ?_
  refine lv_iconst (v := iI 1) hx hb dL_law_1626 rfl ?_
  refine z_iadd hx hb dL_law_1627 ?_
  refine z_sld hx hb hX hbl hS (ix + 1) (by omega) (by omega) hL e1 dL_law_1628 ?_
  refine lv_aload_n hx hb dL_law_1629 rfl (lv_at hl 1 rfl) ?_
  refine lv_iload hx hb dL_law_1630 (lv_at hl 0 rfl) ?_
  refine lv_iconst (v := iI 2) hx hb dL_law_1632 rfl ?_
  refine z_iadd hx hb dL_law_1633 ?_
  refine z_sld hx hb hX hbl hS (ix + 2) (by omega) (by omega) hL e2 dL_law_1634 ?_
  refine lv_aload_n hx hb dL_law_1635 rfl (lv_at hl 4 rfl) ?_
  refine zc_f (vx_runSW (As := [.ref xa, .int (iI z), .int (iI w), .ref oa]) (rest := []) ⟨hx, hb, hml, hown, hts⟩ (f1_L_wouldBeScorned l hfl G xa xr oa _ B σ z w hI hzb hbad) (vx_cwSW 4 hts gL_law_L_wouldBeScorned rfl rfl rfl (by decide +kernel) ⟨Nat.le_of_ble_eq_true rfl, Nat.le_of_ble_eq_true rfl⟩) (preWF hK (b_x hP) (j_E hE0 hS) hN) rfl rfl hl.1 rfl (lv_room (Nat.le_of_ble_eq_true rfl)) dL_law_1636 ⟨by show _ ≤ 698866; omega, by show _ ≤ 6999506; omega⟩) hS (fun H locs hS hkk => ?_)
  have hP := j_0 hP hkk
  refine lv_istore (lv' := [(5, .int (iI 1)), (4, .int (iI (ix : Int))), (0, .ref b), (1, .ref xa), (2, .ref ma), (3, .ref oa)]) hx hb dL_law_1639 hl (by decide) rfl (fun ls hl => ?_)
  refine lv_aload_n hx hb dL_law_1641 rfl (lv_at hl 4 rfl) ?_
  refine lv_aload_n hx hb dL_law_1642 rfl (lv_at hl 2 rfl) ?_
  refine lv_iload hx hb dL_law_1643 (lv_at hl 1 rfl) ?_
  refine lv_iconst (v := iI 1) hx hb dL_law_1645 rfl ?_
  refine z_iadd hx hb dL_law_1646 ?_
  refine z_sld hx hb hX hbl hS (ix + 1) (by omega) (by omega) hL e1 dL_law_1647 ?_
  refine lv_aload_n hx hb dL_law_1648 rfl (lv_at hl 2 rfl) ?_
  refine lv_iload hx hb dL_law_1649 (lv_at hl 1 rfl) ?_
  refine lv_iconst (v := iI 2) hx hb dL_law_1651 rfl ?_
  refine z_iadd hx hb dL_law_1652 ?_
  refine z_sld hx hb hX hbl hS (ix + 2) (by omega) (by omega) hL e2 dL_law_1653 ?_
  refine zc_wi (va_runV (As := [.int (iI z), .int (iI w)]) (rest := []) ⟨hx, hb, hml, hown, hts⟩ (e1_X1_wouldBeScorned l G ma mr _ B σ t z w hI hzb hbad) (cwV 2 hts gL_law_X1_wouldBeScorned rfl rfl rfl (by decide +kernel) ⟨Nat.le_of_ble_eq_true rfl, Nat.le_of_ble_eq_true rfl⟩) (preWM hK (b_m hP) (d_m hD)) rfl rfl hl.1 rfl (lv_room (Nat.le_of_ble_eq_true rfl)) dL_law_1654 ⟨by show _ ≤ 698866; omega, by show _ ≤ 6999506; omega⟩) hS (a_m hD hS) (fun H locs hP1 hS _ hkk => ?_)
  have hP := j_m hP hD hP1 hkk
  have hD := d_mv hD σ σ 1 (v)
  refine lv_istore (lv' := [(6, .int (iI 0)), (5, .int (iI 1)), (4, .int (iI (ix : Int))), (0, .ref b), (1, .ref xa), (2, .ref ma), (3, .ref oa)]) hx hb dL_law_1657 hl (by decide) rfl (fun ls hl => ?_)
  refine lv_aload_n hx hb dL_law_1659 rfl (lv_at hl 5 rfl) ?_
  refine zc_wi (va_runV (As := []) (rest := []) ⟨hx, hb, hml, hown, hts⟩ (c_X1_thrown l G ma mr _ σ 1) (cwV 0 hts gL_law_X1_thrown rfl rfl rfl (by decide +kernel) ⟨Nat.le_of_ble_eq_true rfl, Nat.le_of_ble_eq_true rfl⟩) (preWM hK (b_m hP) (d_m hD)) rfl rfl hl.1 rfl (lv_room (Nat.le_of_ble_eq_true rfl)) dL_law_1660 ⟨by show _ ≤ 698866; omega, by show _ ≤ 6999506; omega⟩) hS (a_m hD hS) (fun H locs hP1 hS _ hkk => ?_)
  have hP := j_m hP hD hP1 hkk
  refine lv_iload hx hb dL_law_1663 (lv_at hl 1 rfl) ?_
  refine z_icmp_eq (tgt := 1670) hx hb dL_law_1665 (by decide) (by omega) (by omega) (fun _ => ?_) (fun h => absurd (by omega) h)
  refine lv_iload hx hb dL_law_1670 (lv_at hl 1 rfl) ?_
  refine z_if_ne (tgt := 1694) hx hb dL_law_1672 (by decide) (by decide) (fun _ => ?_) (fun h => absurd h (by decide))
  refine lv_goto (tgt := 2000) hx hb dL_law_1694 (by decide) ?_
  exact kk _ _ _ _ _ _ _ ⟨hP, hD, hS⟩ (by omega) (by omega) (lv_sub hl [2, 3, 4, 5, 6] rfl)
set_option maxHeartbeats 4000000 in
set_option maxRecDepth 100000 in
theorem k2_wouldBeScorned (C : lC pg l s m args c G b L xs) (hP : lP G s xa xr ma mr oa σ t v H locs) (hc : cells + 32 ≤ 698866) (hs : slots + 256 ≤ 6999506) (hl : lv_has ls 9 [(4, .int (iI (ix : Int))), (0, .ref b), (1, .ref xa), (2, .ref ma), (3, .ref oa)]) (hix : ix + 3 < L) (B : Nat) (k : Nat) (z : Int) (e1 : xs (ix + 1) = iI (k : Int)) (e2 : xs (ix + 2) = iI z) (hI : zI B σ) (hk : k < σ.1 1) (hzb : -2147483648 ≤ z ∧ z < 2147483648) (hbad : z < 1 ∨ 20 < z) (kk : lK pg l e s m args below meth c G b xa xr ma mr oa ix cells slots Q σ) : W pg l e room_1 s m args below meth c H locs cells slots Q (F0 m 1622 ls []) := by
  obtain ⟨hx, hb, hml, hown, hts, hfl, hK, hE0, hN, hX, hbl, hL⟩ := C
  obtain ⟨hP, hD, hS⟩ := hP
  have hP : va_P G.1 vwCl (V3 G xa xr ma mr oa σ σ t v) H := hP
  have hD : va_D (nA s.heap.size) (V3 G xa xr ma mr oa σ σ t v) := hD
  refine lv_aload_n hx hb dL_law_1622 rfl (lv_at hl 2 rfl) ?_
  refine lv_aload_n hx hb dL_law_1623 rfl (lv_at hl 1 rfl) ?_
  refine lv_iload hx hb dL_law_1624 (lv_at hl 0 rfl) ?_
  refine lv_iconst (v := iI 1) hx hb dL_law_1626 rfl ?_
  refine z_iadd hx hb dL_law_1627 ?_
  refine z_sld hx hb hX hbl hS (ix + 1) (by omega) (by omega) hL e1 dL_law_1628 ?_
  refine lv_aload_n hx hb dL_law_1629 rfl (lv_at hl 1 rfl) ?_
  refine lv_iload hx hb dL_law_1630 (lv_at hl 0 rfl) ?_
  refine lv_iconst (v := iI 2) hx hb dL_law_1632 rfl ?_
  refine z_iadd hx hb dL_law_1633 ?_
  refine z_sld hx hb hX hbl hS (ix + 2) (by omega) (by omega) hL e2 dL_law_1634 ?_
  refine lv_aload_n hx hb dL_law_1635 rfl (lv_at hl 4 rfl) ?_
  refine zc_f (vx_runSW (As := [.ref xa, .int (iI (k : Int)), .int (iI z), .ref oa]) (rest := []) ⟨hx, hb, hml, hown, hts⟩ (f2_L_wouldBeScorned l hfl G xa xr oa _ B σ k z hI hk hzb hbad) (vx_cwSW 4 hts gL_law_L_wouldBeScorned rfl rfl rfl (by decide +kernel) ⟨Nat.le_of_ble_eq_true rfl, Nat.le_of_ble_eq_true rfl⟩) (preWF hK (b_x hP) (j_E hE0 hS) hN) rfl rfl hl.1 rfl (lv_room (Nat.le_of_ble_eq_true rfl)) dL_law_1636 ⟨by show _ ≤ 698866; omega, by show _ ≤ 6999506; omega⟩) hS (fun H locs hS hkk => ?_)
  have hP := j_0 hP hkk
  refine lv_istore (lv' := [(5, .int (iI 2)), (4, .int (iI (ix : Int))), (0, .ref b), (1, .ref xa), (2, .ref ma), (3, .ref oa)]) hx hb dL_law_1639 hl (by decide) rfl (fun ls hl => ?_)
  refine lv_aload_n hx hb dL_law_1641 rfl (lv_at hl 4 rfl) ?_
  refine lv_aload_n hx hb dL_law_1642 rfl (lv_at hl 2 rfl) ?_
  refine lv_iload hx hb dL_law_1643 (lv_at hl 1 rfl) ?_
  refine lv_iconst (v := iI 1) hx hb dL_law_1645 rfl ?_
  refine z_iadd hx hb dL_law_1646 ?_
  refine z_sld hx hb hX hbl hS (ix + 1) (by omega) (by omega) hL e1 dL_law_1647 ?_
  refine lv_aload_n hx hb dL_law_1648 rfl (lv_at hl 2 rfl) ?_
  refine lv_iload hx hb dL_law_1649 (lv_at hl 1 rfl) ?_
  refine lv_iconst (v := iI 2) hx hb dL_law_1651 rfl ?_
  refine z_iadd hx hb dL_law_1652 ?_
  refine z_sld hx hb hX hbl hS (ix + 2) (by omega) (by omega) hL e2 dL_law_1653 ?_
  refine zc_wi (va_runV (As := [.int (iI (k : Int)), .int (iI z)]) (rest := []) ⟨hx, hb, hml, hown, hts⟩ (e2_X1_wouldBeScorned l G ma mr _ B σ t k z hI hk hzb hbad) (cwV 2 hts gL_law_X1_wouldBeScorned rfl rfl rfl (by decide +kernel) ⟨Nat.le_of_ble_eq_true rfl, Nat.le_of_ble_eq_true rfl⟩) (preWM hK (b_m hP) (d_m hD)) rfl rfl hl.1 rfl (lv_room (Nat.le_of_ble_eq_true rfl)) dL_law_1654 ⟨by show _ ≤ 698866; omega, by show _ ≤ 6999506; omega⟩) hS (a_m hD hS) (fun H locs hP1 hS _ hkk => ?_)
  have hP := j_m hP hD hP1 hkk
  have hD := d_mv hD σ σ 2 (v)
  refine lv_istore (lv' := [(6, .int (iI 0)), (5, .int (iI 2)), (4, .int (iI (ix : Int))), (0, .ref b), (1, .ref xa), (2, .ref ma), (3, .ref oa)]) hx hb dL_law_1657 hl (by decide) rfl (fun ls hl => ?_)
  refine lv_aload_n hx hb dL_law_1659 rfl (lv_at hl 5 rfl) ?_
  refine zc_wi (va_runV (As := []) (rest := []) ⟨hx, hb, hml, hown, hts⟩ (c_X1_thrown l G ma mr _ σ 2) (cwV 0 hts gL_law_X1_thrown rfl rfl rfl (by decide +kernel) ⟨Nat.le_of_ble_eq_true rfl, Nat.le_of_ble_eq_true rfl⟩) (preWM hK (b_m hP) (d_m hD)) rfl rfl hl.1 rfl (lv_room (Nat.le_of_ble_eq_true rfl)) dL_law_1660 ⟨by show _ ≤ 698866; omega, by show _ ≤ 6999506; omega⟩) hS (a_m hD hS) (fun H locs hP1 hS _ hkk => ?_)
  have hP := j_m hP hD hP1 hkk
  refine lv_iload hx hb dL_law_1663 (lv_at hl 1 rfl) ?_
  refine z_icmp_eq (tgt := 1670) hx hb dL_law_1665 (by decide) (by omega) (by omega) (fun _ => ?_) (fun h => absurd (by omega) h)
  refine lv_iload hx hb dL_law_1670 (lv_at hl 1 rfl) ?_
  refine z_if_ne (tgt := 1694) hx hb dL_law_1672 (by decide) (by decide) (fun _ => ?_) (fun h => absurd h (by decide))
  refine lv_goto (tgt := 2000) hx hb dL_law_1694 (by decide) ?_
  exact kk _ _ _ _ _ _ _ ⟨hP, hD, hS⟩ (by omega) (by omega) (lv_sub hl [2, 3, 4, 5, 6] rfl)
set_option maxHeartbeats 4000000 in
set_option maxRecDepth 100000 in
theorem k1_weightIn (C : lC pg l s m args c G b L xs) (hP : lP G s xa xr ma mr oa σ t v H locs) (hc : cells + 32 ≤ 698866) (hs : slots + 256 ≤ 6999506) (hl : lv_has ls 9 [(4, .int (iI (ix : Int))), (0, .ref b), (1, .ref xa), (2, .ref ma), (3, .ref oa)]) (hix : ix + 3 < L) (B : Nat) (z : Int) (w : Int) (e1 : xs (ix + 1) = iI z) (e2 : xs (ix + 2) = iI w) (hI : zI B σ) (hzb : -2147483648 ≤ z ∧ z < 2147483648) (hbad : z < 0 ∨ (σ.1 1 : Int) ≤ z) (kk : lK pg l e s m args below meth c G b xa xr ma mr oa ix cells slots Q σ) : W pg l e room_1 s m args below meth c H locs cells slots Q (F0 m 1697 ls []) := by
  obtain ⟨hx, hb, hml, hown, hts, hfl, hK, hE0, hN, hX, hbl, hL⟩ := C
  obtain ⟨hP, hD, hS⟩ := hP
  have hP : va_P G.1 vwCl (V3 G xa xr ma mr oa σ σ t v) H := hP
  have hD : va_D (nA s.heap.size) (V3 G xa xr ma mr oa σ σ t v) := hD
  refine lv_aload_n hx hb dL_law_1697 rfl (lv_at hl 2 rfl) ?_
  refine lv_aload_n hx hb dL_law_1698 rfl (lv_at hl 1 rfl) ?_
  refine lv_iload hx hb dL_law_1699 (lv_at hl 0 rfl) ?_
  refine lv_iconst (v := iI 1) hx hb dL_law_1701 rfl ?_
  refine z_iadd hx hb dL_law_1702 ?_
  refine z_sld hx hb hX hbl hS (ix + 1) (by omega) (by omega) hL e1 dL_law_1703 ?_
  refine lv_aload_n hx hb dL_law_1704 rfl (lv_at hl 1 rfl) ?_
  refine lv_iload hx hb dL_law_1705 (lv_at hl 0 rfl) ?_
  refine lv_iconst (v := iI 2) hx hb dL_law_1707 rfl ?_
  refine z_iadd hx hb dL_law_1708 ?_
  refine z_sld hx hb hX hbl hS (ix + 2) (by omega) (by omega) hL e2 dL_law_1709 ?_
  refine lv_aload_n hx hb dL_law_1710 rfl (lv_at hl 4 rfl) ?_
  refine zc_f (vx_runSW (As := [.ref xa, .int (iI z), .int (iI w), .ref oa]) (rest := []) ⟨hx, hb, hml, hown, hts⟩ (f1_L_weightIn l hfl G xa xr oa _ B σ z w hI hzb hbad) (vx_cwSW 4 hts gL_law_L_weightIn rfl rfl rfl (by decide +kernel) ⟨Nat.le_of_ble_eq_true rfl, Nat.le_of_ble_eq_true rfl⟩) (preWF hK (b_x hP) (j_E hE0 hS) hN) rfl rfl hl.1 rfl (lv_room (Nat.le_of_ble_eq_true rfl)) dL_law_1711 ⟨by show _ ≤ 698866; omega, by show _ ≤ 6999506; omega⟩) hS (fun H locs hS hkk => ?_)
  have hP := j_0 hP hkk
  refine lv_istore (lv' := [(5, .int (iI 1)), (4, .int (iI (ix : Int))), (0, .ref b), (1, .ref xa), (2, .ref ma), (3, .ref oa)]) hx hb dL_law_1714 hl (by decide) rfl (fun ls hl => ?_)
  refine lv_aload_n hx hb dL_law_1716 rfl (lv_at hl 4 rfl) ?_
  refine lv_aload_n hx hb dL_law_1717 rfl (lv_at hl 2 rfl) ?_
  refine lv_iload hx hb dL_law_1718 (lv_at hl 1 rfl) ?_
  refine lv_iconst (v := iI 1) hx hb dL_law_1720 rfl ?_
  refine z_iadd hx hb dL_law_1721 ?_
  refine z_sld hx hb hX hbl hS (ix + 1) (by omega) (by omega) hL e1 dL_law_1722 ?_
  refine lv_aload_n hx hb dL_law_1723 rfl (lv_at hl 2 rfl) ?_
  refine lv_iload hx hb dL_law_1724 (lv_at hl 1 rfl) ?_
  refine lv_iconst (v := iI 2) hx hb dL_law_1726 rfl ?_
  refine z_iadd hx hb dL_law_1727 ?_
  refine z_sld hx hb hX hbl hS (ix + 2) (by omega) (by omega) hL e2 dL_law_1728 ?_
  refine zc_wi (va_runV (As := [.int (iI z), .int (iI w)]) (rest := []) ⟨hx, hb, hml, hown, hts⟩ (e1_X1_weightIn l G ma mr _ B σ t z w hI hzb hbad) (cwV 2 hts gL_law_X1_weightIn rfl rfl rfl (by decide +kernel) ⟨Nat.le_of_ble_eq_true rfl, Nat.le_of_ble_eq_true rfl⟩) (preWM hK (b_m hP) (d_m hD)) rfl rfl hl.1 rfl (lv_room (Nat.le_of_ble_eq_true rfl)) dL_law_1729 ⟨by show _ ≤ 698866; omega, by show _ ≤ 6999506; omega⟩) hS (a_m hD hS) (fun H locs hP1 hS _ hkk => ?_)
  have hP := j_m hP hD hP1 hkk
  have hD := d_mv hD σ σ 1 (v)
  refine lv_istore (lv' := [(6, .int (iI 0)), (5, .int (iI 1)), (4, .int (iI (ix : Int))), (0, .ref b), (1, .ref xa), (2, .ref ma), (3, .ref oa)]) hx hb dL_law_1732 hl (by decide) rfl (fun ls hl => ?_)
  refine lv_aload_n hx hb dL_law_1734 rfl (lv_at hl 5 rfl) ?_
  refine zc_wi (va_runV (As := []) (rest := []) ⟨hx, hb, hml, hown, hts⟩ (c_X1_thrown l G ma mr _ σ 1) (cwV 0 hts gL_law_X1_thrown rfl rfl rfl (by decide +kernel) ⟨Nat.le_of_ble_eq_true rfl, Nat.le_of_ble_eq_true rfl⟩) (preWM hK (b_m hP) (d_m hD)) rfl rfl hl.1 rfl (lv_room (Nat.le_of_ble_eq_true rfl)) dL_law_1735 ⟨by show _ ≤ 698866; omega, by show _ ≤ 6999506; omega⟩) hS (a_m hD hS) (fun H locs hP1 hS _ hkk => ?_)
  have hP := j_m hP hD hP1 hkk
  refine lv_iload hx hb dL_law_1738 (lv_at hl 1 rfl) ?_
  refine z_icmp_eq (tgt := 1745) hx hb dL_law_1740 (by decide) (by omega) (by omega) (fun _ => ?_) (fun h => absurd (by omega) h)
  refine lv_iload hx hb dL_law_1745 (lv_at hl 1 rfl) ?_
  refine z_if_ne (tgt := 1762) hx hb dL_law_1747 (by decide) (by decide) (fun _ => ?_) (fun h => absurd h (by decide))
  refine lv_goto (tgt := 2000) hx hb dL_law_1762 (by decide) ?_
  exact kk _ _ _ _ _ _ _ ⟨hP, hD, hS⟩ (by omega) (by omega) (lv_sub hl [2, 3, 4, 5, 6] rfl)
set_option maxHeartbeats 4000000 in
set_option maxRecDepth 100000 in
theorem k2_weightIn (C : lC pg l s m args c G b L xs) (hP : lP G s xa xr ma mr oa σ t v H locs) (hc : cells + 32 ≤ 698866) (hs : slots + 256 ≤ 6999506) (hl : lv_has ls 9 [(4, .int (iI (ix : Int))), (0, .ref b), (1, .ref xa), (2, .ref ma), (3, .ref oa)]) (hix : ix + 3 < L) (B : Nat) (k : Nat) (z : Int) (e1 : xs (ix + 1) = iI (k : Int)) (e2 : xs (ix + 2) = iI z) (hI : zI B σ) (hk : k < σ.1 1) (hzb : -2147483648 ≤ z ∧ z < 2147483648) (hbad : z < 1 ∨ 60 < z) (kk : lK pg l e s m args below meth c G b xa xr ma mr oa ix cells slots Q σ) : W pg l e room_1 s m args below meth c H locs cells slots Q (F0 m 1697 ls []) := by
  obtain ⟨hx, hb, hml, hown, hts, hfl, hK, hE0, hN, hX, hbl, hL⟩ := C
  obtain ⟨hP, hD, hS⟩ := hP
  have hP : va_P G.1 vwCl (V3 G xa xr ma mr oa σ σ t v) H := hP
  have hD : va_D (nA s.heap.size) (V3 G xa xr ma mr oa σ σ t v) := hD
  refine lv_aload_n hx hb dL_law_1697 rfl (lv_at hl 2 rfl) ?_
  refine lv_aload_n hx hb dL_law_1698 rfl (lv_at hl 1 rfl) ?_
  refine lv_iload hx hb dL_law_1699 (lv_at hl 0 rfl) ?_
  refine lv_iconst (v := iI 1) hx hb dL_law_1701 rfl ?_
  refine z_iadd hx hb dL_law_1702 ?_
  refine z_sld hx hb hX hbl hS (ix + 1) (by omega) (by omega) hL e1 dL_law_1703 ?_
  refine lv_aload_n hx hb dL_law_1704 rfl (lv_at hl 1 rfl) ?_
  refine lv_iload hx hb dL_law_1705 (lv_at hl 0 rfl) ?_
  refine lv_iconst (v := iI 2) hx hb dL_law_1707 rfl ?_
  refine z_iadd hx hb dL_law_1708 ?_
  refine z_sld hx hb hX hbl hS (ix + 2) (by omega) (by omega) hL e2 dL_law_1709 ?_
  refine lv_aload_n hx hb dL_law_1710 rfl (lv_at hl 4 rfl) ?_
  refine zc_f (vx_runSW (As := [.ref xa, .int (iI (k : Int)), .int (iI z), .ref oa]) (rest := []) ⟨hx, hb, hml, hown, hts⟩ (f2_L_weightIn l hfl G xa xr oa _ B σ k z hI hk hzb hbad) (vx_cwSW 4 hts gL_law_L_weightIn rfl rfl rfl (by decide +kernel) ⟨Nat.le_of_ble_eq_true rfl, Nat.le_of_ble_eq_true rfl⟩) (preWF hK (b_x hP) (j_E hE0 hS) hN) rfl rfl hl.1 rfl (lv_room (Nat.le_of_ble_eq_true rfl)) dL_law_1711 ⟨by show _ ≤ 698866; omega, by show _ ≤ 6999506; omega⟩) hS (fun H locs hS hkk => ?_)
  have hP := j_0 hP hkk
  refine lv_istore (lv' := [(5, .int (iI 2)), (4, .int (iI (ix : Int))), (0, .ref b), (1, .ref xa), (2, .ref ma), (3, .ref oa)]) hx hb dL_law_1714 hl (by decide) rfl (fun ls hl => ?_)
  refine lv_aload_n hx hb dL_law_1716 rfl (lv_at hl 4 rfl) ?_
  refine lv_aload_n hx hb dL_law_1717 rfl (lv_at hl 2 rfl) ?_
  refine lv_iload hx hb dL_law_1718 (lv_at hl 1 rfl) ?_
  refine lv_iconst (v := iI 1) hx hb dL_law_1720 rfl ?_
  refine z_iadd hx hb dL_law_1721 ?_
  refine z_sld hx hb hX hbl hS (ix + 1) (by omega) (by omega) hL e1 dL_law_1722 ?_
  refine lv_aload_n hx hb dL_law_1723 rfl (lv_at hl 2 rfl) ?_
  refine lv_iload hx hb dL_law_1724 (lv_at hl 1 rfl) ?_
  refine lv_iconst (v := iI 2) hx hb dL_law_1726 rfl ?_
  refine z_iadd hx hb dL_law_1727 ?_
  refine z_sld hx hb hX hbl hS (ix + 2) (by omega) (by omega) hL e2 dL_law_1728 ?_
  refine zc_wi (va_runV (As := [.int (iI (k : Int)), .int (iI z)]) (rest := []) ⟨hx, hb, hml, hown, hts⟩ (e2_X1_weightIn l G ma mr _ B σ t k z hI hk hzb hbad) (cwV 2 hts gL_law_X1_weightIn rfl rfl rfl (by decide +kernel) ⟨Nat.le_of_ble_eq_true rfl, Nat.le_of_ble_eq_true rfl⟩) (preWM hK (b_m hP) (d_m hD)) rfl rfl hl.1 rfl (lv_room (Nat.le_of_ble_eq_true rfl)) dL_law_1729 ⟨by show _ ≤ 698866; omega, by show _ ≤ 6999506; omega⟩) hS (a_m hD hS) (fun H locs hP1 hS _ hkk => ?_)
  have hP := j_m hP hD hP1 hkk
  have hD := d_mv hD σ σ 2 (v)
  refine lv_istore (lv' := [(6, .int (iI 0)), (5, .int (iI 2)), (4, .int (iI (ix : Int))), (0, .ref b), (1, .ref xa), (2, .ref ma), (3, .ref oa)]) hx hb dL_law_1732 hl (by decide) rfl (fun ls hl => ?_)
  refine lv_aload_n hx hb dL_law_1734 rfl (lv_at hl 5 rfl) ?_
  refine zc_wi (va_runV (As := []) (rest := []) ⟨hx, hb, hml, hown, hts⟩ (c_X1_thrown l G ma mr _ σ 2) (cwV 0 hts gL_law_X1_thrown rfl rfl rfl (by decide +kernel) ⟨Nat.le_of_ble_eq_true rfl, Nat.le_of_ble_eq_true rfl⟩) (preWM hK (b_m hP) (d_m hD)) rfl rfl hl.1 rfl (lv_room (Nat.le_of_ble_eq_true rfl)) dL_law_1735 ⟨by show _ ≤ 698866; omega, by show _ ≤ 6999506; omega⟩) hS (a_m hD hS) (fun H locs hP1 hS _ hkk => ?_)
  have hP := j_m hP hD hP1 hkk
  refine lv_iload hx hb dL_law_1738 (lv_at hl 1 rfl) ?_
  refine z_icmp_eq (tgt := 1745) hx hb dL_law_1740 (by decide) (by omega) (by omega) (fun _ => ?_) (fun h => absurd (by omega) h)
  refine lv_iload hx hb dL_law_1745 (lv_at hl 1 rfl) ?_
  refine z_if_ne (tgt := 1762) hx hb dL_law_1747 (by decide) (by decide) (fun _ => ?_) (fun h => absurd h (by decide))
  refine lv_goto (tgt := 2000) hx hb dL_law_1762 (by decide) ?_
  exact kk _ _ _ _ _ _ _ ⟨hP, hD, hS⟩ (by omega) (by omega) (lv_sub hl [2, 3, 4, 5, 6] rfl)
set_option maxHeartbeats 4000000 in
set_option maxRecDepth 100000 in
theorem k1_daysUntilForgotten (C : lC pg l s m args c G b L xs) (hP : lP G s xa xr ma mr oa σ t v H locs) (hc : cells + 32 ≤ 698866) (hs : slots + 256 ≤ 6999506) (hl : lv_has ls 9 [(4, .int (iI (ix : Int))), (0, .ref b), (1, .ref xa), (2, .ref ma), (3, .ref oa)]) (hix : ix + 3 < L) (B : Nat) (z : Int) (e1 : xs (ix + 1) = iI z) (hI : zI B σ) (hzb : -2147483648 ≤ z ∧ z < 2147483648) (hbad : z < 0 ∨ (σ.1 1 : Int) ≤ z) (kk : lK pg l e s m args below meth c G b xa xr ma mr oa ix cells slots Q σ) : W pg l e room_1 s m args below meth c H locs cells slots Q (F0 m 1765 ls []) := by
  obtain ⟨hx, hb, hml, hown, hts, hfl, hK, hE0, hN, hX, hbl, hL⟩ := C
  obtain ⟨hP, hD, hS⟩ := hP
  have hP : va_P G.1 vwCl (V3 G xa xr ma mr oa σ σ t v) H := hP
  have hD : va_D (nA s.heap.size) (V3 G xa xr ma mr oa σ σ t v) := hD
  refine lv_aload_n hx hb dL_law_1765 rfl (lv_at hl 2 rfl) ?_
  refine lv_aload_n hx hb dL_law_1766 rfl (lv_at hl 1 rfl) ?_
  refine lv_iload hx hb dL_law_1767 (lv_at hl 0 rfl) ?_
  refine lv_iconst (v := iI 1) hx hb dL_law_1769 rfl ?_
  refine z_iadd hx hb dL_law_1770 ?_
  refine z_sld hx hb hX hbl hS (ix + 1) (by omega) (by omega) hL e1 dL_law_1771 ?_
  refine lv_aload_n hx hb dL_law_1772 rfl (lv_at hl 4 rfl) ?_
  refine zc_f (vx_runSW (As := [.ref xa, .int (iI z), .ref oa]) (rest := []) ⟨hx, hb, hml, hown, hts⟩ (f1_L_daysUntilForgotten l hfl G xa xr oa _ B σ z hI hzb hbad) (vx_cwSW 3 hts gL_law_L_daysUntilForgotten rfl rfl rfl (by decide +kernel) ⟨Nat.le_of_ble_eq_true rfl, Nat.le_of_ble_eq_true rfl⟩) (preWF hK (b_x hP) (j_E hE0 hS) hN) rfl rfl hl.1 rfl (lv_room (Nat.le_of_ble_eq_true rfl)) dL_law_1773 ⟨by show _ ≤ 698866; omega, by show _ ≤ 6999506; omega⟩) hS (fun H locs hS hkk => ?_)
  have hP := j_0 hP hkk
  refine lv_istore (lv' := [(5, .int (iI 1)), (4, .int (iI (ix : Int))), (0, .ref b), (1, .ref xa), (2, .ref ma), (3, .ref oa)]) hx hb dL_law_1776 hl (by decide) rfl (fun ls hl => ?_)
  refine lv_aload_n hx hb dL_law_1778 rfl (lv_at hl 4 rfl) ?_
  refine lv_aload_n hx hb dL_law_1779 rfl (lv_at hl 2 rfl) ?_
  refine lv_iload hx hb dL_law_1780 (lv_at hl 1 rfl) ?_
  refine lv_iconst (v := iI 1) hx hb dL_law_1782 rfl ?_
  refine z_iadd hx hb dL_law_1783 ?_
  refine z_sld hx hb hX hbl hS (ix + 1) (by omega) (by omega) hL e1 dL_law_1784 ?_
  refine zc_wi (va_runV (As := [.int (iI z)]) (rest := []) ⟨hx, hb, hml, hown, hts⟩ (e1_X1_daysUntilForgotten l G ma mr _ B σ t z hI hzb hbad) (cwV 1 hts gL_law_X1_daysUntilForgotten rfl rfl rfl (by decide +kernel) ⟨Nat.le_of_ble_eq_true rfl, Nat.le_of_ble_eq_true rfl⟩) (preWM hK (b_m hP) (d_m hD)) rfl rfl hl.1 rfl (lv_room (Nat.le_of_ble_eq_true rfl)) dL_law_1785 ⟨by show _ ≤ 698866; omega, by show _ ≤ 6999506; omega⟩) hS (a_m hD hS) (fun H locs hP1 hS _ hkk => ?_)
  have hP := j_m hP hD hP1 hkk
  have hD := d_mv hD σ σ 1 (v)
  refine lv_istore (lv' := [(6, .int (iI 0)), (5, .int (iI 1)), (4, .int (iI (ix : Int))), (0, .ref b), (1, .ref xa), (2, .ref ma), (3, .ref oa)]) hx hb dL_law_1788 hl (by decide) rfl (fun ls hl => ?_)
  refine lv_aload_n hx hb dL_law_1790 rfl (lv_at hl 5 rfl) ?_
  refine zc_wi (va_runV (As := []) (rest := []) ⟨hx, hb, hml, hown, hts⟩ (c_X1_thrown l G ma mr _ σ 1) (cwV 0 hts gL_law_X1_thrown rfl rfl rfl (by decide +kernel) ⟨Nat.le_of_ble_eq_true rfl, Nat.le_of_ble_eq_true rfl⟩) (preWM hK (b_m hP) (d_m hD)) rfl rfl hl.1 rfl (lv_room (Nat.le_of_ble_eq_true rfl)) dL_law_1791 ⟨by show _ ≤ 698866; omega, by show _ ≤ 6999506; omega⟩) hS (a_m hD hS) (fun H locs hP1 hS _ hkk => ?_)
  have hP := j_m hP hD hP1 hkk
  refine lv_iload hx hb dL_law_1794 (lv_at hl 1 rfl) ?_
  refine z_icmp_eq (tgt := 1801) hx hb dL_law_1796 (by decide) (by omega) (by omega) (fun _ => ?_) (fun h => absurd (by omega) h)
  refine lv_iload hx hb dL_law_1801 (lv_at hl 1 rfl) ?_
  refine z_if_ne (tgt := 1818) hx hb dL_law_1803 (by decide) (by decide) (fun _ => ?_) (fun h => absurd h (by decide))
  refine lv_goto (tgt := 2000) hx hb dL_law_1818 (by decide) ?_
  exact kk _ _ _ _ _ _ _ ⟨hP, hD, hS⟩ (by omega) (by omega) (lv_sub hl [2, 3, 4, 5, 6] rfl)
set_option maxHeartbeats 4000000 in
set_option maxRecDepth 100000 in
theorem k1_borneIn (C : lC pg l s m args c G b L xs) (hP : lP G s xa xr ma mr oa σ t v H locs) (hc : cells + 32 ≤ 698866) (hs : slots + 256 ≤ 6999506) (hl : lv_has ls 9 [(4, .int (iI (ix : Int))), (0, .ref b), (1, .ref xa), (2, .ref ma), (3, .ref oa)]) (hix : ix + 3 < L) (B : Nat) (z : Int) (w : Int) (e1 : xs (ix + 1) = iI z) (e2 : xs (ix + 2) = iI w) (hI : zI B σ) (hzb : -2147483648 ≤ z ∧ z < 2147483648) (hbad : z < 0 ∨ (σ.1 0 : Int) ≤ z) (kk : lK pg l e s m args below meth c G b xa xr ma mr oa ix cells slots Q σ) : W pg l e room_1 s m args below meth c H locs cells slots Q (F0 m 1821 ls []) := by
  obtain ⟨hx, hb, hml, hown, hts, hfl, hK, hE0, hN, hX, hbl, hL⟩ := C
  obtain ⟨hP, hD, hS⟩ := hP
  have hP : va_P G.1 vwCl (V3 G xa xr ma mr oa σ σ t v) H := hP
  have hD : va_D (nA s.heap.size) (V3 G xa xr ma mr oa σ σ t v) := hD
  refine lv_aload_n hx hb dL_law_1821 rfl (lv_at hl 2 rfl) ?_
  refine lv_aload_n hx hb dL_law_1822 rfl (lv_at hl 1 rfl) ?_
  refine lv_iload hx hb dL_law_1823 (lv_at hl 0 rfl) ?_
  refine lv_iconst (v := iI 1) hx hb dL_law_1825 rfl ?_
  refine z_iadd hx hb dL_law_1826 ?_
  refine z_sld hx hb hX hbl hS (ix + 1) (by omega) (by omega) hL e1 dL_law_1827 ?_
  refine lv_aload_n hx hb dL_law_1828 rfl (lv_at hl 1 rfl) ?_
  refine lv_iload hx hb dL_law_1829 (lv_at hl 0 rfl) ?_
  refine lv_iconst (v := iI 2) hx hb dL_law_1831 rfl ?_
  refine z_iadd hx hb dL_law_1832 ?_
  refine z_sld hx hb hX hbl hS (ix + 2) (by omega) (by omega) hL e2 dL_law_1833 ?_
  refine lv_aload_n hx hb dL_law_1834 rfl (lv_at hl 4 rfl) ?_
  refine zc_f (vx_runSW (As := [.ref xa, .int (iI z), .int (iI w), .ref oa]) (rest := []) ⟨hx, hb, hml, hown, hts⟩ (f1_L_borneIn l hfl G xa xr oa _ B σ z w hI hzb hbad) (vx_cwSW 4 hts gL_law_L_borneIn rfl rfl rfl (by decide +kernel) ⟨Nat.le_of_ble_eq_true rfl, Nat.le_of_ble_eq_true rfl⟩) (preWF hK (b_x hP) (j_E hE0 hS) hN) rfl rfl hl.1 rfl (lv_room (Nat.le_of_ble_eq_true rfl)) dL_law_1835 ⟨by show _ ≤ 698866; omega, by show _ ≤ 6999506; omega⟩) hS (fun H locs hS hkk => ?_)
  have hP := j_0 hP hkk
  refine lv_istore (lv' := [(5, .int (iI 1)), (4, .int (iI (ix : Int))), (0, .ref b), (1, .ref xa), (2, .ref ma), (3, .ref oa)]) hx hb dL_law_1838 hl (by decide) rfl (fun ls hl => ?_)
  refine lv_aload_n hx hb dL_law_1840 rfl (lv_at hl 4 rfl) ?_
  refine lv_aload_n hx hb dL_law_1841 rfl (lv_at hl 2 rfl) ?_
  refine lv_iload hx hb dL_law_1842 (lv_at hl 1 rfl) ?_
  refine lv_iconst (v := iI 1) hx hb dL_law_1844 rfl ?_
  refine z_iadd hx hb dL_law_1845 ?_
  refine z_sld hx hb hX hbl hS (ix + 1) (by omega) (by omega) hL e1 dL_law_1846 ?_
  refine lv_aload_n hx hb dL_law_1847 rfl (lv_at hl 2 rfl) ?_
  refine lv_iload hx hb dL_law_1848 (lv_at hl 1 rfl) ?_
  refine lv_iconst (v := iI 2) hx hb dL_law_1850 rfl ?_
  refine z_iadd hx hb dL_law_1851 ?_
  refine z_sld hx hb hX hbl hS (ix + 2) (by omega) (by omega) hL e2 dL_law_1852 ?_
  refine zc_wi (va_runV (As := [.int (iI z), .int (iI w)]) (rest := []) ⟨hx, hb, hml, hown, hts⟩ (e1_X1_borneIn l G ma mr _ B σ t z w hI hzb hbad) (cwV 2 hts gL_law_X1_borneIn rfl rfl rfl (by decide +kernel) ⟨Nat.le_of_ble_eq_true rfl, Nat.le_of_ble_eq_true rfl⟩) (preWM hK (b_m hP) (d_m hD)) rfl rfl hl.1 rfl (lv_room (Nat.le_of_ble_eq_true rfl)) dL_law_1853 ⟨by show _ ≤ 698866; omega, by show _ ≤ 6999506; omega⟩) hS (a_m hD hS) (fun H locs hP1 hS _ hkk => ?_)
  have hP := j_m hP hD hP1 hkk
  have hD := d_mv hD σ σ 1 (v)
  refine lv_istore (lv' := [(6, .int (iI 0)), (5, .int (iI 1)), (4, .int (iI (ix : Int))), (0, .ref b), (1, .ref xa), (2, .ref ma), (3, .ref oa)]) hx hb dL_law_1856 hl (by decide) rfl (fun ls hl => ?_)
  refine lv_aload_n hx hb dL_law_1858 rfl (lv_at hl 5 rfl) ?_
  refine zc_wi (va_runV (As := []) (rest := []) ⟨hx, hb, hml, hown, hts⟩ (c_X1_thrown l G ma mr _ σ 1) (cwV 0 hts gL_law_X1_thrown rfl rfl rfl (by decide +kernel) ⟨Nat.le_of_ble_eq_true rfl, Nat.le_of_ble_eq_true rfl⟩) (preWM hK (b_m hP) (d_m hD)) rfl rfl hl.1 rfl (lv_room (Nat.le_of_ble_eq_true rfl)) dL_law_1859 ⟨by show _ ≤ 698866; omega, by show _ ≤ 6999506; omega⟩) hS (a_m hD hS) (fun H locs hP1 hS _ hkk => ?_)
  have hP := j_m hP hD hP1 hkk
  refine lv_iload hx hb dL_law_1862 (lv_at hl 1 rfl) ?_
  refine z_icmp_eq (tgt := 1869) hx hb dL_law_1864 (by decide) (by omega) (by omega) (fun _ => ?_) (fun h => absurd (by omega) h)
  refine lv_iload hx hb dL_law_1869 (lv_at hl 1 rfl) ?_
  refine z_if_ne (tgt := 1886) hx hb dL_law_1871 (by decide) (by decide) (fun _ => ?_) (fun h => absurd h (by decide))
  refine lv_goto (tgt := 2000) hx hb dL_law_1886 (by decide) ?_
  exact kk _ _ _ _ _ _ _ ⟨hP, hD, hS⟩ (by omega) (by omega) (lv_sub hl [2, 3, 4, 5, 6] rfl)
set_option maxHeartbeats 4000000 in
set_option maxRecDepth 100000 in
theorem k2_borneIn (C : lC pg l s m args c G b L xs) (hP : lP G s xa xr ma mr oa σ t v H locs) (hc : cells + 32 ≤ 698866) (hs : slots + 256 ≤ 6999506) (hl : lv_has ls 9 [(4, .int (iI (ix : Int))), (0, .ref b), (1, .ref xa), (2, .ref ma), (3, .ref oa)]) (hix : ix + 3 < L) (B : Nat) (p : Nat) (z : Int) (e1 : xs (ix + 1) = iI (p : Int)) (e2 : xs (ix + 2) = iI z) (hI : zI B σ) (hp : p < σ.1 0) (hzb : -2147483648 ≤ z ∧ z < 2147483648) (hbad : z < 1 ∨ 60 < z) (kk : lK pg l e s m args below meth c G b xa xr ma mr oa ix cells slots Q σ) : W pg l e room_1 s m args below meth c H locs cells slots Q (F0 m 1821 ls []) := by
  obtain ⟨hx, hb, hml, hown, hts, hfl, hK, hE0, hN, hX, hbl, hL⟩ := C
  obtain ⟨hP, hD, hS⟩ := hP
  have hP : va_P G.1 vwCl (V3 G xa xr ma mr oa σ σ t v) H := hP
  have hD : va_D (nA s.heap.size) (V3 G xa xr ma mr oa σ σ t v) := hD
  refine lv_aload_n hx hb dL_law_1821 rfl (lv_at hl 2 rfl) ?_
  refine lv_aload_n hx hb dL_law_1822 rfl (lv_at hl 1 rfl) ?_
  refine lv_iload hx hb dL_law_1823 (lv_at hl 0 rfl) ?_
  refine lv_iconst (v := iI 1) hx hb dL_law_1825 rfl ?_
  refine z_iadd hx hb dL_law_1826 ?_
  refine z_sld hx hb hX hbl hS (ix + 1) (by omega) (by omega) hL e1 dL_law_1827 ?_
  refine lv_aload_n hx hb dL_law_1828 rfl (lv_at hl 1 rfl) ?_
  refine lv_iload hx hb dL_law_1829 (lv_at hl 0 rfl) ?_
  refine lv_iconst (v := iI 2) hx hb dL_law_1831 rfl ?_
  refine z_iadd hx hb dL_law_1832 ?_
  refine z_sld hx hb hX hbl hS (ix + 2) (by omega) (by omega) hL e2 dL_law_1833 ?_
  refine lv_aload_n hx hb dL_law_1834 rfl (lv_at hl 4 rfl) ?_
  refine zc_f (vx_runSW (As := [.ref xa, .int (iI (p : Int)), .int (iI z), .ref oa]) (rest := []) ⟨hx, hb, hml, hown, hts⟩ (f2_L_borneIn l hfl G xa xr oa _ B σ p z hI hp hzb hbad) (vx_cwSW 4 hts gL_law_L_borneIn rfl rfl rfl (by decide +kernel) ⟨Nat.le_of_ble_eq_true rfl, Nat.le_of_ble_eq_true rfl⟩) (preWF hK (b_x hP) (j_E hE0 hS) hN) rfl rfl hl.1 rfl (lv_room (Nat.le_of_ble_eq_true rfl)) dL_law_1835 ⟨by show _ ≤ 698866; omega, by show _ ≤ 6999506; omega⟩) hS (fun H locs hS hkk => ?_)
  have hP := j_0 hP hkk
  refine lv_istore (lv' := [(5, .int (iI 2)), (4, .int (iI (ix : Int))), (0, .ref b), (1, .ref xa), (2, .ref ma), (3, .ref oa)]) hx hb dL_law_1838 hl (by decide) rfl (fun ls hl => ?_)
  refine lv_aload_n hx hb dL_law_1840 rfl (lv_at hl 4 rfl) ?_
  refine lv_aload_n hx hb dL_law_1841 rfl (lv_at hl 2 rfl) ?_
  refine lv_iload hx hb dL_law_1842 (lv_at hl 1 rfl) ?_
  refine lv_iconst (v := iI 1) hx hb dL_law_1844 rfl ?_
  refine z_iadd hx hb dL_law_1845 ?_
  refine z_sld hx hb hX hbl hS (ix + 1) (by omega) (by omega) hL e1 dL_law_1846 ?_
  refine lv_aload_n hx hb dL_law_1847 rfl (lv_at hl 2 rfl) ?_
  refine lv_iload hx hb dL_law_1848 (lv_at hl 1 rfl) ?_
  refine lv_iconst (v := iI 2) hx hb dL_law_1850 rfl ?_
  refine z_iadd hx hb dL_law_1851 ?_
  refine z_sld hx hb hX hbl hS (ix + 2) (by omega) (by omega) hL e2 dL_law_1852 ?_
  refine zc_wi (va_runV (As := [.int (iI (p : Int)), .int (iI z)]) (rest := []) ⟨hx, hb, hml, hown, hts⟩ (e2_X1_borneIn l G ma mr _ B σ t p z hI hp hzb hbad) (cwV 2 hts gL_law_X1_borneIn rfl rfl rfl (by decide +kernel) ⟨Nat.le_of_ble_eq_true rfl, Nat.le_of_ble_eq_true rfl⟩) (preWM hK (b_m hP) (d_m hD)) rfl rfl hl.1 rfl (lv_room (Nat.le_of_ble_eq_true rfl)) dL_law_1853 ⟨by show _ ≤ 698866; omega, by show _ ≤ 6999506; omega⟩) hS (a_m hD hS) (fun H locs hP1 hS _ hkk => ?_)
  have hP := j_m hP hD hP1 hkk
  have hD := d_mv hD σ σ 2 (v)
  refine lv_istore (lv' := [(6, .int (iI 0)), (5, .int (iI 2)), (4, .int (iI (ix : Int))), (0, .ref b), (1, .ref xa), (2, .ref ma), (3, .ref oa)]) hx hb dL_law_1856 hl (by decide) rfl (fun ls hl => ?_)
  refine lv_aload_n hx hb dL_law_1858 rfl (lv_at hl 5 rfl) ?_
  refine zc_wi (va_runV (As := []) (rest := []) ⟨hx, hb, hml, hown, hts⟩ (c_X1_thrown l G ma mr _ σ 2) (cwV 0 hts gL_law_X1_thrown rfl rfl rfl (by decide +kernel) ⟨Nat.le_of_ble_eq_true rfl, Nat.le_of_ble_eq_true rfl⟩) (preWM hK (b_m hP) (d_m hD)) rfl rfl hl.1 rfl (lv_room (Nat.le_of_ble_eq_true rfl)) dL_law_1859 ⟨by show _ ≤ 698866; omega, by show _ ≤ 6999506; omega⟩) hS (a_m hD hS) (fun H locs hP1 hS _ hkk => ?_)
  have hP := j_m hP hD hP1 hkk
  refine lv_iload hx hb dL_law_1862 (lv_at hl 1 rfl) ?_
  refine z_icmp_eq (tgt := 1869) hx hb dL_law_1864 (by decide) (by omega) (by omega) (fun _ => ?_) (fun h => absurd (by omega) h)
  refine lv_iload hx hb dL_law_1869 (lv_at hl 1 rfl) ?_
  refine z_if_ne (tgt := 1886) hx hb dL_law_1871 (by decide) (by decide) (fun _ => ?_) (fun h => absurd h (by decide))
  refine lv_goto (tgt := 2000) hx hb dL_law_1886 (by decide) ?_
  exact kk _ _ _ _ _ _ _ ⟨hP, hD, hS⟩ (by omega) (by omega) (lv_sub hl [2, 3, 4, 5, 6] rfl)
set_option maxHeartbeats 4000000 in
set_option maxRecDepth 100000 in
theorem k1_worstToKeep (C : lC pg l s m args c G b L xs) (hP : lP G s xa xr ma mr oa σ t v H locs) (hc : cells + 32 ≤ 698866) (hs : slots + 256 ≤ 6999506) (hl : lv_has ls 9 [(4, .int (iI (ix : Int))), (0, .ref b), (1, .ref xa), (2, .ref ma), (3, .ref oa)]) (hix : ix + 3 < L) (B : Nat) (z : Int) (e1 : xs (ix + 1) = iI z) (hI : zI B σ) (hzb : -2147483648 ≤ z ∧ z < 2147483648) (hbad : z < 0 ∨ (σ.1 0 : Int) ≤ z) (kk : lK pg l e s m args below meth c G b xa xr ma mr oa ix cells slots Q σ) : W pg l e room_1 s m args below meth c H locs cells slots Q (F0 m 1889 ls []) := by
  obtain ⟨hx, hb, hml, hown, hts, hfl, hK, hE0, hN, hX, hbl, hL⟩ := C
  obtain ⟨hP, hD, hS⟩ := hP
  have hP : va_P G.1 vwCl (V3 G xa xr ma mr oa σ σ t v) H := hP
  have hD : va_D (nA s.heap.size) (V3 G xa xr ma mr oa σ σ t v) := hD
  refine lv_aload_n hx hb dL_law_1889 rfl (lv_at hl 2 rfl) ?_
  refine lv_aload_n hx hb dL_law_1890 rfl (lv_at hl 1 rfl) ?_
  refine lv_iload hx hb dL_law_1891 (lv_at hl 0 rfl) ?_
  refine lv_iconst (v := iI 1) hx hb dL_law_1893 rfl ?_
  refine z_iadd hx hb dL_law_1894 ?_
  refine z_sld hx hb hX hbl hS (ix + 1) (by omega) (by omega) hL e1 dL_law_1895 ?_
  refine lv_aload_n hx hb dL_law_1896 rfl (lv_at hl 4 rfl) ?_
  refine zc_f (vx_runSW (As := [.ref xa, .int (iI z), .ref oa]) (rest := []) ⟨hx, hb, hml, hown, hts⟩ (f1_L_worstToKeep l hfl G xa xr oa _ B σ z hI hzb hbad) (vx_cwSW 3 hts gL_law_L_worstToKeep rfl rfl rfl (by decide +kernel) ⟨Nat.le_of_ble_eq_true rfl, Nat.le_of_ble_eq_true rfl⟩) (preWF hK (b_x hP) (j_E hE0 hS) hN) rfl rfl hl.1 rfl (lv_room (Nat.le_of_ble_eq_true rfl)) dL_law_1897 ⟨by show _ ≤ 698866; omega, by show _ ≤ 6999506; omega⟩) hS (fun H locs hS hkk => ?_)
  have hP := j_0 hP hkk
  refine lv_istore (lv' := [(5, .int (iI 1)), (4, .int (iI (ix : Int))), (0, .ref b), (1, .ref xa), (2, .ref ma), (3, .ref oa)]) hx hb dL_law_1900 hl (by decide) rfl (fun ls hl => ?_)
  refine lv_aload_n hx hb dL_law_1902 rfl (lv_at hl 4 rfl) ?_
  refine lv_aload_n hx hb dL_law_1903 rfl (lv_at hl 2 rfl) ?_
  refine lv_iload hx hb dL_law_1904 (lv_at hl 1 rfl) ?_
  refine lv_iconst (v := iI 1) hx hb dL_law_1906 rfl ?_
  refine z_iadd hx hb dL_law_1907 ?_
  refine z_sld hx hb hX hbl hS (ix + 1) (by omega) (by omega) hL e1 dL_law_1908 ?_
  refine zc_wi (va_runV (As := [.int (iI z)]) (rest := []) ⟨hx, hb, hml, hown, hts⟩ (e1_X1_worstToKeep l G ma mr _ B σ t z hI hzb hbad) (cwV 1 hts gL_law_X1_worstToKeep rfl rfl rfl (by decide +kernel) ⟨Nat.le_of_ble_eq_true rfl, Nat.le_of_ble_eq_true rfl⟩) (preWM hK (b_m hP) (d_m hD)) rfl rfl hl.1 rfl (lv_room (Nat.le_of_ble_eq_true rfl)) dL_law_1909 ⟨by show _ ≤ 698866; omega, by show _ ≤ 6999506; omega⟩) hS (a_m hD hS) (fun H locs hP1 hS _ hkk => ?_)
  have hP := j_m hP hD hP1 hkk
  have hD := d_mv hD σ σ 1 (v)
  refine lv_istore (lv' := [(6, .int (iI 0)), (5, .int (iI 1)), (4, .int (iI (ix : Int))), (0, .ref b), (1, .ref xa), (2, .ref ma), (3, .ref oa)]) hx hb dL_law_1912 hl (by decide) rfl (fun ls hl => ?_)
  refine lv_aload_n hx hb dL_law_1914 rfl (lv_at hl 5 rfl) ?_
  refine zc_wi (va_runV (As := []) (rest := []) ⟨hx, hb, hml, hown, hts⟩ (c_X1_thrown l G ma mr _ σ 1) (cwV 0 hts gL_law_X1_thrown rfl rfl rfl (by decide +kernel) ⟨Nat.le_of_ble_eq_true rfl, Nat.le_of_ble_eq_true rfl⟩) (preWM hK (b_m hP) (d_m hD)) rfl rfl hl.1 rfl (lv_room (Nat.le_of_ble_eq_true rfl)) dL_law_1915 ⟨by show _ ≤ 698866; omega, by show _ ≤ 6999506; omega⟩) hS (a_m hD hS) (fun H locs hP1 hS _ hkk => ?_)
  have hP := j_m hP hD hP1 hkk
  refine lv_iload hx hb dL_law_1918 (lv_at hl 1 rfl) ?_
  refine z_icmp_eq (tgt := 1925) hx hb dL_law_1920 (by decide) (by omega) (by omega) (fun _ => ?_) (fun h => absurd (by omega) h)
  refine lv_iload hx hb dL_law_1925 (lv_at hl 1 rfl) ?_
  refine z_if_ne (tgt := 1942) hx hb dL_law_1927 (by decide) (by decide) (fun _ => ?_) (fun h => absurd h (by decide))
  refine lv_goto (tgt := 2000) hx hb dL_law_1942 (by decide) ?_
  exact kk _ _ _ _ _ _ _ ⟨hP, hD, hS⟩ (by omega) (by omega) (lv_sub hl [2, 3, 4, 5, 6] rfl)
end K2
