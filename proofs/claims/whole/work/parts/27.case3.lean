/-! THE LAW'S CASES: what is only asked. -/
section K3
variable {pg : Program} {l : Launch} {e : Env} {s : State} {m : MethodId} {args : Array Value} {below : List Frame} {meth : Method} {c : Code} {H : Heap} {locs : List Loc} {cells slots : Nat} {Q : State → Prop}
variable {ls : Array Slot} {G : zG} {b L : Nat} {xs : Nat → Int32} {xa : Nat} {xr : Nat → Nat} {ma : Nat} {mr : Nat → Nat} {oa : Nat} {σ : zS} {t : Nat} {v : Int64} {ix : Nat}
set_option maxHeartbeats 4000000 in
set_option maxRecDepth 100000 in
theorem k_day (C : lC pg l s m args c G b L xs) (hP : lP G s xa xr ma mr oa σ t v H locs) (hc : cells + 32 ≤ 698866) (hs : slots + 256 ≤ 6999506) (hl : lv_has ls 9 [(4, .int (iI (ix : Int))), (0, .ref b), (1, .ref xa), (2, .ref ma), (3, .ref oa)]) (hix : ix + 3 < L) (B : Nat)  (hI : zI B σ) (kk : lK pg l e s m args below meth c G b xa xr ma mr oa ix cells slots Q σ) : W pg l e room_1 s m args below meth c H locs cells slots Q (F0 m 715 ls []) := by
  obtain ⟨hx, hb, hml, hown, hts, hfl, hK, hE0, hN, hX, hbl, hL⟩ := C
  obtain ⟨hP, hD, hS⟩ := hP
  have hP : va_P G.1 vwCl (V3 G xa xr ma mr oa σ σ t v) H := hP
  have hD : va_D (nA s.heap.size) (V3 G xa xr ma mr oa σ σ t v) := hD
  refine lv_aload_n hx hb dL_law_715 rfl (lv_at hl 2 rfl) ?_
  refine zc_i (va_runV (As := []) (rest := []) ⟨hx, hb, hml, hown, hts⟩ (c_X0_day l G xa xr B σ hI) (cwV 0 hts gL_law_X0_day rfl rfl rfl (by decide +kernel) ⟨Nat.le_of_ble_eq_true rfl, Nat.le_of_ble_eq_true rfl⟩) (preVX hK (b_x hP)) rfl rfl hl.1 rfl (lv_room (Nat.le_of_ble_eq_true rfl)) dL_law_716 ⟨by show _ ≤ 698866; omega, by show _ ≤ 6999506; omega⟩) ?_
  refine lv_aload_n hx hb dL_law_719 rfl (lv_at hl 3 rfl) ?_
  refine zc_wi (va_runV (As := []) (rest := [.int (iI ((σ.1 2 : Nat) : Int))]) ⟨hx, hb, hml, hown, hts⟩ (v_X1_day l G ma mr _ B σ t hI) (cwV 0 hts gL_law_X1_day rfl rfl rfl (by decide +kernel) ⟨Nat.le_of_ble_eq_true rfl, Nat.le_of_ble_eq_true rfl⟩) (preWM hK (b_m hP) (d_m hD)) rfl rfl hl.1 rfl (lv_room (Nat.le_of_ble_eq_true rfl)) dL_law_720 ⟨by show _ ≤ 698866; omega, by show _ ≤ 6999506; omega⟩) hS (a_m hD hS) (fun H locs hP1 hS _ hkk => ?_)
  have hP := j_m hP hD hP1 hkk
  have hD := d_mv hD σ σ 0 v
  refine lv_icmp_eq (tgt := 2000) hx hb dL_law_723 (by decide) (fun _ => ?_) (fun h => absurd rfl h)
  exact kk _ _ _ _ _ _ _ ⟨hP, hD, hS⟩ (by omega) (by omega) (lv_sub hl [0, 1, 2, 3, 4] rfl)
set_option maxHeartbeats 4000000 in
set_option maxRecDepth 100000 in
theorem k_persons (C : lC pg l s m args c G b L xs) (hP : lP G s xa xr ma mr oa σ t v H locs) (hc : cells + 32 ≤ 698866) (hs : slots + 256 ≤ 6999506) (hl : lv_has ls 9 [(4, .int (iI (ix : Int))), (0, .ref b), (1, .ref xa), (2, .ref ma), (3, .ref oa)]) (hix : ix + 3 < L) (B : Nat)  (hI : zI B σ) (kk : lK pg l e s m args below meth c G b xa xr ma mr oa ix cells slots Q σ) : W pg l e room_1 s m args below meth c H locs cells slots Q (F0 m 728 ls []) := by
  obtain ⟨hx, hb, hml, hown, hts, hfl, hK, hE0, hN, hX, hbl, hL⟩ := C
  obtain ⟨hP, hD, hS⟩ := hP
  have hP : va_P G.1 vwCl (V3 G xa xr ma mr oa σ σ t v) H := hP
  have hD : va_D (nA s.heap.size) (V3 G xa xr ma mr oa σ σ t v) := hD
  refine lv_aload_n hx hb dL_law_728 rfl (lv_at hl 2 rfl) ?_
  refine zc_i (va_runV (As := []) (rest := []) ⟨hx, hb, hml, hown, hts⟩ (c_X0_persons l G xa xr B σ hI) (cwV 0 hts gL_law_X0_persons rfl rfl rfl (by decide +kernel) ⟨Nat.le_of_ble_eq_true rfl, Nat.le_of_ble_eq_true rfl⟩) (preVX hK (b_x hP)) rfl rfl hl.1 rfl (lv_room (Nat.le_of_ble_eq_true rfl)) dL_law_729 ⟨by show _ ≤ 698866; omega, by show _ ≤ 6999506; omega⟩) ?_
  refine lv_aload_n hx hb dL_law_732 rfl (lv_at hl 3 rfl) ?_
  refine zc_wi (va_runV (As := []) (rest := [.int (iI ((σ.1 0 : Nat) : Int))]) ⟨hx, hb, hml, hown, hts⟩ (v_X1_persons l G ma mr _ B σ t hI) (cwV 0 hts gL_law_X1_persons rfl rfl rfl (by decide +kernel) ⟨Nat.le_of_ble_eq_true rfl, Nat.le_of_ble_eq_true rfl⟩) (preWM hK (b_m hP) (d_m hD)) rfl rfl hl.1 rfl (lv_room (Nat.le_of_ble_eq_true rfl)) dL_law_733 ⟨by show _ ≤ 698866; omega, by show _ ≤ 6999506; omega⟩) hS (a_m hD hS) (fun H locs hP1 hS _ hkk => ?_)
  have hP := j_m hP hD hP1 hkk
  have hD := d_mv hD σ σ 0 v
  refine lv_icmp_eq (tgt := 2000) hx hb dL_law_736 (by decide) (fun _ => ?_) (fun h => absurd rfl h)
  exact kk _ _ _ _ _ _ _ ⟨hP, hD, hS⟩ (by omega) (by omega) (lv_sub hl [0, 1, 2, 3, 4] rfl)
set_option maxHeartbeats 4000000 in
set_option maxRecDepth 100000 in
theorem k_slights (C : lC pg l s m args c G b L xs) (hP : lP G s xa xr ma mr oa σ t v H locs) (hc : cells + 32 ≤ 698866) (hs : slots + 256 ≤ 6999506) (hl : lv_has ls 9 [(4, .int (iI (ix : Int))), (0, .ref b), (1, .ref xa), (2, .ref ma), (3, .ref oa)]) (hix : ix + 3 < L) (B : Nat)  (hI : zI B σ) (kk : lK pg l e s m args below meth c G b xa xr ma mr oa ix cells slots Q σ) : W pg l e room_1 s m args below meth c H locs cells slots Q (F0 m 741 ls []) := by
  obtain ⟨hx, hb, hml, hown, hts, hfl, hK, hE0, hN, hX, hbl, hL⟩ := C
  obtain ⟨hP, hD, hS⟩ := hP
  have hP : va_P G.1 vwCl (V3 G xa xr ma mr oa σ σ t v) H := hP
  have hD : va_D (nA s.heap.size) (V3 G xa xr ma mr oa σ σ t v) := hD
  refine lv_aload_n hx hb dL_law_741 rfl (lv_at hl 2 rfl) ?_
  refine zc_i (va_runV (As := []) (rest := []) ⟨hx, hb, hml, hown, hts⟩ (c_X0_slights l G xa xr B σ hI) (cwV 0 hts gL_law_X0_slights rfl rfl rfl (by decide +kernel) ⟨Nat.le_of_ble_eq_true rfl, Nat.le_of_ble_eq_true rfl⟩) (preVX hK (b_x hP)) rfl rfl hl.1 rfl (lv_room (Nat.le_of_ble_eq_true rfl)) dL_law_742 ⟨by show _ ≤ 698866; omega, by show _ ≤ 6999506; omega⟩) ?_
  refine lv_aload_n hx hb dL_law_745 rfl (lv_at hl 3 rfl) ?_
  refine zc_wi (va_runV (As := []) (rest := [.int (iI ((σ.1 1 : Nat) : Int))]) ⟨hx, hb, hml, hown, hts⟩ (v_X1_slights l G ma mr _ B σ t hI) (cwV 0 hts gL_law_X1_slights rfl rfl rfl (by decide +kernel) ⟨Nat.le_of_ble_eq_true rfl, Nat.le_of_ble_eq_true rfl⟩) (preWM hK (b_m hP) (d_m hD)) rfl rfl hl.1 rfl (lv_room (Nat.le_of_ble_eq_true rfl)) dL_law_746 ⟨by show _ ≤ 698866; omega, by show _ ≤ 6999506; omega⟩) hS (a_m hD hS) (fun H locs hP1 hS _ hkk => ?_)
  have hP := j_m hP hD hP1 hkk
  have hD := d_mv hD σ σ 0 v
  refine lv_icmp_eq (tgt := 2000) hx hb dL_law_749 (by decide) (fun _ => ?_) (fun h => absurd rfl h)
  exact kk _ _ _ _ _ _ _ ⟨hP, hD, hS⟩ (by omega) (by omega) (lv_sub hl [0, 1, 2, 3, 4] rfl)
set_option maxHeartbeats 4000000 in
set_option maxRecDepth 100000 in
theorem k_inHall (C : lC pg l s m args c G b L xs) (hP : lP G s xa xr ma mr oa σ t v H locs) (hc : cells + 32 ≤ 698866) (hs : slots + 256 ≤ 6999506) (hl : lv_has ls 9 [(4, .int (iI (ix : Int))), (0, .ref b), (1, .ref xa), (2, .ref ma), (3, .ref oa)]) (hix : ix + 3 < L) (B : Nat)  (hI : zI B σ) (kk : lK pg l e s m args below meth c G b xa xr ma mr oa ix cells slots Q σ) : W pg l e room_1 s m args below meth c H locs cells slots Q (F0 m 754 ls []) := by
  obtain ⟨hx, hb, hml, hown, hts, hfl, hK, hE0, hN, hX, hbl, hL⟩ := C
  obtain ⟨hP, hD, hS⟩ := hP
  have hP : va_P G.1 vwCl (V3 G xa xr ma mr oa σ σ t v) H := hP
  have hD : va_D (nA s.heap.size) (V3 G xa xr ma mr oa σ σ t v) := hD
  refine lv_aload_n hx hb dL_law_754 rfl (lv_at hl 2 rfl) ?_
  refine zc_i (va_runV (As := []) (rest := []) ⟨hx, hb, hml, hown, hts⟩ (c_X0_inHall l G xa xr B σ hI) (cwV 0 hts gL_law_X0_inHall rfl rfl rfl (by decide +kernel) ⟨Nat.le_of_ble_eq_true rfl, Nat.le_of_ble_eq_true rfl⟩) (preVX hK (b_x hP)) rfl rfl hl.1 rfl (lv_room (Nat.le_of_ble_eq_true rfl)) dL_law_755 ⟨by show _ ≤ 698866; omega, by show _ ≤ 6999506; omega⟩) ?_
  refine lv_aload_n hx hb dL_law_758 rfl (lv_at hl 3 rfl) ?_
  refine zc_wi (va_runV (As := []) (rest := [.int (iI (inh σ))]) ⟨hx, hb, hml, hown, hts⟩ (v_X1_inHall l G ma mr _ B σ t hI) (cwV 0 hts gL_law_X1_inHall rfl rfl rfl (by decide +kernel) ⟨Nat.le_of_ble_eq_true rfl, Nat.le_of_ble_eq_true rfl⟩) (preWM hK (b_m hP) (d_m hD)) rfl rfl hl.1 rfl (lv_room (Nat.le_of_ble_eq_true rfl)) dL_law_759 ⟨by show _ ≤ 698866; omega, by show _ ≤ 6999506; omega⟩) hS (a_m hD hS) (fun H locs hP1 hS _ hkk => ?_)
  have hP := j_m hP hD hP1 hkk
  have hD := d_mv hD σ σ 0 v
  refine lv_icmp_eq (tgt := 2000) hx hb dL_law_762 (by decide) (fun _ => ?_) (fun h => absurd rfl h)
  exact kk _ _ _ _ _ _ _ ⟨hP, hD, hS⟩ (by omega) (by omega) (lv_sub hl [0, 1, 2, 3, 4] rfl)
set_option maxHeartbeats 4000000 in
set_option maxRecDepth 100000 in
theorem k_scorned (C : lC pg l s m args c G b L xs) (hP : lP G s xa xr ma mr oa σ t v H locs) (hc : cells + 32 ≤ 698866) (hs : slots + 256 ≤ 6999506) (hl : lv_has ls 9 [(4, .int (iI (ix : Int))), (0, .ref b), (1, .ref xa), (2, .ref ma), (3, .ref oa)]) (hix : ix + 3 < L) (B : Nat)  (hI : zI B σ) (kk : lK pg l e s m args below meth c G b xa xr ma mr oa ix cells slots Q σ) : W pg l e room_1 s m args below meth c H locs cells slots Q (F0 m 767 ls []) := by
  obtain ⟨hx, hb, hml, hown, hts, hfl, hK, hE0, hN, hX, hbl, hL⟩ := C
  obtain ⟨hP, hD, hS⟩ := hP
  have hP : va_P G.1 vwCl (V3 G xa xr ma mr oa σ σ t v) H := hP
  have hD : va_D (nA s.heap.size) (V3 G xa xr ma mr oa σ σ t v) := hD
  refine lv_aload_n hx hb dL_law_767 rfl (lv_at hl 2 rfl) ?_
  refine zc_i (va_runV (As := []) (rest := []) ⟨hx, hb, hml, hown, hts⟩ (c_X0_scorned l G xa xr B σ hI) (cwV 0 hts gL_law_X0_scorned rfl rfl rfl (by decide +kernel) ⟨Nat.le_of_ble_eq_true rfl, Nat.le_of_ble_eq_true rfl⟩) (preVX hK (b_x hP)) rfl rfl hl.1 rfl (lv_room (Nat.le_of_ble_eq_true rfl)) dL_law_768 ⟨by show _ ≤ 698866; omega, by show _ ≤ 6999506; omega⟩) ?_
  refine lv_aload_n hx hb dL_law_771 rfl (lv_at hl 3 rfl) ?_
  refine zc_wi (va_runV (As := []) (rest := [.int (iI ((σ.1 3 : Nat) : Int))]) ⟨hx, hb, hml, hown, hts⟩ (v_X1_scorned l G ma mr _ B σ t hI) (cwV 0 hts gL_law_X1_scorned rfl rfl rfl (by decide +kernel) ⟨Nat.le_of_ble_eq_true rfl, Nat.le_of_ble_eq_true rfl⟩) (preWM hK (b_m hP) (d_m hD)) rfl rfl hl.1 rfl (lv_room (Nat.le_of_ble_eq_true rfl)) dL_law_772 ⟨by show _ ≤ 698866; omega, by show _ ≤ 6999506; omega⟩) hS (a_m hD hS) (fun H locs hP1 hS _ hkk => ?_)
  have hP := j_m hP hD hP1 hkk
  have hD := d_mv hD σ σ 0 v
  refine lv_icmp_eq (tgt := 2000) hx hb dL_law_775 (by decide) (fun _ => ?_) (fun h => absurd rfl h)
  exact kk _ _ _ _ _ _ _ ⟨hP, hD, hS⟩ (by omega) (by omega) (lv_sub hl [0, 1, 2, 3, 4] rfl)
set_option maxHeartbeats 4000000 in
set_option maxRecDepth 100000 in
theorem k_sorest (C : lC pg l s m args c G b L xs) (hP : lP G s xa xr ma mr oa σ t v H locs) (hc : cells + 32 ≤ 698866) (hs : slots + 256 ≤ 6999506) (hl : lv_has ls 9 [(4, .int (iI (ix : Int))), (0, .ref b), (1, .ref xa), (2, .ref ma), (3, .ref oa)]) (hix : ix + 3 < L) (B : Nat)  (hI : zI B σ) (kk : lK pg l e s m args below meth c G b xa xr ma mr oa ix cells slots Q σ) : W pg l e room_1 s m args below meth c H locs cells slots Q (F0 m 1079 ls []) := by
  obtain ⟨hx, hb, hml, hown, hts, hfl, hK, hE0, hN, hX, hbl, hL⟩ := C
  obtain ⟨hP, hD, hS⟩ := hP
  have hP : va_P G.1 vwCl (V3 G xa xr ma mr oa σ σ t v) H := hP
  have hD : va_D (nA s.heap.size) (V3 G xa xr ma mr oa σ σ t v) := hD
  refine lv_aload_n hx hb dL_law_1079 rfl (lv_at hl 2 rfl) ?_
  refine zc_i (va_runV (As := []) (rest := []) ⟨hx, hb, hml, hown, hts⟩ (c_X0_sorest l G xa xr B σ hI) (cwV 0 hts gL_law_X0_sorest rfl rfl rfl (by decide +kernel) ⟨Nat.le_of_ble_eq_true rfl, Nat.le_of_ble_eq_true rfl⟩) (preVX hK (b_x hP)) rfl rfl hl.1 rfl (lv_room (Nat.le_of_ble_eq_true rfl)) dL_law_1080 ⟨by show _ ≤ 698866; omega, by show _ ≤ 6999506; omega⟩) ?_
  refine lv_aload_n hx hb dL_law_1083 rfl (lv_at hl 3 rfl) ?_
  refine zc_wi (va_runV (As := []) (rest := [.int (iI (sor σ))]) ⟨hx, hb, hml, hown, hts⟩ (v_X1_sorest l G ma mr _ B σ t hI) (cwV 0 hts gL_law_X1_sorest rfl rfl rfl (by decide +kernel) ⟨Nat.le_of_ble_eq_true rfl, Nat.le_of_ble_eq_true rfl⟩) (preWM hK (b_m hP) (d_m hD)) rfl rfl hl.1 rfl (lv_room (Nat.le_of_ble_eq_true rfl)) dL_law_1084 ⟨by show _ ≤ 698866; omega, by show _ ≤ 6999506; omega⟩) hS (a_m hD hS) (fun H locs hP1 hS _ hkk => ?_)
  have hP := j_m hP hD hP1 hkk
  have hD := d_mv hD σ σ 0 v
  refine lv_icmp_eq (tgt := 2000) hx hb dL_law_1087 (by decide) (fun _ => ?_) (fun h => absurd rfl h)
  exact kk _ _ _ _ _ _ _ ⟨hP, hD, hS⟩ (by omega) (by omega) (lv_sub hl [0, 1, 2, 3, 4] rfl)
set_option maxHeartbeats 4000000 in
set_option maxRecDepth 100000 in
theorem k_heaviest (C : lC pg l s m args c G b L xs) (hP : lP G s xa xr ma mr oa σ t v H locs) (hc : cells + 32 ≤ 698866) (hs : slots + 256 ≤ 6999506) (hl : lv_has ls 9 [(4, .int (iI (ix : Int))), (0, .ref b), (1, .ref xa), (2, .ref ma), (3, .ref oa)]) (hix : ix + 3 < L) (B : Nat)  (hI : zI B σ) (kk : lK pg l e s m args below meth c G b xa xr ma mr oa ix cells slots Q σ) : W pg l e room_1 s m args below meth c H locs cells slots Q (F0 m 1540 ls []) := by
  obtain ⟨hx, hb, hml, hown, hts, hfl, hK, hE0, hN, hX, hbl, hL⟩ := C
  obtain ⟨hP, hD, hS⟩ := hP
  have hP : va_P G.1 vwCl (V3 G xa xr ma mr oa σ σ t v) H := hP
  have hD : va_D (nA s.heap.size) (V3 G xa xr ma mr oa σ σ t v) := hD
  refine lv_aload_n hx hb dL_law_1540 rfl (lv_at hl 2 rfl) ?_
  refine zc_i (va_runV (As := []) (rest := []) ⟨hx, hb, hml, hown, hts⟩ (c_X0_heaviest l G xa xr B σ hI) (cwV 0 hts gL_law_X0_heaviest rfl rfl rfl (by decide +kernel) ⟨Nat.le_of_ble_eq_true rfl, Nat.le_of_ble_eq_true rfl⟩) (preVX hK (b_x hP)) rfl rfl hl.1 rfl (lv_room (Nat.le_of_ble_eq_true rfl)) dL_law_1541 ⟨by show _ ≤ 698866; omega, by show _ ≤ 6999506; omega⟩) ?_
  refine lv_aload_n hx hb dL_law_1544 rfl (lv_at hl 3 rfl) ?_
  refine zc_wi (va_runV (As := []) (rest := [.int (iI (hea σ))]) ⟨hx, hb, hml, hown, hts⟩ (v_X1_heaviest l G ma mr _ B σ t hI) (cwV 0 hts gL_law_X1_heaviest rfl rfl rfl (by decide +kernel) ⟨Nat.le_of_ble_eq_true rfl, Nat.le_of_ble_eq_true rfl⟩) (preWM hK (b_m hP) (d_m hD)) rfl rfl hl.1 rfl (lv_room (Nat.le_of_ble_eq_true rfl)) dL_law_1545 ⟨by show _ ≤ 698866; omega, by show _ ≤ 6999506; omega⟩) hS (a_m hD hS) (fun H locs hP1 hS _ hkk => ?_)
  have hP := j_m hP hD hP1 hkk
  have hD := d_mv hD σ σ 0 v
  refine lv_icmp_eq (tgt := 2000) hx hb dL_law_1548 (by decide) (fun _ => ?_) (fun h => absurd rfl h)
  exact kk _ _ _ _ _ _ _ ⟨hP, hD, hS⟩ (by omega) (by omega) (lv_sub hl [0, 1, 2, 3, 4] rfl)
set_option maxHeartbeats 4000000 in
set_option maxRecDepth 100000 in
theorem k_pairsToSetOff (C : lC pg l s m args c G b L xs) (hP : lP G s xa xr ma mr oa σ t v H locs) (hc : cells + 32 ≤ 698866) (hs : slots + 256 ≤ 6999506) (hl : lv_has ls 9 [(4, .int (iI (ix : Int))), (0, .ref b), (1, .ref xa), (2, .ref ma), (3, .ref oa)]) (hix : ix + 3 < L) (B : Nat)  (hI : zI B σ) (kk : lK pg l e s m args below meth c G b xa xr ma mr oa ix cells slots Q σ) : W pg l e room_1 s m args below meth c H locs cells slots Q (F0 m 1553 ls []) := by
  obtain ⟨hx, hb, hml, hown, hts, hfl, hK, hE0, hN, hX, hbl, hL⟩ := C
  obtain ⟨hP, hD, hS⟩ := hP
  have hP : va_P G.1 vwCl (V3 G xa xr ma mr oa σ σ t v) H := hP
  have hD : va_D (nA s.heap.size) (V3 G xa xr ma mr oa σ σ t v) := hD
  refine lv_aload_n hx hb dL_law_1553 rfl (lv_at hl 2 rfl) ?_
  refine zc_i (va_runV (As := []) (rest := []) ⟨hx, hb, hml, hown, hts⟩ (c_X0_pairsToSetOff l G xa xr B σ hI) (cwV 0 hts gL_law_X0_pairsToSetOff rfl rfl rfl (by decide +kernel) ⟨Nat.le_of_ble_eq_true rfl, Nat.le_of_ble_eq_true rfl⟩) (preVX hK (b_x hP)) rfl rfl hl.1 rfl (lv_room (Nat.le_of_ble_eq_true rfl)) dL_law_1554 ⟨by show _ ≤ 698866; omega, by show _ ≤ 6999506; omega⟩) ?_
  refine lv_aload_n hx hb dL_law_1557 rfl (lv_at hl 3 rfl) ?_
  refine zc_wi (va_runV (As := []) (rest := [.int (iI (pai σ))]) ⟨hx, hb, hml, hown, hts⟩ (v_X1_pairsToSetOff l G ma mr _ B σ t hI) (cwV 0 hts gL_law_X1_pairsToSetOff rfl rfl rfl (by decide +kernel) ⟨Nat.le_of_ble_eq_true rfl, Nat.le_of_ble_eq_true rfl⟩) (preWM hK (b_m hP) (d_m hD)) rfl rfl hl.1 rfl (lv_room (Nat.le_of_ble_eq_true rfl)) dL_law_1558 ⟨by show _ ≤ 698866; omega, by show _ ≤ 6999506; omega⟩) hS (a_m hD hS) (fun H locs hP1 hS _ hkk => ?_)
  have hP := j_m hP hD hP1 hkk
  have hD := d_mv hD σ σ 0 v
  refine lv_icmp_eq (tgt := 2000) hx hb dL_law_1561 (by decide) (fun _ => ?_) (fun h => absurd rfl h)
  exact kk _ _ _ _ _ _ _ ⟨hP, hD, hS⟩ (by omega) (by omega) (lv_sub hl [0, 1, 2, 3, 4] rfl)
set_option maxHeartbeats 4000000 in
set_option maxRecDepth 100000 in
theorem k_meanWeight (C : lC pg l s m args c G b L xs) (hP : lP G s xa xr ma mr oa σ t v H locs) (hc : cells + 32 ≤ 698866) (hs : slots + 256 ≤ 6999506) (hl : lv_has ls 9 [(4, .int (iI (ix : Int))), (0, .ref b), (1, .ref xa), (2, .ref ma), (3, .ref oa)]) (hix : ix + 3 < L) (B : Nat)  (hI : zI B σ) (kk : lK pg l e s m args below meth c G b xa xr ma mr oa ix cells slots Q σ) : W pg l e room_1 s m args below meth c H locs cells slots Q (F0 m 1945 ls []) := by
  obtain ⟨hx, hb, hml, hown, hts, hfl, hK, hE0, hN, hX, hbl, hL⟩ := C
  obtain ⟨hP, hD, hS⟩ := hP
  have hP : va_P G.1 vwCl (V3 G xa xr ma mr oa σ σ t v) H := hP
  have hD : va_D (nA s.heap.size) (V3 G xa xr ma mr oa σ σ t v) := hD
  refine lv_aload_n hx hb dL_law_1945 rfl (lv_at hl 2 rfl) ?_
  refine zc_d (va_runV (As := []) (rest := []) ⟨hx, hb, hml, hown, hts⟩ (c_X0_meanWeight l G xa xr B σ hI) (cwV 0 hts gL_law_X0_meanWeight rfl rfl rfl (by decide +kernel) ⟨Nat.le_of_ble_eq_true rfl, Nat.le_of_ble_eq_true rfl⟩) (preVX hK (b_x hP)) rfl rfl hl.1 rfl (lv_room (Nat.le_of_ble_eq_true rfl)) dL_law_1946 ⟨by show _ ≤ 698866; omega, by show _ ≤ 6999506; omega⟩) ?_
  refine lv_dstore (lv' := [(5, .double (mea σ)), (4, .int (iI (ix : Int))), (0, .ref b), (1, .ref xa), (2, .ref ma), (3, .ref oa)]) hx hb dL_law_1949 hl (by decide) rfl (fun ls hl => ?_)
  refine lv_aload_n hx hb dL_law_1951 rfl (lv_at hl 4 rfl) ?_
  refine zc_wd (va_runV (As := []) (rest := []) ⟨hx, hb, hml, hown, hts⟩ (v_X1_meanWeight l G ma mr _ B σ t hI) (cwV 0 hts gL_law_X1_meanWeight rfl rfl rfl (by decide +kernel) ⟨Nat.le_of_ble_eq_true rfl, Nat.le_of_ble_eq_true rfl⟩) (preWM hK (b_m hP) (d_m hD)) rfl rfl hl.1 rfl (lv_room (Nat.le_of_ble_eq_true rfl)) dL_law_1952 ⟨by show _ ≤ 698866; omega, by show _ ≤ 6999506; omega⟩) hS (a_m hD hS) (fun H locs hP1 hS _ hkk => ?_)
  have hP := j_m hP hD hP1 hkk
  have hD := d_mv hD σ σ 0 v
  refine lv_dstore (lv' := [(7, .double (mea σ)), (5, .double (mea σ)), (4, .int (iI (ix : Int))), (0, .ref b), (1, .ref xa), (2, .ref ma), (3, .ref oa)]) hx hb dL_law_1955 hl (by decide) rfl (fun ls hl => ?_)
  refine lv_dload hx hb dL_law_1957 (lv_at hl 1 rfl) ?_
  refine lv_dload hx hb dL_law_1959 (lv_at hl 0 rfl) ?_
  refine lv_dcmp hx hb dL_law_1961 ?_
  refine lv_if_eq (tgt := 1983) hx hb dL_law_1962 (by decide) (fun _ => ?_) (fun hz => ?_)
  ·
    refine lv_goto (tgt := 2000) hx hb dL_law_1983 (by decide) ?_
    exact kk _ _ _ _ _ _ _ ⟨hP, hD, hS⟩ (by omega) (by omega) (lv_sub hl [2, 3, 4, 5, 6] rfl)
  ·
    refine lv_dload hx hb dL_law_1965 (lv_at hl 1 rfl) ?_
    refine lv_dload hx hb dL_law_1967 (lv_at hl 1 rfl) ?_
    refine lv_dcmp hx hb dL_law_1969 ?_
    refine lv_if_eq (tgt := 1981) hx hb dL_law_1970 (by decide) (fun h => absurd h hz) (fun _ => ?_)
    refine lv_dload hx hb dL_law_1973 (lv_at hl 0 rfl) ?_
    refine lv_dload hx hb dL_law_1975 (lv_at hl 0 rfl) ?_
    refine lv_dcmp hx hb dL_law_1977 ?_
    refine lv_if_ne (tgt := 1983) hx hb dL_law_1978 (by decide) (fun _ => ?_) (fun h => absurd h hz)
    refine lv_goto (tgt := 2000) hx hb dL_law_1983 (by decide) ?_
    exact kk _ _ _ _ _ _ _ ⟨hP, hD, hS⟩ (by omega) (by omega) (lv_sub hl [2, 3, 4, 5, 6] rfl)
set_option maxHeartbeats 4000000 in
set_option maxRecDepth 100000 in
theorem k_digest (C : lC pg l s m args c G b L xs) (hP : lP G s xa xr ma mr oa σ t v H locs) (hc : cells + 32 ≤ 698866) (hs : slots + 256 ≤ 6999506) (hl : lv_has ls 9 [(4, .int (iI (ix : Int))), (0, .ref b), (1, .ref xa), (2, .ref ma), (3, .ref oa)]) (hix : ix + 3 < L) (B : Nat)  (hI : zI B σ) (kk : lK pg l e s m args below meth c G b xa xr ma mr oa ix cells slots Q σ) : W pg l e room_1 s m args below meth c H locs cells slots Q (F0 m 1986 ls []) := by
  obtain ⟨hx, hb, hml, hown, hts, hfl, hK, hE0, hN, hX, hbl, hL⟩ := C
  obtain ⟨hP, hD, hS⟩ := hP
  have hP : va_P G.1 vwCl (V3 G xa xr ma mr oa σ σ t v) H := hP
  have hD : va_D (nA s.heap.size) (V3 G xa xr ma mr oa σ σ t v) := hD
  refine lv_aload_n hx hb dL_law_1986 rfl (lv_at hl 2 rfl) ?_
  refine zc_l (va_runV (As := []) (rest := []) ⟨hx, hb, hml, hown, hts⟩ (c_X0_digest l G xa xr B σ hI) (cwV 0 hts gL_law_X0_digest rfl rfl rfl (by decide +kernel) ⟨Nat.le_of_ble_eq_true rfl, Nat.le_of_ble_eq_true rfl⟩) (preVX hK (b_x hP)) rfl rfl hl.1 rfl (lv_room (Nat.le_of_ble_eq_true rfl)) dL_law_1987 ⟨by show _ ≤ 698866; omega, by show _ ≤ 6999506; omega⟩) ?_
  refine lv_aload_n hx hb dL_law_1990 rfl (lv_at hl 3 rfl) ?_
  refine zc_wl (va_runV (As := []) (rest := [.long (dig σ)]) ⟨hx, hb, hml, hown, hts⟩ (v_X1_digest l G ma mr _ B σ t hI) (cwV 0 hts gL_law_X1_digest rfl rfl rfl (by decide +kernel) ⟨Nat.le_of_ble_eq_true rfl, Nat.le_of_ble_eq_true rfl⟩) (preWM hK (b_m hP) (d_m hD)) rfl rfl hl.1 rfl (lv_room (Nat.le_of_ble_eq_true rfl)) dL_law_1991 ⟨by show _ ≤ 698866; omega, by show _ ≤ 6999506; omega⟩) hS (a_m hD hS) (fun H locs hP1 hS _ hkk => ?_)
  have hP := j_m hP hD hP1 hkk
  have hD := d_mv hD σ σ 0 v
  refine z_leq (tgt := 2000) hx hb rfl dL_law_1994 dL_law_1995 (by decide) ?_
  exact kk _ _ _ _ _ _ _ ⟨hP, hD, hS⟩ (by omega) (by omega) (lv_sub hl [0, 1, 2, 3, 4] rfl)
end K3
