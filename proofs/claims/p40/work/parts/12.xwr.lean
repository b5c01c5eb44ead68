/-! WRITES of ApologyLedger with what they may be asked. -/
set_option maxHeartbeats 4000000 in
set_option maxRecDepth 100000 in
theorem c_X0_close (l : Launch) (G : zG) (x : Nat) (a : Nat → Nat) (sz : Nat) (σ : zS) (k : Nat) (q : Int) (hn : σ.1 1 ≤ 20) (hk : k < σ.1 1) : Met l yX0_close wsX0_close ({ frames := 1, cells := 0, slots := 0, locals := 21 } : Room) (va_Pc [.ref x, .int (iI (k : Int)), .int (iI q)] (wX G x a σ sz)) (va_Qv (fun (_ : Unit) => True) (fun _ t9 => va_P G.1 vwCl (xW G x a (clo σ k q)) t9.heap) (zA x a sz)) 0 0 (zA x a sz) := by
  refine Met.ofW (cc := cX0_close) (maxL := 3) (ret := none) (by decide) rfl ?_
  intro pp ee s m args below meth c s₁ B9 hml hv
  obtain ⟨rfl, hsz, hP, hK, hD0⟩ := hv
  subst hsz
  have hD := xW_zA (sz := s.heap.size) hD0
  have hS : va_S (zA x a s.heap.size) s.heap s.heap [] := va_S.rf
  have hx := B9.exec
  have hb := B9.bytes
  have hr := B9.returns
  have hts := atoms_spec (ws := wsX0_close) B9.pre
  have hown : s.vm.findClass RX0 = some m.cls := findClass_of_methodNamed B9.named
  have hlocks := B9.notSynchronized
  have hin0 : ∀ w ∈ wsX00, w ∈ wsX0_close := by decide +kernel
  have w_0 := hts (.fieldLink RX0 26 "ApologyLedger" "states" "[I") (by decide +kernel)
  have w_1 := hts (.fieldLink RX0 23 "ApologyLedger" "weights" "[I") (by decide +kernel)
  have hl := lv_entry ([.ref x, .int (iI (k : Int)), .int (iI q)]) (n := 3) (Nat.le_of_ble_eq_true rfl)
  rw [lg_entry_eq]
  generalize (lg_sl ([.ref x, .int (iI (k : Int)), .int (iI q)]) ++ List.replicate (3 - (lg_sl ([.ref x, .int (iI (k : Int)), .int (iI q)])).length) Slot.unset).toArray = ls at hl ⊢
  have hl : lv_has ls 3 [(0, .ref x), (1, .int (iI (k : Int))), (2, .int (iI q))] := hl
  refine lv_aload_n hx hb dX0_close_0 rfl (lv_at hl 0 rfl) ?_
  refine lv_iload_n hx hb dX0_close_1 rfl (lv_at hl 1 rfl) ?_
  refine zc_v (va_runV (As := [.int (iI (k : Int))]) (rest := []) ⟨hx, hb, hml, hown, hts⟩ (c_X0_requireSlight l G x a σ k (by omega) (by omega)) (cwV 1 hts gX0_close_X0_requireSlight rfl rfl rfl (by decide +kernel) ⟨Nat.le_of_ble_eq_true rfl, Nat.le_of_ble_eq_true rfl⟩) (preVX hK hP) rfl rfl hl.1 rfl (lv_room (Nat.le_of_ble_eq_true rfl)) dX0_close_2 ⟨Nat.le_of_ble_eq_true rfl, Nat.le_of_ble_eq_true rfl⟩) ?_
  refine lv_aload_n hx hb dX0_close_5 rfl (lv_at hl 0 rfl) ?_
  refine x_get (v := .ref (a 5)) hx hb hts hin0 hown hK hP 0 rfl 6 (by decide) w_0 rfl dX0_close_6 ?_
  refine lv_iload_n hx hb dX0_close_9 rfl (lv_at hl 1 rfl) ?_
  refine lv_iload_n hx hb dX0_close_10 rfl (lv_at hl 2 rfl) ?_
  refine z_iast hx hb hK hP hD hS 6 0 rfl rfl (k := k) (by omega) (by decide) xW_set5 dX0_close_11 (fun H locs hP hD hS => ?_)
  refine lv_aload_n hx hb dX0_close_12 rfl (lv_at hl 0 rfl) ?_
  refine x_get (v := .ref (a 4)) hx hb hts hin0 hown hK hP 0 rfl 5 (by decide) w_1 rfl dX0_close_13 ?_
  refine lv_iload_n hx hb dX0_close_16 rfl (lv_at hl 1 rfl) ?_
  refine lv_iconst (v := iI 0) hx hb dX0_close_17 rfl ?_
  refine z_iast hx hb hK hP hD hS 5 0 rfl rfl (k := k) (by omega) (by decide) xW_set4 dX0_close_18 (fun H locs hP hD hS => ?_)
  have hfin : (stA (stA σ 5 k q) 4 k 0) = clo σ k q := by rfl
  rw [hfin] at hP
  exact W.vret hx hb hr (fun t ht hW => ⟨⟨(), rfl, trivial, (by show va_P _ _ _ t.heap; rw [ht]; exact hP)⟩, hS.F ht⟩) hS.2.2 dX0_close_19
set_option maxHeartbeats 4000000 in
set_option maxRecDepth 100000 in
theorem c_X0_speakOf (l : Launch) (G : zG) (x : Nat) (a : Nat → Nat) (sz : Nat) (σ : zS) (k : Nat) (hn : σ.1 1 ≤ 20) (hk : k < σ.1 1) (hw : 0 ≤ σ.2 4 k ∧ σ.2 4 k ≤ 99) : Met l yX0_speakOf wsX0_speakOf ({ frames := 1, cells := 0, slots := 0, locals := 24 } : Room) (va_Pc [.ref x, .int (iI (k : Int))] (wX G x a σ sz)) (va_Qv (fun (_ : Unit) => True) (fun _ t9 => va_P G.1 vwCl (xW G x a (spk σ k)) t9.heap) (zA x a sz)) 0 0 (zA x a sz) := by
  refine Met.ofW (cc := cX0_speakOf) (maxL := 2) (ret := none) (by decide) rfl ?_
  intro pp ee s m args below meth c s₁ B9 hml hv
  obtain ⟨rfl, hsz, hP, hK, hD0⟩ := hv
  subst hsz
  have hD := xW_zA (sz := s.heap.size) hD0
  have hS : va_S (zA x a s.heap.size) s.heap s.heap [] := va_S.rf
  have hx := B9.exec
  have hb := B9.bytes
  have hr := B9.returns
  have hts := atoms_spec (ws := wsX0_speakOf) B9.pre
  have hown : s.vm.findClass RX0 = some m.cls := findClass_of_methodNamed B9.named
  have hlocks := B9.notSynchronized
  have hin0 : ∀ w ∈ wsX00, w ∈ wsX0_speakOf := by decide +kernel
  have w_0 := hts (.fieldLink RX0 23 "ApologyLedger" "weights" "[I") (by decide +kernel)
  have w_1 := hts (.methodLink RX0 98 Lib.Math.min.name) (by decide +kernel)
  have w_2 := hts (.static Lib.Math.min.name) (by decide +kernel)
  have w_3 := hts (.initialized "java/lang/Math") (by decide +kernel)
  have w_4 := hts (.code Lib.Math.min.name Lib.Math.min.code 2 (some .int)) (by decide +kernel)
  have w_5 := hts (.fieldLink RX0 32 "ApologyLedger" "daysQuiet" "[I") (by decide +kernel)
  have hl := lv_entry ([.ref x, .int (iI (k : Int))]) (n := 2) (Nat.le_of_ble_eq_true rfl)
  rw [lg_entry_eq]
  generalize (lg_sl ([.ref x, .int (iI (k : Int))]) ++ List.replicate (2 - (lg_sl ([.ref x, .int (iI (k : Int))])).length) Slot.unset).toArray = ls at hl ⊢
  have hl : lv_has ls 2 [(0, .ref x), (1, .int (iI (k : Int)))] := hl
  refine lv_aload_n hx hb dX0_speakOf_0 rfl (lv_at hl 0 rfl) ?_
  refine lv_iload_n hx hb dX0_speakOf_1 rfl (lv_at hl 1 rfl) ?_
  refine zc_v (va_runV (As := [.int (iI (k : Int))]) (rest := []) ⟨hx, hb, hml, hown, hts⟩ (c_X0_requireSlight l G x a σ k (by omega) (by omega)) (cwV 1 hts gX0_speakOf_X0_requireSlight rfl rfl rfl (by decide +kernel) ⟨Nat.le_of_ble_eq_true rfl, Nat.le_of_ble_eq_true rfl⟩) (preVX hK hP) rfl rfl hl.1 rfl (lv_room (Nat.le_of_ble_eq_true rfl)) dX0_speakOf_2 ⟨Nat.le_of_ble_eq_true rfl, Nat.le_of_ble_eq_true rfl⟩) ?_
  refine lv_aload_n hx hb dX0_speakOf_5 rfl (lv_at hl 0 rfl) ?_
  refine x_get (v := .ref (a 4)) hx hb hts hin0 hown hK hP 0 rfl 5 (by decide) w_0 rfl dX0_speakOf_6 ?_
  refine lv_iload_n hx hb dX0_speakOf_9 rfl (lv_at hl 1 rfl) ?_
  refine lv_aload_n hx hb dX0_speakOf_10 rfl (lv_at hl 0 rfl) ?_
  refine x_get (v := .ref (a 4)) hx hb hts hin0 hown hK hP 0 rfl 5 (by decide) w_0 rfl dX0_speakOf_11 ?_
  refine lv_iload_n hx hb dX0_speakOf_14 rfl (lv_at hl 1 rfl) ?_
  refine z_iald (v := iI (σ.2 4 k)) hx hb hK hP 5 0 rfl rfl (k := k) (by omega) (by decide) rfl dX0_speakOf_15 ?_
  refine lv_iconst (v := iI 1) hx hb dX0_speakOf_16 rfl ?_
  refine z_iadd hx hb dX0_speakOf_17 ?_
  refine lv_bipush (v := iI 99) hx hb dX0_speakOf_18 (by decide) ?_
  refine z_min hx hb (by rw [hml]; exact hl.1.symm) hown w_1 w_2 w_3 w_4 (Nat.le_of_ble_eq_true rfl) (Nat.le_of_ble_eq_true rfl) (Nat.le_of_ble_eq_true rfl) (Nat.le_of_ble_eq_true rfl) (by omega) (by omega) dX0_speakOf_20 ?_
  refine z_iast hx hb hK hP hD hS 5 0 rfl rfl (k := k) (by omega) (by decide) xW_set4 dX0_speakOf_23 (fun H locs hP hD hS => ?_)
  refine lv_aload_n hx hb dX0_speakOf_24 rfl (lv_at hl 0 rfl) ?_
  refine x_get (v := .ref (a 7)) hx hb hts hin0 hown hK hP 0 rfl 8 (by decide) w_5 rfl dX0_speakOf_25 ?_
  refine lv_iload_n hx hb dX0_speakOf_28 rfl (lv_at hl 1 rfl) ?_
  refine lv_iconst (v := iI 0) hx hb dX0_speakOf_29 rfl ?_
  refine z_iast hx hb hK hP hD hS 8 0 rfl rfl (k := k) (by omega) (by decide) xW_set7 dX0_speakOf_30 (fun H locs hP hD hS => ?_)
  have hfin : (stA (stA σ 4 k (min ((σ.2 4 k) + 1) 99)) 7 k 0) = spk σ k := by rfl
  rw [hfin] at hP
  exact W.vret hx hb hr (fun t ht hW => ⟨⟨(), rfl, trivial, (by show va_P _ _ _ t.heap; rw [ht]; exact hP)⟩, hS.F ht⟩) hS.2.2 dX0_speakOf_31
set_option maxHeartbeats 4000000 in
set_option maxRecDepth 100000 in
theorem c_X0_lighten (l : Launch) (G : zG) (x : Nat) (a : Nat → Nat) (sz : Nat) (σ : zS) (k : Nat) (d : Int) (q : Int) (hn : σ.1 1 ≤ 20) (hk : k < σ.1 1) (hw : 0 ≤ σ.2 4 k ∧ σ.2 4 k ≤ 99) (hd : 0 ≤ d ∧ d ≤ 1000) : Met l yX0_lighten wsX0_lighten ({ frames := 2, cells := 0, slots := 0, locals := 43 } : Room) (va_Pc [.ref x, .int (iI (k : Int)), .int (iI d), .int (iI q)] (wX G x a σ sz)) (va_Qv (fun (_ : Unit) => True) (fun _ t9 => va_P G.1 vwCl (xW G x a (lit σ k d q)) t9.heap) (zA x a sz)) 0 0 (zA x a sz) := by
  refine Met.ofW (cc := cX0_lighten) (maxL := 5) (ret := none) (by decide) rfl ?_
  intro pp ee s m args below meth c s₁ B9 hml hv
  obtain ⟨rfl, hsz, hP, hK, hD0⟩ := hv
  subst hsz
  have hD := xW_zA (sz := s.heap.size) hD0
  have hS : va_S (zA x a s.heap.size) s.heap s.heap [] := va_S.rf
  have hx := B9.exec
  have hb := B9.bytes
  have hr := B9.returns
  have hts := atoms_spec (ws := wsX0_lighten) B9.pre
  have hown : s.vm.findClass RX0 = some m.cls := findClass_of_methodNamed B9.named
  have hlocks := B9.notSynchronized
  have hin0 : ∀ w ∈ wsX00, w ∈ wsX0_lighten := by decide +kernel
  have w_0 := hts (.fieldLink RX0 23 "ApologyLedger" "weights" "[I") (by decide +kernel)
  have hl := lv_entry ([.ref x, .int (iI (k : Int)), .int (iI d), .int (iI q)]) (n := 5) (Nat.le_of_ble_eq_true rfl)
  rw [lg_entry_eq]
  generalize (lg_sl ([.ref x, .int (iI (k : Int)), .int (iI d), .int (iI q)]) ++ List.replicate (5 - (lg_sl ([.ref x, .int (iI (k : Int)), .int (iI d), .int (iI q)])).length) Slot.unset).toArray = ls at hl ⊢
  have hl : lv_has ls 5 [(0, .ref x), (1, .int (iI (k : Int))), (2, .int (iI d)), (3, .int (iI q))] := hl
  refine lv_aload_n hx hb dX0_lighten_0 rfl (lv_at hl 0 rfl) ?_
  refine lv_iload_n hx hb dX0_lighten_1 rfl (lv_at hl 1 rfl) ?_
  refine zc_v (va_runV (As := [.int (iI (k : Int))]) (rest := []) ⟨hx, hb, hml, hown, hts⟩ (c_X0_requireSlight l G x a σ k (by omega) (by omega)) (cwV 1 hts gX0_lighten_X0_requireSlight rfl rfl rfl (by decide +kernel) ⟨Nat.le_of_ble_eq_true rfl, Nat.le_of_ble_eq_true rfl⟩) (preVX hK hP) rfl rfl hl.1 rfl (lv_room (Nat.le_of_ble_eq_true rfl)) dX0_lighten_2 ⟨Nat.le_of_ble_eq_true rfl, Nat.le_of_ble_eq_true rfl⟩) ?_
  refine lv_aload_n hx hb dX0_lighten_5 rfl (lv_at hl 0 rfl) ?_
  refine x_get (v := .ref (a 4)) hx hb hts hin0 hown hK hP 0 rfl 5 (by decide) w_0 rfl dX0_lighten_6 ?_
  refine lv_iload_n hx hb dX0_lighten_9 rfl (lv_at hl 1 rfl) ?_
  refine z_iald (v := iI (σ.2 4 k)) hx hb hK hP 5 0 rfl rfl (k := k) (by omega) (by decide) rfl dX0_lighten_10 ?_
  refine lv_iload_n hx hb dX0_lighten_11 rfl (lv_at hl 2 rfl) ?_
  refine z_isub hx hb dX0_lighten_12 ?_
  refine lv_istore (lv' := [(4, .int (iI ((σ.2 4 k) - d))), (0, .ref x), (1, .int (iI (k : Int))), (2, .int (iI d)), (3, .int (iI q))]) hx hb dX0_lighten_13 hl (by decide) rfl (fun ls hl => ?_)
  refine lv_iload hx hb dX0_lighten_15 (lv_at hl 0 rfl) ?_
  refine z_if_le (tgt := 31) hx hb dX0_lighten_17 (by decide) (by omega) (fun c_1 => ?_) (fun c_1 => ?_)
  ·
    refine lv_aload_n hx hb dX0_lighten_31 rfl (lv_at hl 1 rfl) ?_
    refine lv_iload_n hx hb dX0_lighten_32 rfl (lv_at hl 2 rfl) ?_
    refine lv_iload_n hx hb dX0_lighten_33 rfl (lv_at hl 4 rfl) ?_
    refine zc_wv (va_runV (As := [.int (iI (k : Int)), .int (iI q)]) (rest := []) ⟨hx, hb, hml, hown, hts⟩ (c_X0_close l G x a _ σ k q (by omega) (by omega)) (cwV 2 hts gX0_lighten_X0_close rfl rfl rfl (by decide +kernel) ⟨Nat.le_of_ble_eq_true rfl, Nat.le_of_ble_eq_true rfl⟩) (preWX hK hP hD) rfl rfl hl.1 rfl (lv_room (Nat.le_of_ble_eq_true rfl)) dX0_lighten_34 ⟨Nat.le_of_ble_eq_true rfl, Nat.le_of_ble_eq_true rfl⟩) hS (fun q h => zA_mono hS.1 h) (fun H locs hP hS _ _ => ?_)
    have hD := xW_D (σ' := (clo σ k q)) hD
    have hfin : (clo σ k q) = lit σ k d q := by first | exact (if_pos (by omega)).symm | exact (if_neg (by omega)).symm
    rw [hfin] at hP
    exact W.vret hx hb hr (fun t ht hW => ⟨⟨(), rfl, trivial, (by show va_P _ _ _ t.heap; rw [ht]; exact hP)⟩, hS.F ht⟩) hS.2.2 dX0_lighten_37
  ·
    refine lv_aload_n hx hb dX0_lighten_20 rfl (lv_at hl 1 rfl) ?_
    refine x_get (v := .ref (a 4)) hx hb hts hin0 hown hK hP 0 rfl 5 (by decide) w_0 rfl dX0_lighten_21 ?_
    refine lv_iload_n hx hb dX0_lighten_24 rfl (lv_at hl 2 rfl) ?_
    refine lv_iload hx hb dX0_lighten_25 (lv_at hl 0 rfl) ?_
    refine z_iast hx hb hK hP hD hS 5 0 rfl rfl (k := k) (by omega) (by decide) xW_set4 dX0_lighten_27 (fun H locs hP hD hS => ?_)
    refine lv_goto (tgt := 37) hx hb dX0_lighten_28 (by decide) ?_
    have hfin : (stA σ 4 k ((σ.2 4 k) - d)) = lit σ k d q := by first | exact (if_pos (by omega)).symm | exact (if_neg (by omega)).symm
    rw [hfin] at hP
    exact W.vret hx hb hr (fun t ht hW => ⟨⟨(), rfl, trivial, (by show va_P _ _ _ t.heap; rw [ht]; exact hP)⟩, hS.F ht⟩) hS.2.2 dX0_lighten_37
set_option maxHeartbeats 4000000 in
set_option maxRecDepth 100000 in
theorem c_X0_bearOneDay (l : Launch) (G : zG) (x : Nat) (a : Nat → Nat) (sz : Nat) (σ : zS) (k : Nat) (hn : σ.1 1 ≤ 20) (hk : k < σ.1 1) (hw : 0 ≤ σ.2 4 k ∧ σ.2 4 k ≤ 99) (h6 : 0 ≤ σ.2 6 k ∧ σ.2 6 k ≤ 500000) (h7 : 0 ≤ σ.2 7 k ∧ σ.2 7 k ≤ 100) : Met l yX0_bearOneDay wsX0_bearOneDay ({ frames := 2, cells := 0, slots := 0, locals := 45 } : Room) (va_Pc [.ref x, .int (iI (k : Int))] (wX G x a σ sz)) (va_Qv (fun (_ : Unit) => True) (fun _ t9 => va_P G.1 vwCl (xW G x a (bea σ k)) t9.heap) (zA x a sz)) 0 0 (zA x a sz) := by
  refine Met.ofW (cc := cX0_bearOneDay) (maxL := 2) (ret := none) (by decide) rfl ?_
  intro pp ee s m args below meth c s₁ B9 hml hv
  obtain ⟨rfl, hsz, hP, hK, hD0⟩ := hv
  subst hsz
  have hD := xW_zA (sz := s.heap.size) hD0
  have hS : va_S (zA x a s.heap.size) s.heap s.heap [] := va_S.rf
  have hx := B9.exec
  have hb := B9.bytes
  have hr := B9.returns
  have hts := atoms_spec (ws := wsX0_bearOneDay) B9.pre
  have hown : s.vm.findClass RX0 = some m.cls := findClass_of_methodNamed B9.named
  have hlocks := B9.notSynchronized
  have hin0 : ∀ w ∈ wsX00, w ∈ wsX0_bearOneDay := by decide +kernel
  have w_0 := hts (.fieldLink RX0 29 "ApologyLedger" "daysBorne" "[I") (by decide +kernel)
  have w_1 := hts (.fieldLink RX0 32 "ApologyLedger" "daysQuiet" "[I") (by decide +kernel)
  have w_2 := hts (.fieldLink RX0 23 "ApologyLedger" "weights" "[I") (by decide +kernel)
  have hl := lv_entry ([.ref x, .int (iI (k : Int))]) (n := 2) (Nat.le_of_ble_eq_true rfl)
  rw [lg_entry_eq]
  generalize (lg_sl ([.ref x, .int (iI (k : Int))]) ++ List.replicate (2 - (lg_sl ([.ref x, .int (iI (k : Int))])).length) Slot.unset).toArray = ls at hl ⊢
  have hl : lv_has ls 2 [(0, .ref x), (1, .int (iI (k : Int)))] := hl
  refine lv_aload_n hx hb dX0_bearOneDay_0 rfl (lv_at hl 0 rfl) ?_
  refine lv_iload_n hx hb dX0_bearOneDay_1 rfl (lv_at hl 1 rfl) ?_
  refine zc_v (va_runV (As := [.int (iI (k : Int))]) (rest := []) ⟨hx, hb, hml, hown, hts⟩ (c_X0_requireSlight l G x a σ k (by omega) (by omega)) (cwV 1 hts gX0_bearOneDay_X0_requireSlight rfl rfl rfl (by decide +kernel) ⟨Nat.le_of_ble_eq_true rfl, Nat.le_of_ble_eq_true rfl⟩) (preVX hK hP) rfl rfl hl.1 rfl (lv_room (Nat.le_of_ble_eq_true rfl)) dX0_bearOneDay_2 ⟨Nat.le_of_ble_eq_true rfl, Nat.le_of_ble_eq_true rfl⟩) ?_
  refine lv_aload_n hx hb dX0_bearOneDay_5 rfl (lv_at hl 0 rfl) ?_
  refine x_get (v := .ref (a 6)) hx hb hts hin0 hown hK hP 0 rfl 7 (by decide) w_0 rfl dX0_bearOneDay_6 ?_
  refine lv_iload_n hx hb dX0_bearOneDay_9 rfl (lv_at hl 1 rfl) ?_
  refine lv_dup2_11 hx hb dX0_bearOneDay_10 rfl rfl ?_
  refine z_iald (v := iI (σ.2 6 k)) hx hb hK hP 7 0 rfl rfl (k := k) (by omega) (by decide) rfl dX0_bearOneDay_11 ?_
  refine lv_iconst (v := iI 1) hx hb dX0_bearOneDay_12 rfl ?_
  refine z_iadd hx hb dX0_bearOneDay_13 ?_
  refine z_iast hx hb hK hP hD hS 7 0 rfl rfl (k := k) (by omega) (by decide) xW_set6 dX0_bearOneDay_14 (fun H locs hP hD hS => ?_)
  refine lv_aload_n hx hb dX0_bearOneDay_15 rfl (lv_at hl 0 rfl) ?_
  refine x_get (v := .ref (a 7)) hx hb hts hin0 hown hK hP 0 rfl 8 (by decide) w_1 rfl dX0_bearOneDay_16 ?_
  refine lv_iload_n hx hb dX0_bearOneDay_19 rfl (lv_at hl 1 rfl) ?_
  refine lv_dup2_11 hx hb dX0_bearOneDay_20 rfl rfl ?_
  refine z_iald (v := iI (σ.2 7 k)) hx hb hK hP 8 0 rfl rfl (k := k) (by omega) (by decide) (congrArg iI (by simp [stA, stS])) dX0_bearOneDay_21 ?_
  refine lv_iconst (v := iI 1) hx hb dX0_bearOneDay_22 rfl ?_
  refine z_iadd hx hb dX0_bearOneDay_23 ?_
  refine z_iast hx hb hK hP hD hS 8 0 rfl rfl (k := k) (by omega) (by decide) xW_set7 dX0_bearOneDay_24 (fun H locs hP hD hS => ?_)
  refine lv_aload_n hx hb dX0_bearOneDay_25 rfl (lv_at hl 0 rfl) ?_
  refine x_get (v := .ref (a 4)) hx hb hts hin0 hown hK hP 0 rfl 5 (by decide) w_2 rfl dX0_bearOneDay_26 ?_
  refine lv_iload_n hx hb dX0_bearOneDay_29 rfl (lv_at hl 1 rfl) ?_
  refine lv_aload_n hx hb dX0_bearOneDay_30 rfl (lv_at hl 0 rfl) ?_
  refine x_get (v := .ref (a 4)) hx hb hts hin0 hown hK hP 0 rfl 5 (by decide) w_2 rfl dX0_bearOneDay_31 ?_
  refine lv_iload_n hx hb dX0_bearOneDay_34 rfl (lv_at hl 1 rfl) ?_
  refine z_iald (v := iI (σ.2 4 k)) hx hb hK hP 5 0 rfl rfl (k := k) (by omega) (by decide) (congrArg iI (by simp [stA, stS])) dX0_bearOneDay_35 ?_
  refine lv_aload_n hx hb dX0_bearOneDay_36 rfl (lv_at hl 0 rfl) ?_
  refine x_get (v := .ref (a 6)) hx hb hts hin0 hown hK hP 0 rfl 7 (by decide) w_0 rfl dX0_bearOneDay_37 ?_
  refine lv_iload_n hx hb dX0_bearOneDay_40 rfl (lv_at hl 1 rfl) ?_
  refine z_iald (v := iI ((σ.2 6 k) + 1)) hx hb hK hP 7 0 rfl rfl (k := k) (by omega) (by decide) (congrArg iI (by simp [stA, stS])) dX0_bearOneDay_41 ?_
  refine zc_i (va_runS (As := [.int (iI (σ.2 4 k)), .int (iI ((σ.2 6 k) + 1))]) (rest := [.int (iI (k : Int)), .ref (a 4)]) ⟨hx, hb, hml, hown, hts⟩ (c_X0_weightWhenBorne l  (σ.2 4 k) ((σ.2 6 k) + 1) (by omega) (by omega)) (va_cwS 2 hts gX0_bearOneDay_X0_weightWhenBorne rfl rfl rfl (by decide +kernel) ⟨Nat.le_of_ble_eq_true rfl, Nat.le_of_ble_eq_true rfl⟩) preS0 rfl rfl hl.1 rfl (lv_room (Nat.le_of_ble_eq_true rfl)) dX0_bearOneDay_42 ⟨Nat.le_of_ble_eq_true rfl, Nat.le_of_ble_eq_true rfl⟩) ?_
  have f_1 := wwb_bd (σ.2 4 k) ((σ.2 6 k) + 1) (by omega)
  refine z_iast hx hb hK hP hD hS 5 0 rfl rfl (k := k) (by omega) (by decide) xW_set4 dX0_bearOneDay_45 (fun H locs hP hD hS => ?_)
  refine lv_aload_n hx hb dX0_bearOneDay_46 rfl (lv_at hl 0 rfl) ?_
  refine x_get (v := .ref (a 7)) hx hb hts hin0 hown hK hP 0 rfl 8 (by decide) w_1 rfl dX0_bearOneDay_47 ?_
  refine lv_iload_n hx hb dX0_bearOneDay_50 rfl (lv_at hl 1 rfl) ?_
  refine z_iald (v := iI ((σ.2 7 k) + 1)) hx hb hK hP 8 0 rfl rfl (k := k) (by omega) (by decide) (congrArg iI (by simp [stA, stS])) dX0_bearOneDay_51 ?_
  refine lv_bipush (v := iI 30) hx hb dX0_bearOneDay_52 (by decide) ?_
  refine z_icmp_lt (tgt := 63) hx hb dX0_bearOneDay_54 (by decide) (by omega) (by omega) (fun c_2 => ?_) (fun c_2 => ?_)
  ·
    have hfin : (stA (stA (stA σ 6 k ((σ.2 6 k) + 1)) 7 k ((σ.2 7 k) + 1)) 4 k (wwb (σ.2 4 k) ((σ.2 6 k) + 1))) = bea σ k := by first | exact (if_pos (by omega)).symm | exact (if_neg (by omega)).symm
    rw [hfin] at hP
    exact W.vret hx hb hr (fun t ht hW => ⟨⟨(), rfl, trivial, (by show va_P _ _ _ t.heap; rw [ht]; exact hP)⟩, hS.F ht⟩) hS.2.2 dX0_bearOneDay_63
  ·
    refine lv_aload_n hx hb dX0_bearOneDay_57 rfl (lv_at hl 0 rfl) ?_
    refine lv_iload_n hx hb dX0_bearOneDay_58 rfl (lv_at hl 1 rfl) ?_
    refine lv_iconst (v := iI 2) hx hb dX0_bearOneDay_59 rfl ?_
    refine zc_wv (va_runV (As := [.int (iI (k : Int)), .int (iI 2)]) (rest := []) ⟨hx, hb, hml, hown, hts⟩ (c_X0_close l G x a _ (stA (stA (stA σ 6 k ((σ.2 6 k) + 1)) 7 k ((σ.2 7 k) + 1)) 4 k (wwb (σ.2 4 k) ((σ.2 6 k) + 1))) k 2 hn hk) (cwV 2 hts gX0_bearOneDay_X0_close rfl rfl rfl (by decide +kernel) ⟨Nat.le_of_ble_eq_true rfl, Nat.le_of_ble_eq_true rfl⟩) (preWX hK hP hD) rfl rfl hl.1 rfl (lv_room (Nat.le_of_ble_eq_true rfl)) dX0_bearOneDay_60 ⟨Nat.le_of_ble_eq_true rfl, Nat.le_of_ble_eq_true rfl⟩) hS (fun q h => zA_mono hS.1 h) (fun H locs hP hS _ _ => ?_)
    have hD := xW_D (σ' := (clo (stA (stA (stA σ 6 k ((σ.2 6 k) + 1)) 7 k ((σ.2 7 k) + 1)) 4 k (wwb (σ.2 4 k) ((σ.2 6 k) + 1))) k 2)) hD
    have hfin : (clo (stA (stA (stA σ 6 k ((σ.2 6 k) + 1)) 7 k ((σ.2 7 k) + 1)) 4 k (wwb (σ.2 4 k) ((σ.2 6 k) + 1))) k 2) = bea σ k := by first | exact (if_pos (by omega)).symm | exact (if_neg (by omega)).symm
    rw [hfin] at hP
    exact W.vret hx hb hr (fun t ht hW => ⟨⟨(), rfl, trivial, (by show va_P _ _ _ t.heap; rw [ht]; exact hP)⟩, hS.F ht⟩) hS.2.2 dX0_bearOneDay_63
set_option maxHeartbeats 4000000 in
set_option maxRecDepth 100000 in
theorem c_X0_passOneDay (l : Launch) (G : zG) (x : Nat) (a : Nat → Nat) (sz : Nat) (B : Nat) (σ : zS) (hI : zI B σ) : Met l yX0_passOneDay wsX0_passOneDay ({ frames := 3, cells := 0, slots := 0, locals := 66 } : Room) (va_Pc [.ref x] (wX G x a σ sz)) (va_Qi (fun r (_ : Unit) => r = iI ((day1 σ).2)) (fun _ t9 => va_P G.1 vwCl (xW G x a ((day1 σ).1)) t9.heap) (zA x a sz)) 0 0 (zA x a sz) := by
  refine Met.ofW (cc := cX0_passOneDay) (maxL := 3) (ret := (some .int)) (by decide) rfl ?_
  intro pp ee s m args below meth c s₁ B9 hml hv
  obtain ⟨rfl, hsz, hP, hK, hD0⟩ := hv
  subst hsz
  have hD := xW_zA (sz := s.heap.size) hD0
  have hS : va_S (zA x a s.heap.size) s.heap s.heap [] := va_S.rf
  have hx := B9.exec
  have hb := B9.bytes
  have hr := B9.returns
  have hts := atoms_spec (ws := wsX0_passOneDay) B9.pre
  have hown : s.vm.findClass RX0 = some m.cls := findClass_of_methodNamed B9.named
  have hlocks := B9.notSynchronized
  have hin0 : ∀ w ∈ wsX00, w ∈ wsX0_passOneDay := by decide +kernel
  have w_0 := hts (.fieldLink RX0 60 "ApologyLedger" "slightCount" "I") (by decide +kernel)
  have w_1 := hts (.fieldLink RX0 110 "ApologyLedger" "today" "I") (by decide +kernel)
  have w_2 := hts (.fieldLink RX0 26 "ApologyLedger" "states" "[I") (by decide +kernel)
  have hl := lv_entry ([.ref x]) (n := 3) (Nat.le_of_ble_eq_true rfl)
  rw [lg_entry_eq]
  generalize (lg_sl ([.ref x]) ++ List.replicate (3 - (lg_sl ([.ref x])).length) Slot.unset).toArray = ls at hl ⊢
  have hl : lv_has ls 3 [(0, .ref x)] := hl
  have hIn := hI.n
  have hIb := hI.b
  refine lv_iconst (v := iI 0) hx hb dX0_passOneDay_0 rfl ?_
  refine lv_istore_n (lv' := [(1, .int (iI 0)), (0, .ref x)]) hx hb dX0_passOneDay_1 rfl hl (by decide) rfl (fun ls hl => ?_)
  refine lv_iconst (v := iI 0) hx hb dX0_passOneDay_2 rfl ?_
  refine lv_istore_n (lv' := [(2, .int (iI 0)), (1, .int (iI 0)), (0, .ref x)]) hx hb dX0_passOneDay_3 rfl hl (by decide) rfl (fun ls hl => ?_)
  have LP4 : ∀ (r4 : Nat) (j : Nat) (s1 : Int), j ≤ σ.1 1 → σ.1 1 - j < r4 → s1 = (dyf σ j).2 → ∀ (H : Heap) (locs : List Loc) (ls : Array Slot), va_P G.1 vwCl (xW G x a (dyf σ j).1) H → va_D (zA x a s.heap.size) (xW G x a (dyf σ j).1) → va_S (zA x a s.heap.size) s.heap H locs → lv_has ls 3 [(2, .int (iI (j : Int))), (1, .int (iI s1)), (0, .ref x)] → W pp l ee (headSpec wsX0_passOneDay ({ frames := 3, cells := 0, slots := 0, locals := 66 } : Room)).room s m ([.ref x] : List Value).toArray below meth c H locs 0 0 (MQ below (va_Qi (fun r (_ : Unit) => r = iI ((day1 σ).2)) (fun _ t9 => va_P G.1 vwCl (xW G x a ((day1 σ).1)) t9.heap) (zA x a s.heap.size)) ([.ref x] : List Value).toArray s 0 0 (zA x a s.heap.size)) (F0 m 4 ls []) := by
    intro r4
    induction r4 with
    | zero => intro j s1 hv4_0 hv4_1; exfalso; omega
    | succ r4 ih4 =>
      intro j s1 hv4_0 hv4_1 hv4_2 H locs ls hP hD hS hl
      have f_1 := dyf_n σ j
      have f_2 := dyf_k σ j 4 j (Nat.le_refl j)
      have f_3 := dyf_k σ j 5 j (Nat.le_refl j)
      have f_4 := dyf_k σ j 6 j (Nat.le_refl j)
      have f_5 := dyf_k σ j 7 j (Nat.le_refl j)
      have f_6 := hI.r4 j
      have f_7 := hI.r5 j
      have f_8 := hI.r6 j
      have f_9 := hI.r7 j
      have f_10 := bea_5 (dyf σ j).1 j
      refine lv_iload_n hx hb dX0_passOneDay_4 rfl (lv_at hl 0 rfl) ?_
      refine lv_aload_n hx hb dX0_passOneDay_5 rfl (lv_at hl 2 rfl) ?_
      refine x_get (v := .int (iI ((dyf σ j).1.1 1 : Nat))) hx hb hts hin0 hown hK hP 0 rfl 9 (by decide) w_0 rfl dX0_passOneDay_6 ?_
      refine z_icmp_ge (tgt := 45) hx hb dX0_passOneDay_9 (by decide) (by omega) (by omega) (fun c_11 => ?_) (fun c_11 => ?_)
      ·
        refine lv_aload_n hx hb dX0_passOneDay_45 rfl (lv_at hl 2 rfl) ?_
        refine lv_dup hx hb dX0_passOneDay_46 rfl ?_
        refine x_get (v := .int (iI ((dyf σ j).1.1 2 : Nat))) hx hb hts hin0 hown hK hP 0 rfl 10 (by decide) w_1 rfl dX0_passOneDay_47 ?_
        refine lv_iconst (v := iI 1) hx hb dX0_passOneDay_50 rfl ?_
        refine z_iadd hx hb dX0_passOneDay_51 ?_
        refine z_re (v' := iI ((((dyf σ j).1.1 2) + 1 : Nat) : Int)) (congrArg iI (by omega)) ?_
        refine x_put hx hb hts hin0 hown hK hP hD hS 0 rfl 10 (by decide) w_1 rfl (by decide +kernel) (Nat.le_of_ble_eq_true rfl) xW_put10 dX0_passOneDay_52 (fun H locs hP hD hS => ?_)
        refine lv_iload_n hx hb dX0_passOneDay_55 rfl (lv_at hl 1 rfl) ?_
        have hfin : (stS (dyf σ j).1 2 (((dyf σ j).1.1 2) + 1)) = (day1 σ).1 := by rw [day1, show j = σ.1 1 from by omega]
        rw [hfin] at hP
        refine z_re (v' := iI ((day1 σ).2)) (congrArg iI (by rw [hv4_2, day1, show j = σ.1 1 from by omega])) ?_
        exact W.iret hx hb hr (fun t ht hW => ⟨⟨_, (), rfl, rfl, (by show va_P _ _ _ t.heap; rw [ht]; exact hP)⟩, hS.F ht⟩) hS.2.2 dX0_passOneDay_56
      ·
        refine lv_aload_n hx hb dX0_passOneDay_12 rfl (lv_at hl 2 rfl) ?_
        refine x_get (v := .ref (a 5)) hx hb hts hin0 hown hK hP 0 rfl 6 (by decide) w_2 rfl dX0_passOneDay_13 ?_
        refine lv_iload_n hx hb dX0_passOneDay_16 rfl (lv_at hl 0 rfl) ?_
        refine z_iald (v := iI ((dyf σ j).1.2 5 j)) hx hb hK hP 6 0 rfl rfl (k := j) (by omega) (by decide) rfl dX0_passOneDay_17 ?_
        refine z_if_ne (tgt := 39) hx hb dX0_passOneDay_18 (by decide) (by omega) (fun c_12 => ?_) (fun c_12 => ?_)
        ·
          refine lv_iinc (v := iI ((j : Int) + 1)) (lv' := [(2, .int (iI ((j : Int) + 1))), (1, .int (iI s1)), (0, .ref x)]) hx hb dX0_passOneDay_39 hl (k := 0) rfl (iI_add _ _) (by decide) rfl (fun ls hl => ?_)
          refine lv_goto (tgt := 4) hx hb dX0_passOneDay_42 (by decide) ?_
          have hfs : (dyf σ j).1 = (dyf σ (j + 1)).1 := by rw [dyf, if_neg (by omega)]
          rw [hfs] at hP hD
          exact ih4 (j + 1) s1 (by omega) (by omega) (by rw [dyf, if_neg (by omega)]; exact hv4_2) H locs ls hP hD hS (lv_sub hl [0, 1, 2] rfl)
        ·
          refine lv_aload_n hx hb dX0_passOneDay_21 rfl (lv_at hl 2 rfl) ?_
          refine lv_iload_n hx hb dX0_passOneDay_22 rfl (lv_at hl 0 rfl) ?_
          refine zc_wv (va_runV (As := [.int (iI (j : Int))]) (rest := []) ⟨hx, hb, hml, hown, hts⟩ (c_X0_bearOneDay l G x a _ (dyf σ j).1 j (by omega) (by omega) (by omega) (by omega) (by omega)) (cwV 1 hts gX0_passOneDay_X0_bearOneDay rfl rfl rfl (by decide +kernel) ⟨Nat.le_of_ble_eq_true rfl, Nat.le_of_ble_eq_true rfl⟩) (preWX hK hP hD) rfl rfl hl.1 rfl (lv_room (Nat.le_of_ble_eq_true rfl)) dX0_passOneDay_23 ⟨Nat.le_of_ble_eq_true rfl, Nat.le_of_ble_eq_true rfl⟩) hS (fun q h => zA_mono hS.1 h) (fun H locs hP hS _ _ => ?_)
          have hD := xW_D (σ' := (bea (dyf σ j).1 j)) hD
          refine lv_aload_n hx hb dX0_passOneDay_26 rfl (lv_at hl 2 rfl) ?_
          refine x_get (v := .ref (a 5)) hx hb hts hin0 hown hK hP 0 rfl 6 (by decide) w_2 rfl dX0_passOneDay_27 ?_
          refine lv_iload_n hx hb dX0_passOneDay_30 rfl (lv_at hl 0 rfl) ?_
          refine z_iald (v := iI ((bea (dyf σ j).1 j).2 5 j)) hx hb hK hP 6 0 rfl rfl (k := j) (by omega) (by decide) rfl dX0_passOneDay_31 ?_
          refine lv_iconst (v := iI 2) hx hb dX0_passOneDay_32 rfl ?_
          refine z_icmp_ne (tgt := 39) hx hb dX0_passOneDay_33 (by decide) (by omega) (by omega) (fun c_13 => ?_) (fun c_13 => ?_)
          ·
            refine lv_iinc (v := iI ((j : Int) + 1)) (lv' := [(2, .int (iI ((j : Int) + 1))), (1, .int (iI s1)), (0, .ref x)]) hx hb dX0_passOneDay_39 hl (k := 0) rfl (iI_add _ _) (by decide) rfl (fun ls hl => ?_)
            refine lv_goto (tgt := 4) hx hb dX0_passOneDay_42 (by decide) ?_
            have hfs : (bea (dyf σ j).1 j) = (dyf σ (j + 1)).1 := by rw [dyf, if_pos (by omega)]
            rw [hfs] at hP hD
            exact ih4 (j + 1) s1 (by omega) (by omega) (by rw [dyf, if_pos (by omega)]; (try dsimp only); rw [← hv4_2]; split <;> omega) H locs ls hP hD hS (lv_sub hl [0, 1, 2] rfl)
          ·
            refine lv_iinc (v := iI (s1 + 1)) (lv' := [(1, .int (iI (s1 + 1))), (2, .int (iI (j : Int))), (0, .ref x)]) hx hb dX0_passOneDay_36 hl (k := 1) rfl (iI_add _ _) (by decide) rfl (fun ls hl => ?_)
            refine lv_iinc (v := iI ((j : Int) + 1)) (lv' := [(2, .int (iI ((j : Int) + 1))), (1, .int (iI (s1 + 1))), (0, .ref x)]) hx hb dX0_passOneDay_39 hl (k := 1) rfl (iI_add _ _) (by decide) rfl (fun ls hl => ?_)
            refine lv_goto (tgt := 4) hx hb dX0_passOneDay_42 (by decide) ?_
            have hfs : (bea (dyf σ j).1 j) = (dyf σ (j + 1)).1 := by rw [dyf, if_pos (by omega)]
            rw [hfs] at hP hD
            exact ih4 (j + 1) (s1 + 1) (by omega) (by omega) (by rw [dyf, if_pos (by omega)]; (try dsimp only); rw [← hv4_2]; split <;> omega) H locs ls hP hD hS (lv_sub hl [0, 1, 2] rfl)
  exact LP4 (σ.1 1 - (0) + 1) 0 0 (by omega) (by omega) (by rfl) s.heap [] ls hP hD hS (lv_sub hl [0, 1, 2] rfl)
set_option maxHeartbeats 4000000 in
set_option maxRecDepth 100000 in
theorem c_X0_pass (l : Launch) (G : zG) (x : Nat) (a : Nat → Nat) (sz : Nat) (B : Nat) (σ : zS) (d : Nat) (hI : zI B σ) (hd : 1 ≤ d ∧ d ≤ 60) (hB : B + 60 ≤ 100000) : Met l yX0_pass wsX0_pass ({ frames := 4, cells := 0, slots := 0, locals := 88 } : Room) (va_Pc [.ref x, .int (iI (d : Int))] (wX G x a σ sz)) (va_Qi (fun r (_ : Unit) => r = iI ((dyn σ d).2)) (fun _ t9 => va_P G.1 vwCl (xW G x a ((dyn σ d).1)) t9.heap) (zA x a sz)) 0 0 (zA x a sz) := by
  refine Met.ofW (cc := cX0_pass) (maxL := 4) (ret := (some .int)) (by decide) rfl ?_
  intro pp ee s m args below meth c s₁ B9 hml hv
  obtain ⟨rfl, hsz, hP, hK, hD0⟩ := hv
  subst hsz
  have hD := xW_zA (sz := s.heap.size) hD0
  have hS : va_S (zA x a s.heap.size) s.heap s.heap [] := va_S.rf
  have hx := B9.exec
  have hb := B9.bytes
  have hr := B9.returns
  have hts := atoms_spec (ws := wsX0_pass) B9.pre
  have hown : s.vm.findClass RX0 = some m.cls := findClass_of_methodNamed B9.named
  have hlocks := B9.notSynchronized
  have hin0 : ∀ w ∈ wsX00, w ∈ wsX0_pass := by decide +kernel
  have hl := lv_entry ([.ref x, .int (iI (d : Int))]) (n := 4) (Nat.le_of_ble_eq_true rfl)
  rw [lg_entry_eq]
  generalize (lg_sl ([.ref x, .int (iI (d : Int))]) ++ List.replicate (4 - (lg_sl ([.ref x, .int (iI (d : Int))])).length) Slot.unset).toArray = ls at hl ⊢
  have hl : lv_has ls 4 [(0, .ref x), (1, .int (iI (d : Int)))] := hl
  have hIn := hI.n
  have hIb := hI.b
  refine lv_iload_n hx hb dX0_pass_0 rfl (lv_at hl 1 rfl) ?_
  refine zc_v (va_runS (As := [.int (iI (d : Int))]) (rest := []) ⟨hx, hb, hml, hown, hts⟩ (c_X0_requireDays l  (d : Int) (by omega)) (va_cwS 1 hts gX0_pass_X0_requireDays rfl rfl rfl (by decide +kernel) ⟨Nat.le_of_ble_eq_true rfl, Nat.le_of_ble_eq_true rfl⟩) preS0 rfl rfl hl.1 rfl (lv_room (Nat.le_of_ble_eq_true rfl)) dX0_pass_1 ⟨Nat.le_of_ble_eq_true rfl, Nat.le_of_ble_eq_true rfl⟩) ?_
  refine lv_iconst (v := iI 0) hx hb dX0_pass_4 rfl ?_
  refine lv_istore_n (lv' := [(2, .int (iI 0)), (0, .ref x), (1, .int (iI (d : Int)))]) hx hb dX0_pass_5 rfl hl (by decide) rfl (fun ls hl => ?_)
  refine lv_iconst (v := iI 0) hx hb dX0_pass_6 rfl ?_
  refine lv_istore_n (lv' := [(3, .int (iI 0)), (2, .int (iI 0)), (0, .ref x), (1, .int (iI (d : Int)))]) hx hb dX0_pass_7 rfl hl (by decide) rfl (fun ls hl => ?_)
  have LP8 : ∀ (r8 : Nat) (j : Nat) (s1 : Int), j ≤ d → d - j < r8 → s1 = (dyn σ j).2 → ∀ (H : Heap) (locs : List Loc) (ls : Array Slot), va_P G.1 vwCl (xW G x a (dyn σ j).1) H → va_D (zA x a s.heap.size) (xW G x a (dyn σ j).1) → va_S (zA x a s.heap.size) s.heap H locs → lv_has ls 4 [(3, .int (iI (j : Int))), (2, .int (iI s1)), (0, .ref x), (1, .int (iI (d : Int)))] → W pp l ee (headSpec wsX0_pass ({ frames := 4, cells := 0, slots := 0, locals := 88 } : Room)).room s m ([.ref x, .int (iI (d : Int))] : List Value).toArray below meth c H locs 0 0 (MQ below (va_Qi (fun r (_ : Unit) => r = iI ((dyn σ d).2)) (fun _ t9 => va_P G.1 vwCl (xW G x a ((dyn σ d).1)) t9.heap) (zA x a s.heap.size)) ([.ref x, .int (iI (d : Int))] : List Value).toArray s 0 0 (zA x a s.heap.size)) (F0 m 8 ls []) := by
    intro r8
    induction r8 with
    | zero => intro j s1 hv8_0 hv8_1; exfalso; omega
    | succ r8 ih8 =>
      intro j s1 hv8_0 hv8_1 hv8_2 H locs ls hP hD hS hl
      refine lv_iload_n hx hb dX0_pass_8 rfl (lv_at hl 0 rfl) ?_
      refine lv_iload_n hx hb dX0_pass_9 rfl (lv_at hl 3 rfl) ?_
      refine z_icmp_ge (tgt := 26) hx hb dX0_pass_10 (by decide) (by omega) (by omega) (fun c_1 => ?_) (fun c_1 => ?_)
      ·
        refine lv_iload_n hx hb dX0_pass_26 rfl (lv_at hl 1 rfl) ?_
        have hfin : (dyn σ j).1 = (dyn σ d).1 := by rw [show j = d from by omega]
        rw [hfin] at hP
        refine z_re (v' := iI ((dyn σ d).2)) (congrArg iI (by rw [hv8_2, show j = d from by omega])) ?_
        exact W.iret hx hb hr (fun t ht hW => ⟨⟨_, (), rfl, rfl, (by show va_P _ _ _ t.heap; rw [ht]; exact hP)⟩, hS.F ht⟩) hS.2.2 dX0_pass_27
      ·
        refine lv_iload_n hx hb dX0_pass_13 rfl (lv_at hl 1 rfl) ?_
        refine lv_aload_n hx hb dX0_pass_14 rfl (lv_at hl 2 rfl) ?_
        refine zc_wi (va_runV (As := []) (rest := [.int (iI s1)]) ⟨hx, hb, hml, hown, hts⟩ (c_X0_passOneDay l G x a _ (B + j) (dyn σ j).1 (dyn_zI hI j (by omega))) (cwV 0 hts gX0_pass_X0_passOneDay rfl rfl rfl (by decide +kernel) ⟨Nat.le_of_ble_eq_true rfl, Nat.le_of_ble_eq_true rfl⟩) (preWX hK hP hD) rfl rfl hl.1 rfl (lv_room (Nat.le_of_ble_eq_true rfl)) dX0_pass_15 ⟨Nat.le_of_ble_eq_true rfl, Nat.le_of_ble_eq_true rfl⟩) hS (fun q h => zA_mono hS.1 h) (fun H locs hP hS _ _ => ?_)
        have hD := xW_D (σ' := ((day1 (dyn σ j).1).1)) hD
        refine z_iadd hx hb dX0_pass_18 ?_
        refine lv_istore_n (lv' := [(2, .int (iI (s1 + ((day1 (dyn σ j).1).2)))), (3, .int (iI (j : Int))), (0, .ref x), (1, .int (iI (d : Int)))]) hx hb dX0_pass_19 rfl hl (by decide) rfl (fun ls hl => ?_)
        refine lv_iinc (v := iI ((j : Int) + 1)) (lv' := [(3, .int (iI ((j : Int) + 1))), (2, .int (iI (s1 + ((day1 (dyn σ j).1).2)))), (0, .ref x), (1, .int (iI (d : Int)))]) hx hb dX0_pass_20 hl (k := 1) rfl (iI_add _ _) (by decide) rfl (fun ls hl => ?_)
        refine lv_goto (tgt := 8) hx hb dX0_pass_23 (by decide) ?_
        have hfs : ((day1 (dyn σ j).1).1) = (dyn σ (j + 1)).1 := rfl
        rw [hfs] at hP hD
        exact ih8 (j + 1) (s1 + ((day1 (dyn σ j).1).2)) (by omega) (by omega) (by rw [hv8_2]; rfl) H locs ls hP hD hS (lv_sub hl [0, 1, 2, 3] rfl)
  exact LP8 (d - (0) + 1) 0 0 (by omega) (by omega) (by rfl) s.heap [] ls hP hD hS (lv_sub hl [0, 1, 2, 3] rfl)
set_option maxHeartbeats 4000000 in
set_option maxRecDepth 100000 in
theorem c_X0_addPerson (l : Launch) (G : zG) (x : Nat) (a : Nat → Nat) (sz : Nat) (B : Nat) (σ : zS) (z : Int) (hI : zI B σ) (hz : 0 ≤ z ∧ z ≤ 9) (hfree : σ.1 0 < 6) : Met l yX0_addPerson wsX0_addPerson ({ frames := 1, cells := 0, slots := 0, locals := 20 } : Room) (va_Pc [.ref x, .int (iI z)] (wX G x a σ sz)) (va_Qi (fun r (_ : Unit) => r = iI ((σ.1 0 : Nat) : Int)) (fun _ t9 => va_P G.1 vwCl (xW G x a (adp σ z)) t9.heap) (zA x a sz)) 0 0 (zA x a sz) := by
  refine Met.ofW (cc := cX0_addPerson) (maxL := 3) (ret := (some .int)) (by decide) rfl ?_
  intro pp ee s m args below meth c s₁ B9 hml hv
  obtain ⟨rfl, hsz, hP, hK, hD0⟩ := hv
  subst hsz
  have hD := xW_zA (sz := s.heap.size) hD0
  have hS : va_S (zA x a s.heap.size) s.heap s.heap [] := va_S.rf
  have hx := B9.exec
  have hb := B9.bytes
  have hr := B9.returns
  have hts := atoms_spec (ws := wsX0_addPerson) B9.pre
  have hown : s.vm.findClass RX0 = some m.cls := findClass_of_methodNamed B9.named
  have hlocks := B9.notSynchronized
  have hin0 : ∀ w ∈ wsX00, w ∈ wsX0_addPerson := by decide +kernel
  have w_0 := hts (.fieldLink RX0 39 "ApologyLedger" "personCount" "I") (by decide +kernel)
  have w_1 := hts (.fieldLink RX0 9 "ApologyLedger" "prides" "[I") (by decide +kernel)
  have hl := lv_entry ([.ref x, .int (iI z)]) (n := 3) (Nat.le_of_ble_eq_true rfl)
  rw [lg_entry_eq]
  generalize (lg_sl ([.ref x, .int (iI z)]) ++ List.replicate (3 - (lg_sl ([.ref x, .int (iI z)])).length) Slot.unset).toArray = ls at hl ⊢
  have hl : lv_has ls 3 [(0, .ref x), (1, .int (iI z))] := hl
  have hIn := hI.n
  have hIb := hI.b
  refine lv_iload_n hx hb dX0_addPerson_0 rfl (lv_at hl 1 rfl) ?_
  refine zc_v (va_runS (As := [.int (iI z)]) (rest := []) ⟨hx, hb, hml, hown, hts⟩ (c_X0_requirePride l  z (by omega)) (va_cwS 1 hts gX0_addPerson_X0_requirePride rfl rfl rfl (by decide +kernel) ⟨Nat.le_of_ble_eq_true rfl, Nat.le_of_ble_eq_true rfl⟩) preS0 rfl rfl hl.1 rfl (lv_room (Nat.le_of_ble_eq_true rfl)) dX0_addPerson_1 ⟨Nat.le_of_ble_eq_true rfl, Nat.le_of_ble_eq_true rfl⟩) ?_
  refine lv_aload_n hx hb dX0_addPerson_4 rfl (lv_at hl 0 rfl) ?_
  refine x_get (v := .int (iI (σ.1 0 : Nat))) hx hb hts hin0 hown hK hP 0 rfl 2 (by decide) w_0 rfl dX0_addPerson_5 ?_
  refine lv_bipush (v := iI 6) hx hb dX0_addPerson_8 (by decide) ?_
  refine z_icmp_lt (tgt := 23) hx hb dX0_addPerson_10 (by decide) (by omega) (by omega) (fun c_1 => ?_) (fun c_1 => ?_)
  ·
    refine lv_aload_n hx hb dX0_addPerson_23 rfl (lv_at hl 0 rfl) ?_
    refine x_get (v := .int (iI (σ.1 0 : Nat))) hx hb hts hin0 hown hK hP 0 rfl 2 (by decide) w_0 rfl dX0_addPerson_24 ?_
    refine lv_istore_n (lv' := [(2, .int (iI (σ.1 0 : Nat))), (0, .ref x), (1, .int (iI z))]) hx hb dX0_addPerson_27 rfl hl (by decide) rfl (fun ls hl => ?_)
    refine lv_aload_n hx hb dX0_addPerson_28 rfl (lv_at hl 1 rfl) ?_
    refine x_get (v := .ref (a 0)) hx hb hts hin0 hown hK hP 0 rfl 0 (by decide) w_1 rfl dX0_addPerson_29 ?_
    refine lv_iload_n hx hb dX0_addPerson_32 rfl (lv_at hl 0 rfl) ?_
    refine lv_iload_n hx hb dX0_addPerson_33 rfl (lv_at hl 2 rfl) ?_
    refine z_iast hx hb hK hP hD hS 1 0 rfl rfl (k := σ.1 0) (by omega) (by decide) xW_set0 dX0_addPerson_34 (fun H locs hP hD hS => ?_)
    refine lv_aload_n hx hb dX0_addPerson_35 rfl (lv_at hl 1 rfl) ?_
    refine lv_iload_n hx hb dX0_addPerson_36 rfl (lv_at hl 0 rfl) ?_
    refine lv_iconst (v := iI 1) hx hb dX0_addPerson_37 rfl ?_
    refine z_iadd hx hb dX0_addPerson_38 ?_
    refine z_re (v' := iI (((σ.1 0) + 1 : Nat) : Int)) (congrArg iI (by omega)) ?_
    refine x_put hx hb hts hin0 hown hK hP hD hS 0 rfl 2 (by decide) w_0 rfl (by decide +kernel) (Nat.le_of_ble_eq_true rfl) xW_put2 dX0_addPerson_39 (fun H locs hP hD hS => ?_)
    refine lv_iload_n hx hb dX0_addPerson_42 rfl (lv_at hl 0 rfl) ?_
    have hfin : (stS (stA σ 0 (σ.1 0) z) 0 ((σ.1 0) + 1)) = adp σ z := by rfl
    rw [hfin] at hP
    refine z_re (v' := iI ((σ.1 0 : Nat) : Int)) (congrArg iI (by rfl)) ?_
    exact W.iret hx hb hr (fun t ht hW => ⟨⟨_, (), rfl, rfl, (by show va_P _ _ _ t.heap; rw [ht]; exact hP)⟩, hS.F ht⟩) hS.2.2 dX0_addPerson_43
  ·
    exfalso
    omega
set_option maxHeartbeats 4000000 in
set_option maxRecDepth 100000 in
theorem c_X0_enter (l : Launch) (G : zG) (x : Nat) (a : Nat → Nat) (sz : Nat) (B : Nat) (σ : zS) (p : Nat) (hI : zI B σ) (hp : p < σ.1 0) : Met l yX0_enter wsX0_enter ({ frames := 1, cells := 0, slots := 0, locals := 21 } : Room) (va_Pc [.ref x, .int (iI (p : Int))] (wX G x a σ sz)) (va_Qi (fun r (_ : Unit) => r = iI (1 - σ.2 1 p)) (fun _ t9 => va_P G.1 vwCl (xW G x a (ent σ p)) t9.heap) (zA x a sz)) 0 0 (zA x a sz) := by
  refine Met.ofW (cc := cX0_enter) (maxL := 2) (ret := (some .boolean)) (by decide) rfl ?_
  intro pp ee s m args below meth c s₁ B9 hml hv
  obtain ⟨rfl, hsz, hP, hK, hD0⟩ := hv
  subst hsz
  have hD := xW_zA (sz := s.heap.size) hD0
  have hS : va_S (zA x a s.heap.size) s.heap s.heap [] := va_S.rf
  have hx := B9.exec
  have hb := B9.bytes
  have hr := B9.returns
  have hts := atoms_spec (ws := wsX0_enter) B9.pre
  have hown : s.vm.findClass RX0 = some m.cls := findClass_of_methodNamed B9.named
  have hlocks := B9.notSynchronized
  have hin0 : ∀ w ∈ wsX00, w ∈ wsX0_enter := by decide +kernel
  have w_0 := hts (.fieldLink RX0 13 "ApologyLedger" "present" "[Z") (by decide +kernel)
  have hl := lv_entry ([.ref x, .int (iI (p : Int))]) (n := 2) (Nat.le_of_ble_eq_true rfl)
  rw [lg_entry_eq]
  generalize (lg_sl ([.ref x, .int (iI (p : Int))]) ++ List.replicate (2 - (lg_sl ([.ref x, .int (iI (p : Int))])).length) Slot.unset).toArray = ls at hl ⊢
  have hl : lv_has ls 2 [(0, .ref x), (1, .int (iI (p : Int)))] := hl
  have hIn := hI.n
  have hIb := hI.b
  have g1 := hI.r1 p
  refine lv_aload_n hx hb dX0_enter_0 rfl (lv_at hl 0 rfl) ?_
  refine lv_iload_n hx hb dX0_enter_1 rfl (lv_at hl 1 rfl) ?_
  refine zc_v (va_runV (As := [.int (iI (p : Int))]) (rest := []) ⟨hx, hb, hml, hown, hts⟩ (c_X0_requirePerson l G x a σ p (by omega) (by omega)) (cwV 1 hts gX0_enter_X0_requirePerson rfl rfl rfl (by decide +kernel) ⟨Nat.le_of_ble_eq_true rfl, Nat.le_of_ble_eq_true rfl⟩) (preVX hK hP) rfl rfl hl.1 rfl (lv_room (Nat.le_of_ble_eq_true rfl)) dX0_enter_2 ⟨Nat.le_of_ble_eq_true rfl, Nat.le_of_ble_eq_true rfl⟩) ?_
  refine lv_aload_n hx hb dX0_enter_5 rfl (lv_at hl 0 rfl) ?_
  refine x_get (v := .ref (a 1)) hx hb hts hin0 hown hK hP 0 rfl 1 (by decide) w_0 rfl dX0_enter_6 ?_
  refine lv_iload_n hx hb dX0_enter_9 rfl (lv_at hl 1 rfl) ?_
  refine lv_aload_n hx hb dX0_enter_10 rfl (lv_at hl 0 rfl) ?_
  refine x_get (v := .ref (a 1)) hx hb hts hin0 hown hK hP 0 rfl 1 (by decide) w_0 rfl dX0_enter_11 ?_
  refine lv_iload_n hx hb dX0_enter_14 rfl (lv_at hl 1 rfl) ?_
  refine z_zald (v := iI (σ.2 1 p)) hx hb hK hP 2 1 rfl rfl (k := p) (by omega) (by decide) rfl dX0_enter_15 ?_
  have f_1 := hI.r1 p
  refine z_if_ne (tgt := 23) hx hb dX0_enter_16 (by decide) (by omega) (fun c_2 => ?_) (fun c_2 => ?_)
  ·
    refine lv_iconst (v := iI 0) hx hb dX0_enter_23 rfl ?_
    refine z_zast hx hb hK hP hD hS 2 1 rfl rfl (k := p) (by omega) (by decide) (by decide) xW_set1 dX0_enter_24 (fun H locs hP hD hS => ?_)
    refine lv_aload_n hx hb dX0_enter_25 rfl (lv_at hl 0 rfl) ?_
    refine x_get (v := .ref (a 1)) hx hb hts hin0 hown hK hP 0 rfl 1 (by decide) w_0 rfl dX0_enter_26 ?_
    refine lv_iload_n hx hb dX0_enter_29 rfl (lv_at hl 1 rfl) ?_
    refine z_zald (v := iI 0) hx hb hK hP 2 1 rfl rfl (k := p) (by omega) (by decide) (congrArg iI (by simp [stA, stS])) dX0_enter_30 ?_
    have hfin : (stA σ 1 p 0) = ent σ p := by unfold ent; rw [show (1 - σ.2 1 p : Int) = 0 from by omega]
    rw [hfin] at hP
    refine z_re (v' := iI (1 - σ.2 1 p)) (congrArg iI (by omega)) ?_
    exact W.zret hx hb hr (z_nb (by omega)) (fun t ht hW => ⟨⟨_, (), rfl, rfl, (by show va_P _ _ _ t.heap; rw [ht]; exact hP)⟩, hS.F ht⟩) hS.2.2 dX0_enter_31
  ·
    refine lv_iconst (v := iI 1) hx hb dX0_enter_19 rfl ?_
    refine lv_goto (tgt := 24) hx hb dX0_enter_20 (by decide) ?_
    refine z_zast hx hb hK hP hD hS 2 1 rfl rfl (k := p) (by omega) (by decide) (by decide) xW_set1 dX0_enter_24 (fun H locs hP hD hS => ?_)
    refine lv_aload_n hx hb dX0_enter_25 rfl (lv_at hl 0 rfl) ?_
    refine x_get (v := .ref (a 1)) hx hb hts hin0 hown hK hP 0 rfl 1 (by decide) w_0 rfl dX0_enter_26 ?_
    refine lv_iload_n hx hb dX0_enter_29 rfl (lv_at hl 1 rfl) ?_
    refine z_zald (v := iI 1) hx hb hK hP 2 1 rfl rfl (k := p) (by omega) (by decide) (congrArg iI (by simp [stA, stS])) dX0_enter_30 ?_
    have hfin : (stA σ 1 p 1) = ent σ p := by unfold ent; rw [show (1 - σ.2 1 p : Int) = 1 from by omega]
    rw [hfin] at hP
    refine z_re (v' := iI (1 - σ.2 1 p)) (congrArg iI (by omega)) ?_
    exact W.zret hx hb hr (z_nb (by omega)) (fun t ht hW => ⟨⟨_, (), rfl, rfl, (by show va_P _ _ _ t.heap; rw [ht]; exact hP)⟩, hS.F ht⟩) hS.2.2 dX0_enter_31
set_option maxHeartbeats 4000000 in
set_option maxRecDepth 100000 in
theorem c_X0_slight (l : Launch) (G : zG) (x : Nat) (a : Nat → Nat) (sz : Nat) (B : Nat) (σ : zS) (i : Nat) (o : Nat) (w : Int) (hI : zI B σ) (hi : i < σ.1 0) (ho : o < σ.1 0) (hne : i ≠ o) (hw : 1 ≤ w ∧ w ≤ 20) (hfree : σ.1 1 < 20) : Met l yX0_slight wsX0_slight ({ frames := 1, cells := 0, slots := 0, locals := 21 } : Room) (va_Pc [.ref x, .int (iI (i : Int)), .int (iI (o : Int)), .int (iI w)] (wX G x a σ sz)) (va_Qi (fun r (_ : Unit) => r = iI ((σ.1 1 : Nat) : Int)) (fun _ t9 => va_P G.1 vwCl (xW G x a (sli σ i o w)) t9.heap) (zA x a sz)) 0 0 (zA x a sz) := by
  refine Met.ofW (cc := cX0_slight) (maxL := 5) (ret := (some .int)) (by decide) rfl ?_
  intro pp ee s m args below meth c s₁ B9 hml hv
  obtain ⟨rfl, hsz, hP, hK, hD0⟩ := hv
  subst hsz
  have hD := xW_zA (sz := s.heap.size) hD0
  have hS : va_S (zA x a s.heap.size) s.heap s.heap [] := va_S.rf
  have hx := B9.exec
  have hb := B9.bytes
  have hr := B9.returns
  have hts := atoms_spec (ws := wsX0_slight) B9.pre
  have hown : s.vm.findClass RX0 = some m.cls := findClass_of_methodNamed B9.named
  have hlocks := B9.notSynchronized
  have hin0 : ∀ w ∈ wsX00, w ∈ wsX0_slight := by decide +kernel
  have w_0 := hts (.fieldLink RX0 60 "ApologyLedger" "slightCount" "I") (by decide +kernel)
  have w_1 := hts (.fieldLink RX0 17 "ApologyLedger" "offenders" "[I") (by decide +kernel)
  have w_2 := hts (.fieldLink RX0 20 "ApologyLedger" "offendedOnes" "[I") (by decide +kernel)
  have w_3 := hts (.fieldLink RX0 23 "ApologyLedger" "weights" "[I") (by decide +kernel)
  have hl := lv_entry ([.ref x, .int (iI (i : Int)), .int (iI (o : Int)), .int (iI w)]) (n := 5) (Nat.le_of_ble_eq_true rfl)
  rw [lg_entry_eq]
  generalize (lg_sl ([.ref x, .int (iI (i : Int)), .int (iI (o : Int)), .int (iI w)]) ++ List.replicate (5 - (lg_sl ([.ref x, .int (iI (i : Int)), .int (iI (o : Int)), .int (iI w)])).length) Slot.unset).toArray = ls at hl ⊢
  have hl : lv_has ls 5 [(0, .ref x), (1, .int (iI (i : Int))), (2, .int (iI (o : Int))), (3, .int (iI w))] := hl
  have hIn := hI.n
  have hIb := hI.b
  refine lv_aload_n hx hb dX0_slight_0 rfl (lv_at hl 0 rfl) ?_
  refine lv_iload_n hx hb dX0_slight_1 rfl (lv_at hl 1 rfl) ?_
  refine zc_v (va_runV (As := [.int (iI (i : Int))]) (rest := []) ⟨hx, hb, hml, hown, hts⟩ (c_X0_requirePerson l G x a σ i (by omega) (by omega)) (cwV 1 hts gX0_slight_X0_requirePerson rfl rfl rfl (by decide +kernel) ⟨Nat.le_of_ble_eq_true rfl, Nat.le_of_ble_eq_true rfl⟩) (preVX hK hP) rfl rfl hl.1 rfl (lv_room (Nat.le_of_ble_eq_true rfl)) dX0_slight_2 ⟨Nat.le_of_ble_eq_true rfl, Nat.le_of_ble_eq_true rfl⟩) ?_
  refine lv_aload_n hx hb dX0_slight_5 rfl (lv_at hl 0 rfl) ?_
  refine lv_iload_n hx hb dX0_slight_6 rfl (lv_at hl 2 rfl) ?_
  refine zc_v (va_runV (As := [.int (iI (o : Int))]) (rest := []) ⟨hx, hb, hml, hown, hts⟩ (c_X0_requirePerson l G x a σ o (by omega) (by omega)) (cwV 1 hts gX0_slight_X0_requirePerson rfl rfl rfl (by decide +kernel) ⟨Nat.le_of_ble_eq_true rfl, Nat.le_of_ble_eq_true rfl⟩) (preVX hK hP) rfl rfl hl.1 rfl (lv_room (Nat.le_of_ble_eq_true rfl)) dX0_slight_7 ⟨Nat.le_of_ble_eq_true rfl, Nat.le_of_ble_eq_true rfl⟩) ?_
  refine lv_iload_n hx hb dX0_slight_10 rfl (lv_at hl 1 rfl) ?_
  refine lv_iload_n hx hb dX0_slight_11 rfl (lv_at hl 2 rfl) ?_
  refine z_icmp_ne (tgt := 25) hx hb dX0_slight_12 (by decide) (by omega) (by omega) (fun c_1 => ?_) (fun c_1 => ?_)
  ·
    refine lv_iload_n hx hb dX0_slight_25 rfl (lv_at hl 3 rfl) ?_
    refine lv_iconst (v := iI 1) hx hb dX0_slight_26 rfl ?_
    refine z_icmp_lt (tgt := 36) hx hb dX0_slight_27 (by decide) (by omega) (by omega) (fun c_2 => ?_) (fun c_2 => ?_)
    ·
      exfalso
      omega
    ·
      refine lv_iload_n hx hb dX0_slight_30 rfl (lv_at hl 3 rfl) ?_
      refine lv_bipush (v := iI 20) hx hb dX0_slight_31 (by decide) ?_
      refine z_icmp_le (tgt := 46) hx hb dX0_slight_33 (by decide) (by omega) (by omega) (fun c_3 => ?_) (fun c_3 => ?_)
      ·
        refine lv_aload_n hx hb dX0_slight_46 rfl (lv_at hl 0 rfl) ?_
        refine x_get (v := .int (iI (σ.1 1 : Nat))) hx hb hts hin0 hown hK hP 0 rfl 9 (by decide) w_0 rfl dX0_slight_47 ?_
        refine lv_bipush (v := iI 20) hx hb dX0_slight_50 (by decide) ?_
        refine z_icmp_lt (tgt := 65) hx hb dX0_slight_52 (by decide) (by omega) (by omega) (fun c_4 => ?_) (fun c_4 => ?_)
        ·
          refine lv_aload_n hx hb dX0_slight_65 rfl (lv_at hl 0 rfl) ?_
          refine x_get (v := .int (iI (σ.1 1 : Nat))) hx hb hts hin0 hown hK hP 0 rfl 9 (by decide) w_0 rfl dX0_slight_66 ?_
          refine lv_istore (lv' := [(4, .int (iI (σ.1 1 : Nat))), (0, .ref x), (1, .int (iI (i : Int))), (2, .int (iI (o : Int))), (3, .int (iI w))]) hx hb dX0_slight_69 hl (by decide) rfl (fun ls hl => ?_)
          refine lv_aload_n hx hb dX0_slight_71 rfl (lv_at hl 1 rfl) ?_
          refine x_get (v := .ref (a 2)) hx hb hts hin0 hown hK hP 0 rfl 3 (by decide) w_1 rfl dX0_slight_72 ?_
          refine lv_iload hx hb dX0_slight_75 (lv_at hl 0 rfl) ?_
          refine lv_iload_n hx hb dX0_slight_77 rfl (lv_at hl 2 rfl) ?_
          refine z_iast hx hb hK hP hD hS 3 0 rfl rfl (k := σ.1 1) (by omega) (by decide) xW_set2 dX0_slight_78 (fun H locs hP hD hS => ?_)
          refine lv_aload_n hx hb dX0_slight_79 rfl (lv_at hl 1 rfl) ?_
          refine x_get (v := .ref (a 3)) hx hb hts hin0 hown hK hP 0 rfl 4 (by decide) w_2 rfl dX0_slight_80 ?_
          refine lv_iload hx hb dX0_slight_83 (lv_at hl 0 rfl) ?_
          refine lv_iload_n hx hb dX0_slight_85 rfl (lv_at hl 3 rfl) ?_
          refine z_iast hx hb hK hP hD hS 4 0 rfl rfl (k := σ.1 1) (by omega) (by decide) xW_set3 dX0_slight_86 (fun H locs hP hD hS => ?_)
          refine lv_aload_n hx hb dX0_slight_87 rfl (lv_at hl 1 rfl) ?_
          refine x_get (v := .ref (a 4)) hx hb hts hin0 hown hK hP 0 rfl 5 (by decide) w_3 rfl dX0_slight_88 ?_
          refine lv_iload hx hb dX0_slight_91 (lv_at hl 0 rfl) ?_
          refine lv_iload_n hx hb dX0_slight_93 rfl (lv_at hl 4 rfl) ?_
          refine z_iast hx hb hK hP hD hS 5 0 rfl rfl (k := σ.1 1) (by omega) (by decide) xW_set4 dX0_slight_94 (fun H locs hP hD hS => ?_)
          refine lv_aload_n hx hb dX0_slight_95 rfl (lv_at hl 1 rfl) ?_
          refine lv_iload hx hb dX0_slight_96 (lv_at hl 0 rfl) ?_
          refine lv_iconst (v := iI 1) hx hb dX0_slight_98 rfl ?_
          refine z_iadd hx hb dX0_slight_99 ?_
          refine z_re (v' := iI (((σ.1 1) + 1 : Nat) : Int)) (congrArg iI (by omega)) ?_
          refine x_put hx hb hts hin0 hown hK hP hD hS 0 rfl 9 (by decide) w_0 rfl (by decide +kernel) (Nat.le_of_ble_eq_true rfl) xW_put9 dX0_slight_100 (fun H locs hP hD hS => ?_)
          refine lv_iload hx hb dX0_slight_103 (lv_at hl 0 rfl) ?_
          have hfin : (stS (stA (stA (stA σ 2 (σ.1 1) (i : Int)) 3 (σ.1 1) (o : Int)) 4 (σ.1 1) w) 1 ((σ.1 1) + 1)) = sli σ i o w := by rfl
          rw [hfin] at hP
          refine z_re (v' := iI ((σ.1 1 : Nat) : Int)) (congrArg iI (by rfl)) ?_
          exact W.iret hx hb hr (fun t ht hW => ⟨⟨_, (), rfl, rfl, (by show va_P _ _ _ t.heap; rw [ht]; exact hP)⟩, hS.F ht⟩) hS.2.2 dX0_slight_105
        ·
          exfalso
          omega
      ·
        exfalso
        omega
  ·
    exfalso
    omega
set_option maxHeartbeats 4000000 in
set_option maxRecDepth 100000 in
theorem c_X0_mention (l : Launch) (G : zG) (x : Nat) (a : Nat → Nat) (sz : Nat) (B : Nat) (σ : zS) (k : Nat) (hI : zI B σ) (hk : k < σ.1 1) (ho : σ.2 5 k = 0) : Met l yX0_mention wsX0_mention ({ frames := 3, cells := 0, slots := 0, locals := 63 } : Room) (va_Pc [.ref x, .int (iI (k : Int))] (wX G x a σ sz)) (va_Qi (fun r (_ : Unit) => r = iI (min (σ.2 4 k + 1) 99)) (fun _ t9 => va_P G.1 vwCl (xW G x a (spk σ k)) t9.heap) (zA x a sz)) 0 0 (zA x a sz) := by
  refine Met.ofW (cc := cX0_mention) (maxL := 2) (ret := (some .int)) (by decide) rfl ?_
  intro pp ee s m args below meth c s₁ B9 hml hv
  obtain ⟨rfl, hsz, hP, hK, hD0⟩ := hv
  subst hsz
  have hD := xW_zA (sz := s.heap.size) hD0
  have hS : va_S (zA x a s.heap.size) s.heap s.heap [] := va_S.rf
  have hx := B9.exec
  have hb := B9.bytes
  have hr := B9.returns
  have hts := atoms_spec (ws := wsX0_mention) B9.pre
  have hown : s.vm.findClass RX0 = some m.cls := findClass_of_methodNamed B9.named
  have hlocks := B9.notSynchronized
  have hin0 : ∀ w ∈ wsX00, w ∈ wsX0_mention := by decide +kernel
  have w_0 := hts (.fieldLink RX0 23 "ApologyLedger" "weights" "[I") (by decide +kernel)
  have hl := lv_entry ([.ref x, .int (iI (k : Int))]) (n := 2) (Nat.le_of_ble_eq_true rfl)
  rw [lg_entry_eq]
  generalize (lg_sl ([.ref x, .int (iI (k : Int))]) ++ List.replicate (2 - (lg_sl ([.ref x, .int (iI (k : Int))])).length) Slot.unset).toArray = ls at hl ⊢
  have hl : lv_has ls 2 [(0, .ref x), (1, .int (iI (k : Int)))] := hl
  have hIn := hI.n
  have hIb := hI.b
  have g4 := hI.r4 k
  refine lv_aload_n hx hb dX0_mention_0 rfl (lv_at hl 0 rfl) ?_
  refine lv_iload_n hx hb dX0_mention_1 rfl (lv_at hl 1 rfl) ?_
  refine zc_v (va_runV (As := [.int (iI (k : Int))]) (rest := []) ⟨hx, hb, hml, hown, hts⟩ (c_X0_requireSlight l G x a σ k (by omega) (by omega)) (cwV 1 hts gX0_mention_X0_requireSlight rfl rfl rfl (by decide +kernel) ⟨Nat.le_of_ble_eq_true rfl, Nat.le_of_ble_eq_true rfl⟩) (preVX hK hP) rfl rfl hl.1 rfl (lv_room (Nat.le_of_ble_eq_true rfl)) dX0_mention_2 ⟨Nat.le_of_ble_eq_true rfl, Nat.le_of_ble_eq_true rfl⟩) ?_
  refine lv_aload_n hx hb dX0_mention_5 rfl (lv_at hl 0 rfl) ?_
  refine lv_iload_n hx hb dX0_mention_6 rfl (lv_at hl 1 rfl) ?_
  refine zc_v (va_runV (As := [.int (iI (k : Int))]) (rest := []) ⟨hx, hb, hml, hown, hts⟩ (c_X0_requireOpen l G x a B σ k hI (by omega) (by omega)) (cwV 1 hts gX0_mention_X0_requireOpen rfl rfl rfl (by decide +kernel) ⟨Nat.le_of_ble_eq_true rfl, Nat.le_of_ble_eq_true rfl⟩) (preVX hK hP) rfl rfl hl.1 rfl (lv_room (Nat.le_of_ble_eq_true rfl)) dX0_mention_7 ⟨Nat.le_of_ble_eq_true rfl, Nat.le_of_ble_eq_true rfl⟩) ?_
  refine lv_aload_n hx hb dX0_mention_10 rfl (lv_at hl 0 rfl) ?_
  refine lv_iload_n hx hb dX0_mention_11 rfl (lv_at hl 1 rfl) ?_
  refine zc_wv (va_runV (As := [.int (iI (k : Int))]) (rest := []) ⟨hx, hb, hml, hown, hts⟩ (c_X0_speakOf l G x a _ σ k (by omega) (by omega) (by omega)) (cwV 1 hts gX0_mention_X0_speakOf rfl rfl rfl (by decide +kernel) ⟨Nat.le_of_ble_eq_true rfl, Nat.le_of_ble_eq_true rfl⟩) (preWX hK hP hD) rfl rfl hl.1 rfl (lv_room (Nat.le_of_ble_eq_true rfl)) dX0_mention_12 ⟨Nat.le_of_ble_eq_true rfl, Nat.le_of_ble_eq_true rfl⟩) hS (fun q h => zA_mono hS.1 h) (fun H locs hP hS _ _ => ?_)
  have hD := xW_D (σ' := (spk σ k)) hD
  refine lv_aload_n hx hb dX0_mention_15 rfl (lv_at hl 0 rfl) ?_
  refine x_get (v := .ref (a 4)) hx hb hts hin0 hown hK hP 0 rfl 5 (by decide) w_0 rfl dX0_mention_16 ?_
  refine lv_iload_n hx hb dX0_mention_19 rfl (lv_at hl 1 rfl) ?_
  refine z_iald (v := iI ((spk σ k).2 4 k)) hx hb hK hP 5 0 rfl rfl (k := k) (by omega) (by decide) rfl dX0_mention_20 ?_
  have hfin : (spk σ k) = spk σ k := by rfl
  rw [hfin] at hP
  refine z_re (v' := iI (min (σ.2 4 k + 1) 99)) (congrArg iI (by simp [spk, stA])) ?_
  exact W.iret hx hb hr (fun t ht hW => ⟨⟨_, (), rfl, rfl, (by show va_P _ _ _ t.heap; rw [ht]; exact hP)⟩, hS.F ht⟩) hS.2.2 dX0_mention_21
set_option maxHeartbeats 4000000 in
set_option maxRecDepth 100000 in
theorem c_X0_setPride (l : Launch) (G : zG) (x : Nat) (a : Nat → Nat) (sz : Nat) (B : Nat) (σ : zS) (p : Nat) (z : Int) (hI : zI B σ) (hp : p < σ.1 0) (hz : 0 ≤ z ∧ z ≤ 9) : Met l yX0_setPride wsX0_setPride ({ frames := 1, cells := 0, slots := 0, locals := 21 } : Room) (va_Pc [.ref x, .int (iI (p : Int)), .int (iI z)] (wX G x a σ sz)) (va_Qi (fun r (_ : Unit) => r = iI (σ.2 0 p)) (fun _ t9 => va_P G.1 vwCl (xW G x a (stA σ 0 p z)) t9.heap) (zA x a sz)) 0 0 (zA x a sz) := by
  refine Met.ofW (cc := cX0_setPride) (maxL := 4) (ret := (some .int)) (by decide) rfl ?_
  intro pp ee s m args below meth c s₁ B9 hml hv
  obtain ⟨rfl, hsz, hP, hK, hD0⟩ := hv
  subst hsz
  have hD := xW_zA (sz := s.heap.size) hD0
  have hS : va_S (zA x a s.heap.size) s.heap s.heap [] := va_S.rf
  have hx := B9.exec
  have hb := B9.bytes
  have hr := B9.returns
  have hts := atoms_spec (ws := wsX0_setPride) B9.pre
  have hown : s.vm.findClass RX0 = some m.cls := findClass_of_methodNamed B9.named
  have hlocks := B9.notSynchronized
  have hin0 : ∀ w ∈ wsX00, w ∈ wsX0_setPride := by decide +kernel
  have w_0 := hts (.fieldLink RX0 9 "ApologyLedger" "prides" "[I") (by decide +kernel)
  have hl := lv_entry ([.ref x, .int (iI (p : Int)), .int (iI z)]) (n := 4) (Nat.le_of_ble_eq_true rfl)
  rw [lg_entry_eq]
  generalize (lg_sl ([.ref x, .int (iI (p : Int)), .int (iI z)]) ++ List.replicate (4 - (lg_sl ([.ref x, .int (iI (p : Int)), .int (iI z)])).length) Slot.unset).toArray = ls at hl ⊢
  have hl : lv_has ls 4 [(0, .ref x), (1, .int (iI (p : Int))), (2, .int (iI z))] := hl
  have hIn := hI.n
  have hIb := hI.b
  refine lv_aload_n hx hb dX0_setPride_0 rfl (lv_at hl 0 rfl) ?_
  refine lv_iload_n hx hb dX0_setPride_1 rfl (lv_at hl 1 rfl) ?_
  refine zc_v (va_runV (As := [.int (iI (p : Int))]) (rest := []) ⟨hx, hb, hml, hown, hts⟩ (c_X0_requirePerson l G x a σ p (by omega) (by omega)) (cwV 1 hts gX0_setPride_X0_requirePerson rfl rfl rfl (by decide +kernel) ⟨Nat.le_of_ble_eq_true rfl, Nat.le_of_ble_eq_true rfl⟩) (preVX hK hP) rfl rfl hl.1 rfl (lv_room (Nat.le_of_ble_eq_true rfl)) dX0_setPride_2 ⟨Nat.le_of_ble_eq_true rfl, Nat.le_of_ble_eq_true rfl⟩) ?_
  refine lv_iload_n hx hb dX0_setPride_5 rfl (lv_at hl 2 rfl) ?_
  refine zc_v (va_runS (As := [.int (iI z)]) (rest := []) ⟨hx, hb, hml, hown, hts⟩ (c_X0_requirePride l  z (by omega)) (va_cwS 1 hts gX0_setPride_X0_requirePride rfl rfl rfl (by decide +kernel) ⟨Nat.le_of_ble_eq_true rfl, Nat.le_of_ble_eq_true rfl⟩) preS0 rfl rfl hl.1 rfl (lv_room (Nat.le_of_ble_eq_true rfl)) dX0_setPride_6 ⟨Nat.le_of_ble_eq_true rfl, Nat.le_of_ble_eq_true rfl⟩) ?_
  refine lv_aload_n hx hb dX0_setPride_9 rfl (lv_at hl 0 rfl) ?_
  refine x_get (v := .ref (a 0)) hx hb hts hin0 hown hK hP 0 rfl 0 (by decide) w_0 rfl dX0_setPride_10 ?_
  refine lv_iload_n hx hb dX0_setPride_13 rfl (lv_at hl 1 rfl) ?_
  refine z_iald (v := iI (σ.2 0 p)) hx hb hK hP 1 0 rfl rfl (k := p) (by omega) (by decide) rfl dX0_setPride_14 ?_
  have f_1 := hI.r0 p
  refine lv_istore_n (lv' := [(3, .int (iI (σ.2 0 p))), (0, .ref x), (1, .int (iI (p : Int))), (2, .int (iI z))]) hx hb dX0_setPride_15 rfl hl (by decide) rfl (fun ls hl => ?_)
  refine lv_aload_n hx hb dX0_setPride_16 rfl (lv_at hl 1 rfl) ?_
  refine x_get (v := .ref (a 0)) hx hb hts hin0 hown hK hP 0 rfl 0 (by decide) w_0 rfl dX0_setPride_17 ?_
  refine lv_iload_n hx hb dX0_setPride_20 rfl (lv_at hl 2 rfl) ?_
  refine lv_iload_n hx hb dX0_setPride_21 rfl (lv_at hl 3 rfl) ?_
  refine z_iast hx hb hK hP hD hS 1 0 rfl rfl (k := p) (by omega) (by decide) xW_set0 dX0_setPride_22 (fun H locs hP hD hS => ?_)
  refine lv_iload_n hx hb dX0_setPride_23 rfl (lv_at hl 0 rfl) ?_
  have hfin : (stA σ 0 p z) = stA σ 0 p z := by rfl
  rw [hfin] at hP
  refine z_re (v' := iI (σ.2 0 p)) (congrArg iI (by rfl)) ?_
  exact W.iret hx hb hr (fun t ht hW => ⟨⟨_, (), rfl, rfl, (by show va_P _ _ _ t.heap; rw [ht]; exact hP)⟩, hS.F ht⟩) hS.2.2 dX0_setPride_24
set_option maxHeartbeats 4000000 in
set_option maxRecDepth 100000 in
theorem c_X0_apologize (l : Launch) (G : zG) (x : Nat) (a : Nat → Nat) (sz : Nat) (B : Nat) (σ : zS) (k : Nat) (w : Int) (hI : zI B σ) (hk : k < σ.1 1) (hw : 1 ≤ w ∧ w ≤ 20) (ho : σ.2 5 k = 0) : Met l yX0_apologize wsX0_apologize ({ frames := 3, cells := 0, slots := 0, locals := 67 } : Room) (va_Pc [.ref x, .int (iI (k : Int)), .int (iI w)] (wX G x a σ sz)) (va_Qi (fun r (_ : Unit) => r = iI ((apo σ k w).2 4 k)) (fun _ t9 => va_P G.1 vwCl (xW G x a (apo σ k w)) t9.heap) (zA x a sz)) 0 0 (zA x a sz) := by
  refine Met.ofW (cc := cX0_apologize) (maxL := 4) (ret := (some .int)) (by decide) rfl ?_
  intro pp ee s m args below meth c s₁ B9 hml hv
  obtain ⟨rfl, hsz, hP, hK, hD0⟩ := hv
  subst hsz
  have hD := xW_zA (sz := s.heap.size) hD0
  have hS : va_S (zA x a s.heap.size) s.heap s.heap [] := va_S.rf
  have hx := B9.exec
  have hb := B9.bytes
  have hr := B9.returns
  have hts := atoms_spec (ws := wsX0_apologize) B9.pre
  have hown : s.vm.findClass RX0 = some m.cls := findClass_of_methodNamed B9.named
  have hlocks := B9.notSynchronized
  have hin0 : ∀ w ∈ wsX00, w ∈ wsX0_apologize := by decide +kernel
  have w_0 := hts (.fieldLink RX0 23 "ApologyLedger" "weights" "[I") (by decide +kernel)
  have w_1 := hts (.fieldLink RX0 85 "ApologyLedger" "scornedCount" "I") (by decide +kernel)
  have hl := lv_entry ([.ref x, .int (iI (k : Int)), .int (iI w)]) (n := 4) (Nat.le_of_ble_eq_true rfl)
  rw [lg_entry_eq]
  generalize (lg_sl ([.ref x, .int (iI (k : Int)), .int (iI w)]) ++ List.replicate (4 - (lg_sl ([.ref x, .int (iI (k : Int)), .int (iI w)])).length) Slot.unset).toArray = ls at hl ⊢
  have hl : lv_has ls 4 [(0, .ref x), (1, .int (iI (k : Int))), (2, .int (iI w))] := hl
  have hIn := hI.n
  have hIb := hI.b
  have g4 := hI.r4 k
  refine lv_aload_n hx hb dX0_apologize_0 rfl (lv_at hl 0 rfl) ?_
  refine lv_iload_n hx hb dX0_apologize_1 rfl (lv_at hl 1 rfl) ?_
  refine zc_v (va_runV (As := [.int (iI (k : Int))]) (rest := []) ⟨hx, hb, hml, hown, hts⟩ (c_X0_requireSlight l G x a σ k (by omega) (by omega)) (cwV 1 hts gX0_apologize_X0_requireSlight rfl rfl rfl (by decide +kernel) ⟨Nat.le_of_ble_eq_true rfl, Nat.le_of_ble_eq_true rfl⟩) (preVX hK hP) rfl rfl hl.1 rfl (lv_room (Nat.le_of_ble_eq_true rfl)) dX0_apologize_2 ⟨Nat.le_of_ble_eq_true rfl, Nat.le_of_ble_eq_true rfl⟩) ?_
  refine lv_iload_n hx hb dX0_apologize_5 rfl (lv_at hl 2 rfl) ?_
  refine zc_v (va_runS (As := [.int (iI w)]) (rest := []) ⟨hx, hb, hml, hown, hts⟩ (c_X0_requireWords l  w (by omega)) (va_cwS 1 hts gX0_apologize_X0_requireWords rfl rfl rfl (by decide +kernel) ⟨Nat.le_of_ble_eq_true rfl, Nat.le_of_ble_eq_true rfl⟩) preS0 rfl rfl hl.1 rfl (lv_room (Nat.le_of_ble_eq_true rfl)) dX0_apologize_6 ⟨Nat.le_of_ble_eq_true rfl, Nat.le_of_ble_eq_true rfl⟩) ?_
  refine lv_aload_n hx hb dX0_apologize_9 rfl (lv_at hl 0 rfl) ?_
  refine lv_iload_n hx hb dX0_apologize_10 rfl (lv_at hl 1 rfl) ?_
  refine zc_v (va_runV (As := [.int (iI (k : Int))]) (rest := []) ⟨hx, hb, hml, hown, hts⟩ (c_X0_requireOpen l G x a B σ k hI (by omega) (by omega)) (cwV 1 hts gX0_apologize_X0_requireOpen rfl rfl rfl (by decide +kernel) ⟨Nat.le_of_ble_eq_true rfl, Nat.le_of_ble_eq_true rfl⟩) (preVX hK hP) rfl rfl hl.1 rfl (lv_room (Nat.le_of_ble_eq_true rfl)) dX0_apologize_11 ⟨Nat.le_of_ble_eq_true rfl, Nat.le_of_ble_eq_true rfl⟩) ?_
  refine lv_aload_n hx hb dX0_apologize_14 rfl (lv_at hl 0 rfl) ?_
  refine lv_iload_n hx hb dX0_apologize_15 rfl (lv_at hl 1 rfl) ?_
  refine lv_iload_n hx hb dX0_apologize_16 rfl (lv_at hl 2 rfl) ?_
  refine zc_i (va_runV (As := [.int (iI (k : Int)), .int (iI w)]) (rest := []) ⟨hx, hb, hml, hown, hts⟩ (c_X0_worthOf l G x a B σ k w hI (by omega) (by omega)) (cwV 2 hts gX0_apologize_X0_worthOf rfl rfl rfl (by decide +kernel) ⟨Nat.le_of_ble_eq_true rfl, Nat.le_of_ble_eq_true rfl⟩) (preVX hK hP) rfl rfl hl.1 rfl (lv_room (Nat.le_of_ble_eq_true rfl)) dX0_apologize_17 ⟨Nat.le_of_ble_eq_true rfl, Nat.le_of_ble_eq_true rfl⟩) ?_
  have f_1 := wit_bd hI k
  refine lv_istore_n (lv' := [(3, .int (iI (w + 2 * wit σ k))), (0, .ref x), (1, .int (iI (k : Int))), (2, .int (iI w))]) hx hb dX0_apologize_20 rfl hl (by decide) rfl (fun ls hl => ?_)
  refine lv_iload_n hx hb dX0_apologize_21 rfl (lv_at hl 0 rfl) ?_
  refine lv_aload_n hx hb dX0_apologize_22 rfl (lv_at hl 1 rfl) ?_
  refine lv_iload_n hx hb dX0_apologize_23 rfl (lv_at hl 2 rfl) ?_
  refine zc_i (va_runV (As := [.int (iI (k : Int))]) (rest := [.int (iI (w + 2 * wit σ k))]) ⟨hx, hb, hml, hown, hts⟩ (c_X0_leastWorthHeard l G x a B σ k hI (by omega)) (cwV 1 hts gX0_apologize_X0_leastWorthHeard rfl rfl rfl (by decide +kernel) ⟨Nat.le_of_ble_eq_true rfl, Nat.le_of_ble_eq_true rfl⟩) (preVX hK hP) rfl rfl hl.1 rfl (lv_room (Nat.le_of_ble_eq_true rfl)) dX0_apologize_24 ⟨Nat.le_of_ble_eq_true rfl, Nat.le_of_ble_eq_true rfl⟩) ?_
  have f_2 := lea_bd hI k
  refine z_icmp_ge (tgt := 48) hx hb dX0_apologize_27 (by decide) (by omega) (by omega) (fun c_3 => ?_) (fun c_3 => ?_)
  ·
    refine lv_aload_n hx hb dX0_apologize_48 rfl (lv_at hl 1 rfl) ?_
    refine lv_iload_n hx hb dX0_apologize_49 rfl (lv_at hl 2 rfl) ?_
    refine lv_iload_n hx hb dX0_apologize_50 rfl (lv_at hl 0 rfl) ?_
    refine lv_iconst (v := iI 1) hx hb dX0_apologize_51 rfl ?_
    refine zc_wv (va_runV (As := [.int (iI (k : Int)), .int (iI (w + 2 * wit σ k)), .int (iI 1)]) (rest := []) ⟨hx, hb, hml, hown, hts⟩ (c_X0_lighten l G x a _ σ k (w + 2 * wit σ k) 1 hIn.2 hk g4 (by omega)) (cwV 3 hts gX0_apologize_X0_lighten rfl rfl rfl (by decide +kernel) ⟨Nat.le_of_ble_eq_true rfl, Nat.le_of_ble_eq_true rfl⟩) (preWX hK hP hD) rfl rfl hl.1 rfl (lv_room (Nat.le_of_ble_eq_true rfl)) dX0_apologize_52 ⟨Nat.le_of_ble_eq_true rfl, Nat.le_of_ble_eq_true rfl⟩) hS (fun q h => zA_mono hS.1 h) (fun H locs hP hS _ _ => ?_)
    have hD := xW_D (σ' := (lit σ k (w + 2 * wit σ k) 1)) hD
    refine lv_aload_n hx hb dX0_apologize_55 rfl (lv_at hl 1 rfl) ?_
    refine x_get (v := .ref (a 4)) hx hb hts hin0 hown hK hP 0 rfl 5 (by decide) w_0 rfl dX0_apologize_56 ?_
    refine lv_iload_n hx hb dX0_apologize_59 rfl (lv_at hl 2 rfl) ?_
    refine z_iald (v := iI ((lit σ k (w + 2 * wit σ k) 1).2 4 k)) hx hb hK hP 5 0 rfl rfl (k := k) (by omega) (by decide) rfl dX0_apologize_60 ?_
    have hfin : (lit σ k (w + 2 * wit σ k) 1) = apo σ k w := by first | exact (if_pos (by omega)).symm | exact (if_neg (by omega)).symm
    rw [hfin] at hP
    refine z_re (v' := iI ((apo σ k w).2 4 k)) (congrArg iI (by rw [hfin])) ?_
    exact W.iret hx hb hr (fun t ht hW => ⟨⟨_, (), rfl, rfl, (by show va_P _ _ _ t.heap; rw [ht]; exact hP)⟩, hS.F ht⟩) hS.2.2 dX0_apologize_61
  ·
    refine lv_aload_n hx hb dX0_apologize_30 rfl (lv_at hl 1 rfl) ?_
    refine lv_dup hx hb dX0_apologize_31 rfl ?_
    refine x_get (v := .int (iI (σ.1 3 : Nat))) hx hb hts hin0 hown hK hP 0 rfl 11 (by decide) w_1 rfl dX0_apologize_32 ?_
    refine lv_iconst (v := iI 1) hx hb dX0_apologize_35 rfl ?_
    refine z_iadd hx hb dX0_apologize_36 ?_
    refine z_re (v' := iI (((σ.1 3) + 1 : Nat) : Int)) (congrArg iI (by omega)) ?_
    refine x_put hx hb hts hin0 hown hK hP hD hS 0 rfl 11 (by decide) w_1 rfl (by decide +kernel) (Nat.le_of_ble_eq_true rfl) xW_put11 dX0_apologize_37 (fun H locs hP hD hS => ?_)
    refine lv_aload_n hx hb dX0_apologize_40 rfl (lv_at hl 1 rfl) ?_
    refine lv_iload_n hx hb dX0_apologize_41 rfl (lv_at hl 2 rfl) ?_
    refine zc_wv (va_runV (As := [.int (iI (k : Int))]) (rest := []) ⟨hx, hb, hml, hown, hts⟩ (c_X0_speakOf l G x a _ (stS σ 3 ((σ.1 3) + 1)) k hIn.2 hk g4) (cwV 1 hts gX0_apologize_X0_speakOf rfl rfl rfl (by decide +kernel) ⟨Nat.le_of_ble_eq_true rfl, Nat.le_of_ble_eq_true rfl⟩) (preWX hK hP hD) rfl rfl hl.1 rfl (lv_room (Nat.le_of_ble_eq_true rfl)) dX0_apologize_42 ⟨Nat.le_of_ble_eq_true rfl, Nat.le_of_ble_eq_true rfl⟩) hS (fun q h => zA_mono hS.1 h) (fun H locs hP hS _ _ => ?_)
    have hD := xW_D (σ' := (spk (stS σ 3 ((σ.1 3) + 1)) k)) hD
    refine lv_goto (tgt := 55) hx hb dX0_apologize_45 (by decide) ?_
    refine lv_aload_n hx hb dX0_apologize_55 rfl (lv_at hl 1 rfl) ?_
    refine x_get (v := .ref (a 4)) hx hb hts hin0 hown hK hP 0 rfl 5 (by decide) w_0 rfl dX0_apologize_56 ?_
    refine lv_iload_n hx hb dX0_apologize_59 rfl (lv_at hl 2 rfl) ?_
    refine z_iald (v := iI ((spk (stS σ 3 ((σ.1 3) + 1)) k).2 4 k)) hx hb hK hP 5 0 rfl rfl (k := k) (by omega) (by decide) rfl dX0_apologize_60 ?_
    have hfin : (spk (stS σ 3 ((σ.1 3) + 1)) k) = apo σ k w := by first | exact (if_pos (by omega)).symm | exact (if_neg (by omega)).symm
    rw [hfin] at hP
    refine z_re (v' := iI ((apo σ k w).2 4 k)) (congrArg iI (by rw [hfin])) ?_
    exact W.iret hx hb hr (fun t ht hW => ⟨⟨_, (), rfl, rfl, (by show va_P _ _ _ t.heap; rw [ht]; exact hP)⟩, hS.F ht⟩) hS.2.2 dX0_apologize_61
set_option maxHeartbeats 4000000 in
set_option maxRecDepth 100000 in
theorem c_X0_setOff (l : Launch) (G : zG) (x : Nat) (a : Nat → Nat) (sz : Nat) (B : Nat) (σ : zS) (i : Nat) (o : Nat) (hI : zI B σ) (hi : i < σ.1 1) (ho : o < σ.1 1) (h4 : σ.2 5 i = 0) (h5 : σ.2 5 o = 0) (hq : agn σ i o = 1) : Met l yX0_setOff wsX0_setOff ({ frames := 3, cells := 0, slots := 0, locals := 67 } : Room) (va_Pc [.ref x, .int (iI (i : Int)), .int (iI (o : Int))] (wX G x a σ sz)) (va_Qi (fun r (_ : Unit) => r = iI (min (σ.2 4 i) (σ.2 4 o))) (fun _ t9 => va_P G.1 vwCl (xW G x a (sof σ i o)) t9.heap) (zA x a sz)) 0 0 (zA x a sz) := by
  refine Met.ofW (cc := cX0_setOff) (maxL := 4) (ret := (some .int)) (by decide) rfl ?_
  intro pp ee s m args below meth c s₁ B9 hml hv
  obtain ⟨rfl, hsz, hP, hK, hD0⟩ := hv
  subst hsz
  have hD := xW_zA (sz := s.heap.size) hD0
  have hS : va_S (zA x a s.heap.size) s.heap s.heap [] := va_S.rf
  have hx := B9.exec
  have hb := B9.bytes
  have hr := B9.returns
  have hts := atoms_spec (ws := wsX0_setOff) B9.pre
  have hown : s.vm.findClass RX0 = some m.cls := findClass_of_methodNamed B9.named
  have hlocks := B9.notSynchronized
  have hin0 : ∀ w ∈ wsX00, w ∈ wsX0_setOff := by decide +kernel
  have w_0 := hts (.fieldLink RX0 23 "ApologyLedger" "weights" "[I") (by decide +kernel)
  have w_1 := hts (.methodLink RX0 98 Lib.Math.min.name) (by decide +kernel)
  have w_2 := hts (.static Lib.Math.min.name) (by decide +kernel)
  have w_3 := hts (.initialized "java/lang/Math") (by decide +kernel)
  have w_4 := hts (.code Lib.Math.min.name Lib.Math.min.code 2 (some .int)) (by decide +kernel)
  have hl := lv_entry ([.ref x, .int (iI (i : Int)), .int (iI (o : Int))]) (n := 4) (Nat.le_of_ble_eq_true rfl)
  rw [lg_entry_eq]
  generalize (lg_sl ([.ref x, .int (iI (i : Int)), .int (iI (o : Int))]) ++ List.replicate (4 - (lg_sl ([.ref x, .int (iI (i : Int)), .int (iI (o : Int))])).length) Slot.unset).toArray = ls at hl ⊢
  have hl : lv_has ls 4 [(0, .ref x), (1, .int (iI (i : Int))), (2, .int (iI (o : Int)))] := hl
  have hIn := hI.n
  have hIb := hI.b
  have g4 := hI.r4 i
  have g5 := hI.r4 o
  have hne := agn_ne hI hi hq
  refine lv_aload_n hx hb dX0_setOff_0 rfl (lv_at hl 0 rfl) ?_
  refine lv_iload_n hx hb dX0_setOff_1 rfl (lv_at hl 1 rfl) ?_
  refine zc_v (va_runV (As := [.int (iI (i : Int))]) (rest := []) ⟨hx, hb, hml, hown, hts⟩ (c_X0_requireSlight l G x a σ i (by omega) (by omega)) (cwV 1 hts gX0_setOff_X0_requireSlight rfl rfl rfl (by decide +kernel) ⟨Nat.le_of_ble_eq_true rfl, Nat.le_of_ble_eq_true rfl⟩) (preVX hK hP) rfl rfl hl.1 rfl (lv_room (Nat.le_of_ble_eq_true rfl)) dX0_setOff_2 ⟨Nat.le_of_ble_eq_true rfl, Nat.le_of_ble_eq_true rfl⟩) ?_
  refine lv_aload_n hx hb dX0_setOff_5 rfl (lv_at hl 0 rfl) ?_
  refine lv_iload_n hx hb dX0_setOff_6 rfl (lv_at hl 2 rfl) ?_
  refine zc_v (va_runV (As := [.int (iI (o : Int))]) (rest := []) ⟨hx, hb, hml, hown, hts⟩ (c_X0_requireSlight l G x a σ o (by omega) (by omega)) (cwV 1 hts gX0_setOff_X0_requireSlight rfl rfl rfl (by decide +kernel) ⟨Nat.le_of_ble_eq_true rfl, Nat.le_of_ble_eq_true rfl⟩) (preVX hK hP) rfl rfl hl.1 rfl (lv_room (Nat.le_of_ble_eq_true rfl)) dX0_setOff_7 ⟨Nat.le_of_ble_eq_true rfl, Nat.le_of_ble_eq_true rfl⟩) ?_
  refine lv_aload_n hx hb dX0_setOff_10 rfl (lv_at hl 0 rfl) ?_
  refine lv_iload_n hx hb dX0_setOff_11 rfl (lv_at hl 1 rfl) ?_
  refine zc_v (va_runV (As := [.int (iI (i : Int))]) (rest := []) ⟨hx, hb, hml, hown, hts⟩ (c_X0_requireOpen l G x a B σ i hI (by omega) (by omega)) (cwV 1 hts gX0_setOff_X0_requireOpen rfl rfl rfl (by decide +kernel) ⟨Nat.le_of_ble_eq_true rfl, Nat.le_of_ble_eq_true rfl⟩) (preVX hK hP) rfl rfl hl.1 rfl (lv_room (Nat.le_of_ble_eq_true rfl)) dX0_setOff_12 ⟨Nat.le_of_ble_eq_true rfl, Nat.le_of_ble_eq_true rfl⟩) ?_
  refine lv_aload_n hx hb dX0_setOff_15 rfl (lv_at hl 0 rfl) ?_
  refine lv_iload_n hx hb dX0_setOff_16 rfl (lv_at hl 2 rfl) ?_
  refine zc_v (va_runV (As := [.int (iI (o : Int))]) (rest := []) ⟨hx, hb, hml, hown, hts⟩ (c_X0_requireOpen l G x a B σ o hI (by omega) (by omega)) (cwV 1 hts gX0_setOff_X0_requireOpen rfl rfl rfl (by decide +kernel) ⟨Nat.le_of_ble_eq_true rfl, Nat.le_of_ble_eq_true rfl⟩) (preVX hK hP) rfl rfl hl.1 rfl (lv_room (Nat.le_of_ble_eq_true rfl)) dX0_setOff_17 ⟨Nat.le_of_ble_eq_true rfl, Nat.le_of_ble_eq_true rfl⟩) ?_
  refine lv_aload_n hx hb dX0_setOff_20 rfl (lv_at hl 0 rfl) ?_
  refine lv_iload_n hx hb dX0_setOff_21 rfl (lv_at hl 1 rfl) ?_
  refine lv_iload_n hx hb dX0_setOff_22 rfl (lv_at hl 2 rfl) ?_
  refine zc_i (va_runV (As := [.int (iI (i : Int)), .int (iI (o : Int))]) (rest := []) ⟨hx, hb, hml, hown, hts⟩ (c_X0_areAgainstEachOther l G x a B σ i o hI (by omega) (by omega)) (cwV 2 hts gX0_setOff_X0_areAgainstEachOther rfl rfl rfl (by decide +kernel) ⟨Nat.le_of_ble_eq_true rfl, Nat.le_of_ble_eq_true rfl⟩) (preVX hK hP) rfl rfl hl.1 rfl (lv_room (Nat.le_of_ble_eq_true rfl)) dX0_setOff_23 ⟨Nat.le_of_ble_eq_true rfl, Nat.le_of_ble_eq_true rfl⟩) ?_
  have f_1 := agn_bd σ i o
  refine z_if_ne (tgt := 39) hx hb dX0_setOff_26 (by decide) (by omega) (fun c_2 => ?_) (fun c_2 => ?_)
  ·
    refine lv_aload_n hx hb dX0_setOff_39 rfl (lv_at hl 0 rfl) ?_
    refine x_get (v := .ref (a 4)) hx hb hts hin0 hown hK hP 0 rfl 5 (by decide) w_0 rfl dX0_setOff_40 ?_
    refine lv_iload_n hx hb dX0_setOff_43 rfl (lv_at hl 1 rfl) ?_
    refine z_iald (v := iI (σ.2 4 i)) hx hb hK hP 5 0 rfl rfl (k := i) (by omega) (by decide) rfl dX0_setOff_44 ?_
    have f_3 := hI.r4 i
    refine lv_aload_n hx hb dX0_setOff_45 rfl (lv_at hl 0 rfl) ?_
    refine x_get (v := .ref (a 4)) hx hb hts hin0 hown hK hP 0 rfl 5 (by decide) w_0 rfl dX0_setOff_46 ?_
    refine lv_iload_n hx hb dX0_setOff_49 rfl (lv_at hl 2 rfl) ?_
    refine z_iald (v := iI (σ.2 4 o)) hx hb hK hP 5 0 rfl rfl (k := o) (by omega) (by decide) rfl dX0_setOff_50 ?_
    have f_4 := hI.r4 o
    refine z_min hx hb (by rw [hml]; exact hl.1.symm) hown w_1 w_2 w_3 w_4 (Nat.le_of_ble_eq_true rfl) (Nat.le_of_ble_eq_true rfl) (Nat.le_of_ble_eq_true rfl) (Nat.le_of_ble_eq_true rfl) (by omega) (by omega) dX0_setOff_51 ?_
    refine lv_istore_n (lv' := [(3, .int (iI (min (σ.2 4 i) (σ.2 4 o)))), (0, .ref x), (1, .int (iI (i : Int))), (2, .int (iI (o : Int)))]) hx hb dX0_setOff_54 rfl hl (by decide) rfl (fun ls hl => ?_)
    refine lv_aload_n hx hb dX0_setOff_55 rfl (lv_at hl 1 rfl) ?_
    refine lv_iload_n hx hb dX0_setOff_56 rfl (lv_at hl 2 rfl) ?_
    refine lv_iload_n hx hb dX0_setOff_57 rfl (lv_at hl 0 rfl) ?_
    refine lv_iconst (v := iI 3) hx hb dX0_setOff_58 rfl ?_
    refine zc_wv (va_runV (As := [.int (iI (i : Int)), .int (iI (min (σ.2 4 i) (σ.2 4 o))), .int (iI 3)]) (rest := []) ⟨hx, hb, hml, hown, hts⟩ (c_X0_lighten l G x a _ σ i (min (σ.2 4 i) (σ.2 4 o)) 3 hIn.2 hi g4 (by omega)) (cwV 3 hts gX0_setOff_X0_lighten rfl rfl rfl (by decide +kernel) ⟨Nat.le_of_ble_eq_true rfl, Nat.le_of_ble_eq_true rfl⟩) (preWX hK hP hD) rfl rfl hl.1 rfl (lv_room (Nat.le_of_ble_eq_true rfl)) dX0_setOff_59 ⟨Nat.le_of_ble_eq_true rfl, Nat.le_of_ble_eq_true rfl⟩) hS (fun q h => zA_mono hS.1 h) (fun H locs hP hS _ _ => ?_)
    have hD := xW_D (σ' := (lit σ i (min (σ.2 4 i) (σ.2 4 o)) 3)) hD
    refine lv_aload_n hx hb dX0_setOff_62 rfl (lv_at hl 1 rfl) ?_
    refine lv_iload_n hx hb dX0_setOff_63 rfl (lv_at hl 3 rfl) ?_
    refine lv_iload_n hx hb dX0_setOff_64 rfl (lv_at hl 0 rfl) ?_
    refine lv_iconst (v := iI 3) hx hb dX0_setOff_65 rfl ?_
    refine zc_wv (va_runV (As := [.int (iI (o : Int)), .int (iI (min (σ.2 4 i) (σ.2 4 o))), .int (iI 3)]) (rest := []) ⟨hx, hb, hml, hown, hts⟩ (c_X0_lighten l G x a _ (lit σ i (min (σ.2 4 i) (σ.2 4 o)) 3) o (min (σ.2 4 i) (σ.2 4 o)) 3 (by rw [lit_n]; exact hIn.2) (by rw [lit_n]; exact ho) (by rw [lit_ne hne]; exact g5) (by omega)) (cwV 3 hts gX0_setOff_X0_lighten rfl rfl rfl (by decide +kernel) ⟨Nat.le_of_ble_eq_true rfl, Nat.le_of_ble_eq_true rfl⟩) (preWX hK hP hD) rfl rfl hl.1 rfl (lv_room (Nat.le_of_ble_eq_true rfl)) dX0_setOff_66 ⟨Nat.le_of_ble_eq_true rfl, Nat.le_of_ble_eq_true rfl⟩) hS (fun q h => zA_mono hS.1 h) (fun H locs hP hS _ _ => ?_)
    have hD := xW_D (σ' := (lit (lit σ i (min (σ.2 4 i) (σ.2 4 o)) 3) o (min (σ.2 4 i) (σ.2 4 o)) 3)) hD
    refine lv_iload_n hx hb dX0_setOff_69 rfl (lv_at hl 0 rfl) ?_
    have hfin : (lit (lit σ i (min (σ.2 4 i) (σ.2 4 o)) 3) o (min (σ.2 4 i) (σ.2 4 o)) 3) = sof σ i o := by rfl
    rw [hfin] at hP
    refine z_re (v' := iI (min (σ.2 4 i) (σ.2 4 o))) (congrArg iI (by rfl)) ?_
    exact W.iret hx hb hr (fun t ht hW => ⟨⟨_, (), rfl, rfl, (by show va_P _ _ _ t.heap; rw [ht]; exact hP)⟩, hS.F ht⟩) hS.2.2 dX0_setOff_70
  ·
    exfalso
    omega
