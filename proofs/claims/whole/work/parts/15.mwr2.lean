/-! THE REFERENCE: its calls. -/
set_option maxHeartbeats 4000000 in
set_option maxRecDepth 100000 in
theorem v_X1_sorest (l : Launch) (G : zG) (x : Nat) (a : Nat → Nat) (sz : Nat) (B : Nat) (σ : zS) (t : Nat) (hI : zI B σ) : Met l yX1_sorest wsX1_sorest ({ frames := 2, cells := 0, slots := 0, locals := 46 } : Room) (va_Pc [.ref x] (wM G x a t σ sz)) (va_Qi (fun r (_ : Unit) => r = iI (sor σ)) (fun _ t9 => va_P G.1 vwCl (mW G x a 0 σ) t9.heap) (zA x a sz)) 0 0 (zA x a sz) := by
  refine Met.ofW (cc := cX1_sorest) (maxL := 1) (ret := (some .int)) (by decide) rfl ?_
  intro pp ee s m args below meth c s₁ B9 hml hv
  obtain ⟨rfl, hsz, hP, hK, hD0⟩ := hv
  subst hsz
  have hD := mW_zA (sz := s.heap.size) hD0
  have hS : va_S (zA x a s.heap.size) s.heap s.heap [] := va_S.rf
  have hx := B9.exec
  have hb := B9.bytes
  have hr := B9.returns
  have hts := atoms_spec (ws := wsX1_sorest) B9.pre
  have hown : s.vm.findClass RX1 = some m.cls := findClass_of_methodNamed B9.named
  have hlocks := B9.notSynchronized
  have hin0 : ∀ w ∈ wsX10, w ∈ wsX1_sorest := by decide +kernel
  have hl := lv_entry ([.ref x]) (n := 1) (Nat.le_of_ble_eq_true rfl)
  rw [lg_entry_eq]
  generalize (lg_sl ([.ref x]) ++ List.replicate (1 - (lg_sl ([.ref x])).length) Slot.unset).toArray = ls at hl ⊢
  have hl : lv_has ls 1 [(0, .ref x)] := hl
  have hIn := hI.n
  have hIb := hI.b
  refine lv_aload_n hx hb dX1_sorest_0 rfl (lv_at hl 0 rfl) ?_
  refine lv_aload_n hx hb dX1_sorest_1 rfl (lv_at hl 0 rfl) ?_
  refine zc_i (va_runV (As := []) (rest := [.ref x]) ⟨hx, hb, hml, hown, hts⟩ (c_X1_sore l G x a B σ t hI) (cwV 0 hts gX1_sorest_X1_sore rfl rfl rfl (by decide +kernel) ⟨Nat.le_of_ble_eq_true rfl, Nat.le_of_ble_eq_true rfl⟩) (preVM hK hP) rfl rfl hl.1 rfl (lv_room (Nat.le_of_ble_eq_true rfl)) dX1_sorest_2 ⟨Nat.le_of_ble_eq_true rfl, Nat.le_of_ble_eq_true rfl⟩) ?_
  refine zc_wi (va_runV (As := [.int (iI (sor σ))]) (rest := []) ⟨hx, hb, hml, hown, hts⟩ (c_X1_ok l G x a _ σ t (sor σ)) (cwV 1 hts gX1_sorest_X1_ok rfl rfl rfl (by decide +kernel) ⟨Nat.le_of_ble_eq_true rfl, Nat.le_of_ble_eq_true rfl⟩) (preWM hK hP hD) rfl rfl hl.1 rfl (lv_room (Nat.le_of_ble_eq_true rfl)) dX1_sorest_5 ⟨Nat.le_of_ble_eq_true rfl, Nat.le_of_ble_eq_true rfl⟩) hS (fun q h => zA_mono hS.1 h) (fun H locs hP hS _ _ => ?_)
  have hD := mW_D (t' := 0) (σ' := σ) hD
  have hfin : σ = σ := by rfl
  rw [hfin] at hP
  have hfit : 0 = 0 := by rfl
  rw [hfit] at hP
  refine z_re (v' := iI (sor σ)) (congrArg iI (by first | rfl | omega)) ?_
  exact W.iret hx hb hr (fun t ht hW => ⟨⟨_, (), rfl, rfl, (by show va_P _ _ _ t.heap; rw [ht]; exact hP)⟩, hS.F ht⟩) hS.2.2 dX1_sorest_8
set_option maxHeartbeats 4000000 in
set_option maxRecDepth 100000 in
theorem v_X1_heaviest (l : Launch) (G : zG) (x : Nat) (a : Nat → Nat) (sz : Nat) (B : Nat) (σ : zS) (t : Nat) (hI : zI B σ) : Met l yX1_heaviest wsX1_heaviest ({ frames := 2, cells := 0, slots := 0, locals := 43 } : Room) (va_Pc [.ref x] (wM G x a t σ sz)) (va_Qi (fun r (_ : Unit) => r = iI (hea σ)) (fun _ t9 => va_P G.1 vwCl (mW G x a 0 σ) t9.heap) (zA x a sz)) 0 0 (zA x a sz) := by
  refine Met.ofW (cc := cX1_heaviest) (maxL := 1) (ret := (some .int)) (by decide) rfl ?_
  intro pp ee s m args below meth c s₁ B9 hml hv
  obtain ⟨rfl, hsz, hP, hK, hD0⟩ := hv
  subst hsz
  have hD := mW_zA (sz := s.heap.size) hD0
  have hS : va_S (zA x a s.heap.size) s.heap s.heap [] := va_S.rf
  have hx := B9.exec
  have hb := B9.bytes
  have hr := B9.returns
  have hts := atoms_spec (ws := wsX1_heaviest) B9.pre
  have hown : s.vm.findClass RX1 = some m.cls := findClass_of_methodNamed B9.named
  have hlocks := B9.notSynchronized
  have hin0 : ∀ w ∈ wsX10, w ∈ wsX1_heaviest := by decide +kernel
  have hl := lv_entry ([.ref x]) (n := 1) (Nat.le_of_ble_eq_true rfl)
  rw [lg_entry_eq]
  generalize (lg_sl ([.ref x]) ++ List.replicate (1 - (lg_sl ([.ref x])).length) Slot.unset).toArray = ls at hl ⊢
  have hl : lv_has ls 1 [(0, .ref x)] := hl
  have hIn := hI.n
  have hIb := hI.b
  refine lv_aload_n hx hb dX1_heaviest_0 rfl (lv_at hl 0 rfl) ?_
  refine lv_aload_n hx hb dX1_heaviest_1 rfl (lv_at hl 0 rfl) ?_
  refine zc_i (va_runV (As := []) (rest := [.ref x]) ⟨hx, hb, hml, hown, hts⟩ (c_X1_heavy l G x a B σ t hI) (cwV 0 hts gX1_heaviest_X1_heavy rfl rfl rfl (by decide +kernel) ⟨Nat.le_of_ble_eq_true rfl, Nat.le_of_ble_eq_true rfl⟩) (preVM hK hP) rfl rfl hl.1 rfl (lv_room (Nat.le_of_ble_eq_true rfl)) dX1_heaviest_2 ⟨Nat.le_of_ble_eq_true rfl, Nat.le_of_ble_eq_true rfl⟩) ?_
  refine zc_wi (va_runV (As := [.int (iI (hea σ))]) (rest := []) ⟨hx, hb, hml, hown, hts⟩ (c_X1_ok l G x a _ σ t (hea σ)) (cwV 1 hts gX1_heaviest_X1_ok rfl rfl rfl (by decide +kernel) ⟨Nat.le_of_ble_eq_true rfl, Nat.le_of_ble_eq_true rfl⟩) (preWM hK hP hD) rfl rfl hl.1 rfl (lv_room (Nat.le_of_ble_eq_true rfl)) dX1_heaviest_5 ⟨Nat.le_of_ble_eq_true rfl, Nat.le_of_ble_eq_true rfl⟩) hS (fun q h => zA_mono hS.1 h) (fun H locs hP hS _ _ => ?_)
  have hD := mW_D (t' := 0) (σ' := σ) hD
  have hfin : σ = σ := by rfl
  rw [hfin] at hP
  have hfit : 0 = 0 := by rfl
  rw [hfit] at hP
  refine z_re (v' := iI (hea σ)) (congrArg iI (by first | rfl | omega)) ?_
  exact W.iret hx hb hr (fun t ht hW => ⟨⟨_, (), rfl, rfl, (by show va_P _ _ _ t.heap; rw [ht]; exact hP)⟩, hS.F ht⟩) hS.2.2 dX1_heaviest_8
set_option maxHeartbeats 4000000 in
set_option maxRecDepth 100000 in
theorem v_X1_pairsToSetOff (l : Launch) (G : zG) (x : Nat) (a : Nat → Nat) (sz : Nat) (B : Nat) (σ : zS) (t : Nat) (hI : zI B σ) : Met l yX1_pairsToSetOff wsX1_pairsToSetOff ({ frames := 3, cells := 0, slots := 0, locals := 66 } : Room) (va_Pc [.ref x] (wM G x a t σ sz)) (va_Qi (fun r (_ : Unit) => r = iI (pai σ)) (fun _ t9 => va_P G.1 vwCl (mW G x a 0 σ) t9.heap) (zA x a sz)) 0 0 (zA x a sz) := by
  refine Met.ofW (cc := cX1_pairsToSetOff) (maxL := 1) (ret := (some .int)) (by decide) rfl ?_
  intro pp ee s m args below meth c s₁ B9 hml hv
  obtain ⟨rfl, hsz, hP, hK, hD0⟩ := hv
  subst hsz
  have hD := mW_zA (sz := s.heap.size) hD0
  have hS : va_S (zA x a s.heap.size) s.heap s.heap [] := va_S.rf
  have hx := B9.exec
  have hb := B9.bytes
  have hr := B9.returns
  have hts := atoms_spec (ws := wsX1_pairsToSetOff) B9.pre
  have hown : s.vm.findClass RX1 = some m.cls := findClass_of_methodNamed B9.named
  have hlocks := B9.notSynchronized
  have hin0 : ∀ w ∈ wsX10, w ∈ wsX1_pairsToSetOff := by decide +kernel
  have hl := lv_entry ([.ref x]) (n := 1) (Nat.le_of_ble_eq_true rfl)
  rw [lg_entry_eq]
  generalize (lg_sl ([.ref x]) ++ List.replicate (1 - (lg_sl ([.ref x])).length) Slot.unset).toArray = ls at hl ⊢
  have hl : lv_has ls 1 [(0, .ref x)] := hl
  have hIn := hI.n
  have hIb := hI.b
  refine lv_aload_n hx hb dX1_pairsToSetOff_0 rfl (lv_at hl 0 rfl) ?_
  refine lv_aload_n hx hb dX1_pairsToSetOff_1 rfl (lv_at hl 0 rfl) ?_
  refine zc_i (va_runV (As := []) (rest := [.ref x]) ⟨hx, hb, hml, hown, hts⟩ (c_X1_pairs l G x a B σ t hI) (cwV 0 hts gX1_pairsToSetOff_X1_pairs rfl rfl rfl (by decide +kernel) ⟨Nat.le_of_ble_eq_true rfl, Nat.le_of_ble_eq_true rfl⟩) (preVM hK hP) rfl rfl hl.1 rfl (lv_room (Nat.le_of_ble_eq_true rfl)) dX1_pairsToSetOff_2 ⟨Nat.le_of_ble_eq_true rfl, Nat.le_of_ble_eq_true rfl⟩) ?_
  refine zc_wi (va_runV (As := [.int (iI (pai σ))]) (rest := []) ⟨hx, hb, hml, hown, hts⟩ (c_X1_ok l G x a _ σ t (pai σ)) (cwV 1 hts gX1_pairsToSetOff_X1_ok rfl rfl rfl (by decide +kernel) ⟨Nat.le_of_ble_eq_true rfl, Nat.le_of_ble_eq_true rfl⟩) (preWM hK hP hD) rfl rfl hl.1 rfl (lv_room (Nat.le_of_ble_eq_true rfl)) dX1_pairsToSetOff_5 ⟨Nat.le_of_ble_eq_true rfl, Nat.le_of_ble_eq_true rfl⟩) hS (fun q h => zA_mono hS.1 h) (fun H locs hP hS _ _ => ?_)
  have hD := mW_D (t' := 0) (σ' := σ) hD
  have hfin : σ = σ := by rfl
  rw [hfin] at hP
  have hfit : 0 = 0 := by rfl
  rw [hfit] at hP
  refine z_re (v' := iI (pai σ)) (congrArg iI (by first | rfl | omega)) ?_
  exact W.iret hx hb hr (fun t ht hW => ⟨⟨_, (), rfl, rfl, (by show va_P _ _ _ t.heap; rw [ht]; exact hP)⟩, hS.F ht⟩) hS.2.2 dX1_pairsToSetOff_8
set_option maxHeartbeats 4000000 in
set_option maxRecDepth 100000 in
theorem c_X1_thrown (l : Launch) (G : zG) (x : Nat) (a : Nat → Nat) (sz : Nat) (σ : zS) (t : Nat)  : Met l yX1_thrown wsX1_thrown ({ frames := 0, cells := 0, slots := 0, locals := 0 } : Room) (va_Pc [.ref x] (wM G x a t σ sz)) (va_Qi (fun r (_ : Unit) => r = iI ((t : Nat) : Int)) (fun _ t9 => va_P G.1 vwCl (mW G x a t σ) t9.heap) (zA x a sz)) 0 0 (zA x a sz) := by
  refine Met.ofW (cc := cX1_thrown) (maxL := 1) (ret := (some .int)) (by decide) rfl ?_
  intro pp ee s m args below meth c s₁ B9 hml hv
  obtain ⟨rfl, hsz, hP, hK, hD0⟩ := hv
  subst hsz
  have hD := mW_zA (sz := s.heap.size) hD0
  have hS : va_S (zA x a s.heap.size) s.heap s.heap [] := va_S.rf
  have hx := B9.exec
  have hb := B9.bytes
  have hr := B9.returns
  have hts := atoms_spec (ws := wsX1_thrown) B9.pre
  have hown : s.vm.findClass RX1 = some m.cls := findClass_of_methodNamed B9.named
  have hlocks := B9.notSynchronized
  have hin0 : ∀ w ∈ wsX10, w ∈ wsX1_thrown := by decide +kernel
  have w_0 := hts (.fieldLink RX1 35 "ApologyLedgerModel" "thrown" "I") (by decide +kernel)
  have hl := lv_entry ([.ref x]) (n := 1) (Nat.le_of_ble_eq_true rfl)
  rw [lg_entry_eq]
  generalize (lg_sl ([.ref x]) ++ List.replicate (1 - (lg_sl ([.ref x])).length) Slot.unset).toArray = ls at hl ⊢
  have hl : lv_has ls 1 [(0, .ref x)] := hl
  refine lv_aload_n hx hb dX1_thrown_0 rfl (lv_at hl 0 rfl) ?_
  refine m_get (v := .int (iI (t : Int))) hx hb hts hin0 hown hK hP 0 rfl 0 (by decide) w_0 rfl dX1_thrown_1 ?_
  have hfin : σ = σ := by rfl
  rw [hfin] at hP
  have hfit : t = t := by rfl
  rw [hfit] at hP
  refine z_re (v' := iI ((t : Nat) : Int)) (congrArg iI (by rfl)) ?_
  exact W.iret hx hb hr (fun t ht hW => ⟨⟨_, (), rfl, rfl, (by show va_P _ _ _ t.heap; rw [ht]; exact hP)⟩, hS.F ht⟩) hS.2.2 dX1_thrown_4
set_option maxHeartbeats 4000000 in
set_option maxRecDepth 100000 in
theorem v_X1_balance (l : Launch) (G : zG) (x : Nat) (a : Nat → Nat) (sz : Nat) (B : Nat) (σ : zS) (t : Nat) (i : Nat) (o : Nat) (hI : zI B σ) (hi : i < σ.1 0) (ho : o < σ.1 0) : Met l yX1_balance wsX1_balance ({ frames := 2, cells := 0, slots := 0, locals := 43 } : Room) (va_Pc [.ref x, .int (iI (i : Int)), .int (iI (o : Int))] (wM G x a t σ sz)) (va_Qi (fun r (_ : Unit) => r = iI (btw σ (i : Int) (o : Int) - btw σ (o : Int) (i : Int))) (fun _ t9 => va_P G.1 vwCl (mW G x a 0 σ) t9.heap) (zA x a sz)) 0 0 (zA x a sz) := by
  refine Met.ofW (cc := cX1_balance) (maxL := 3) (ret := (some .int)) (by decide) rfl ?_
  intro pp ee s m args below meth c s₁ B9 hml hv
  obtain ⟨rfl, hsz, hP, hK, hD0⟩ := hv
  subst hsz
  have hD := mW_zA (sz := s.heap.size) hD0
  have hS : va_S (zA x a s.heap.size) s.heap s.heap [] := va_S.rf
  have hx := B9.exec
  have hb := B9.bytes
  have hr := B9.returns
  have hts := atoms_spec (ws := wsX1_balance) B9.pre
  have hown : s.vm.findClass RX1 = some m.cls := findClass_of_methodNamed B9.named
  have hlocks := B9.notSynchronized
  have hin0 : ∀ w ∈ wsX10, w ∈ wsX1_balance := by decide +kernel
  have w_0 := hts (.fieldLink RX1 35 "ApologyLedgerModel" "thrown" "I") (by decide +kernel)
  have hl := lv_entry ([.ref x, .int (iI (i : Int)), .int (iI (o : Int))]) (n := 3) (Nat.le_of_ble_eq_true rfl)
  rw [lg_entry_eq]
  generalize (lg_sl ([.ref x, .int (iI (i : Int)), .int (iI (o : Int))]) ++ List.replicate (3 - (lg_sl ([.ref x, .int (iI (i : Int)), .int (iI (o : Int))])).length) Slot.unset).toArray = ls at hl ⊢
  have hl : lv_has ls 3 [(0, .ref x), (1, .int (iI (i : Int))), (2, .int (iI (o : Int)))] := hl
  have hIn := hI.n
  have hIb := hI.b
  refine lv_aload_n hx hb dX1_balance_0 rfl (lv_at hl 0 rfl) ?_
  refine lv_iconst (v := iI 0) hx hb dX1_balance_1 rfl ?_
  refine z_re (v' := iI ((0 : Nat) : Int)) (congrArg iI (by omega)) ?_
  refine m_put hx hb hts hin0 hown hK hP hD hS 0 rfl 0 (by decide) w_0 rfl (by decide +kernel) (Nat.le_of_ble_eq_true rfl) mW_put0 dX1_balance_2 (fun H locs hP hD hS => ?_)
  refine lv_aload_n hx hb dX1_balance_5 rfl (lv_at hl 0 rfl) ?_
  refine lv_iload_n hx hb dX1_balance_6 rfl (lv_at hl 1 rfl) ?_
  refine zc_i (va_runV (As := [.int (iI (i : Int))]) (rest := []) ⟨hx, hb, hml, hown, hts⟩ (c_X1_isPerson l G x a σ 0 (i : Int) (by omega) (by omega)) (cwV 1 hts gX1_balance_X1_isPerson rfl rfl rfl (by decide +kernel) ⟨Nat.le_of_ble_eq_true rfl, Nat.le_of_ble_eq_true rfl⟩) (preVM hK hP) rfl rfl hl.1 rfl (lv_room (Nat.le_of_ble_eq_true rfl)) dX1_balance_7 ⟨Nat.le_of_ble_eq_true rfl, Nat.le_of_ble_eq_true rfl⟩) ?_
  have f_1 := inn_or (i : Int) 0 ((σ.1 0 : Nat) - 1)
  refine z_if_eq (tgt := 37) hx hb dX1_balance_10 (by decide) (by omega) (fun c_2 => ?_) (fun c_2 => ?_)
  ·
    exfalso
    omega
  ·
    refine lv_aload_n hx hb dX1_balance_13 rfl (lv_at hl 0 rfl) ?_
    refine lv_iload_n hx hb dX1_balance_14 rfl (lv_at hl 2 rfl) ?_
    refine zc_i (va_runV (As := [.int (iI (o : Int))]) (rest := []) ⟨hx, hb, hml, hown, hts⟩ (c_X1_isPerson l G x a σ 0 (o : Int) (by omega) (by omega)) (cwV 1 hts gX1_balance_X1_isPerson rfl rfl rfl (by decide +kernel) ⟨Nat.le_of_ble_eq_true rfl, Nat.le_of_ble_eq_true rfl⟩) (preVM hK hP) rfl rfl hl.1 rfl (lv_room (Nat.le_of_ble_eq_true rfl)) dX1_balance_15 ⟨Nat.le_of_ble_eq_true rfl, Nat.le_of_ble_eq_true rfl⟩) ?_
    have f_3 := inn_or (o : Int) 0 ((σ.1 0 : Nat) - 1)
    refine z_if_eq (tgt := 37) hx hb dX1_balance_18 (by decide) (by omega) (fun c_4 => ?_) (fun c_4 => ?_)
    ·
      exfalso
      omega
    ·
      refine lv_aload_n hx hb dX1_balance_21 rfl (lv_at hl 0 rfl) ?_
      refine lv_iload_n hx hb dX1_balance_22 rfl (lv_at hl 1 rfl) ?_
      refine lv_iload_n hx hb dX1_balance_23 rfl (lv_at hl 2 rfl) ?_
      refine zc_i (va_runV (As := [.int (iI (i : Int)), .int (iI (o : Int))]) (rest := []) ⟨hx, hb, hml, hown, hts⟩ (c_done_w l G x a B σ 0 (i : Int) (o : Int) hI (by omega) (by omega)) (cwV 2 hts gX1_balance_X1_done rfl rfl rfl (by decide +kernel) ⟨Nat.le_of_ble_eq_true rfl, Nat.le_of_ble_eq_true rfl⟩) (preVM hK hP) rfl rfl hl.1 rfl (lv_room (Nat.le_of_ble_eq_true rfl)) dX1_balance_24 ⟨Nat.le_of_ble_eq_true rfl, Nat.le_of_ble_eq_true rfl⟩) ?_
      have f_5 := btw_bd hI (i : Int) (o : Int)
      refine lv_aload_n hx hb dX1_balance_27 rfl (lv_at hl 0 rfl) ?_
      refine lv_iload_n hx hb dX1_balance_28 rfl (lv_at hl 2 rfl) ?_
      refine lv_iload_n hx hb dX1_balance_29 rfl (lv_at hl 1 rfl) ?_
      refine zc_i (va_runV (As := [.int (iI (o : Int)), .int (iI (i : Int))]) (rest := [.int (iI (btw σ (i : Int) (o : Int)))]) ⟨hx, hb, hml, hown, hts⟩ (c_done_w l G x a B σ 0 (o : Int) (i : Int) hI (by omega) (by omega)) (cwV 2 hts gX1_balance_X1_done rfl rfl rfl (by decide +kernel) ⟨Nat.le_of_ble_eq_true rfl, Nat.le_of_ble_eq_true rfl⟩) (preVM hK hP) rfl rfl hl.1 rfl (lv_room (Nat.le_of_ble_eq_true rfl)) dX1_balance_30 ⟨Nat.le_of_ble_eq_true rfl, Nat.le_of_ble_eq_true rfl⟩) ?_
      have f_6 := btw_bd hI (o : Int) (i : Int)
      refine z_isub hx hb dX1_balance_33 ?_
      refine lv_goto (tgt := 42) hx hb dX1_balance_34 (by decide) ?_
      have hfin : σ = σ := by rfl
      rw [hfin] at hP
      have hfit : 0 = 0 := by rfl
      rw [hfit] at hP
      refine z_re (v' := iI (btw σ (i : Int) (o : Int) - btw σ (o : Int) (i : Int))) (congrArg iI (by first | rfl | omega)) ?_
      exact W.iret hx hb hr (fun t ht hW => ⟨⟨_, (), rfl, rfl, (by show va_P _ _ _ t.heap; rw [ht]; exact hP)⟩, hS.F ht⟩) hS.2.2 dX1_balance_42
set_option maxHeartbeats 4000000 in
set_option maxRecDepth 100000 in
theorem e1_X1_balance (l : Launch) (G : zG) (x : Nat) (a : Nat → Nat) (sz : Nat) (B : Nat) (σ : zS) (t : Nat) (z : Int) (y : Int) (hI : zI B σ) (hzb : -2147483648 ≤ z ∧ z < 2147483648) (hbad : z < 0 ∨ (σ.1 0 : Int) ≤ z) : Met l yX1_balance wsX1_balance ({ frames := 2, cells := 0, slots := 0, locals := 43 } : Room) (va_Pc [.ref x, .int (iI z), .int (iI y)] (wM G x a t σ sz)) (va_Qi (fun r (_ : Unit) => r = iI 0) (fun _ t9 => va_P G.1 vwCl (mW G x a 1 σ) t9.heap) (zA x a sz)) 0 0 (zA x a sz) := by
  refine Met.ofW (cc := cX1_balance) (maxL := 3) (ret := (some .int)) (by decide) rfl ?_
  intro pp ee s m args below meth c s₁ B9 hml hv
  obtain ⟨rfl, hsz, hP, hK, hD0⟩ := hv
  subst hsz
  have hD := mW_zA (sz := s.heap.size) hD0
  have hS : va_S (zA x a s.heap.size) s.heap s.heap [] := va_S.rf
  have hx := B9.exec
  have hb := B9.bytes
  have hr := B9.returns
  have hts := atoms_spec (ws := wsX1_balance) B9.pre
  have hown : s.vm.findClass RX1 = some m.cls := findClass_of_methodNamed B9.named
  have hlocks := B9.notSynchronized
  have hin0 : ∀ w ∈ wsX10, w ∈ wsX1_balance := by decide +kernel
  have w_0 := hts (.fieldLink RX1 35 "ApologyLedgerModel" "thrown" "I") (by decide +kernel)
  have hl := lv_entry ([.ref x, .int (iI z), .int (iI y)]) (n := 3) (Nat.le_of_ble_eq_true rfl)
  rw [lg_entry_eq]
  generalize (lg_sl ([.ref x, .int (iI z), .int (iI y)]) ++ List.replicate (3 - (lg_sl ([.ref x, .int (iI z), .int (iI y)])).length) Slot.unset).toArray = ls at hl ⊢
  have hl : lv_has ls 3 [(0, .ref x), (1, .int (iI z)), (2, .int (iI y))] := hl
  have hIn := hI.n
  have hIb := hI.b
  refine lv_aload_n hx hb dX1_balance_0 rfl (lv_at hl 0 rfl) ?_
  refine lv_iconst (v := iI 0) hx hb dX1_balance_1 rfl ?_
  refine z_re (v' := iI ((0 : Nat) : Int)) (congrArg iI (by omega)) ?_
  refine m_put hx hb hts hin0 hown hK hP hD hS 0 rfl 0 (by decide) w_0 rfl (by decide +kernel) (Nat.le_of_ble_eq_true rfl) mW_put0 dX1_balance_2 (fun H locs hP hD hS => ?_)
  refine lv_aload_n hx hb dX1_balance_5 rfl (lv_at hl 0 rfl) ?_
  refine lv_iload_n hx hb dX1_balance_6 rfl (lv_at hl 1 rfl) ?_
  refine zc_i (va_runV (As := [.int (iI z)]) (rest := []) ⟨hx, hb, hml, hown, hts⟩ (c_X1_isPerson l G x a σ 0 z (by omega) (by omega)) (cwV 1 hts gX1_balance_X1_isPerson rfl rfl rfl (by decide +kernel) ⟨Nat.le_of_ble_eq_true rfl, Nat.le_of_ble_eq_true rfl⟩) (preVM hK hP) rfl rfl hl.1 rfl (lv_room (Nat.le_of_ble_eq_true rfl)) dX1_balance_7 ⟨Nat.le_of_ble_eq_true rfl, Nat.le_of_ble_eq_true rfl⟩) ?_
  have f_1 := inn_or z 0 ((σ.1 0 : Nat) - 1)
  refine z_if_eq (tgt := 37) hx hb dX1_balance_10 (by decide) (by omega) (fun c_2 => ?_) (fun c_2 => ?_)
  ·
    refine lv_aload_n hx hb dX1_balance_37 rfl (lv_at hl 0 rfl) ?_
    refine lv_iconst (v := iI 1) hx hb dX1_balance_38 rfl ?_
    refine z_re (v' := iI ((1 : Nat) : Int)) (congrArg iI (by omega)) ?_
    refine zc_wi (va_runV (As := [.int (iI ((1 : Nat) : Int))]) (rest := []) ⟨hx, hb, hml, hown, hts⟩ (c_X1_no l G x a _ σ 0 1) (cwV 1 hts gX1_balance_X1_no rfl rfl rfl (by decide +kernel) ⟨Nat.le_of_ble_eq_true rfl, Nat.le_of_ble_eq_true rfl⟩) (preWM hK hP hD) rfl rfl hl.1 rfl (lv_room (Nat.le_of_ble_eq_true rfl)) dX1_balance_39 ⟨Nat.le_of_ble_eq_true rfl, Nat.le_of_ble_eq_true rfl⟩) hS (fun q h => zA_mono hS.1 h) (fun H locs hP hS _ _ => ?_)
    have hD := mW_D (t' := 1) (σ' := σ) hD
    have hfin : σ = σ := by rfl
    rw [hfin] at hP
    have hfit : 1 = 1 := by rfl
    rw [hfit] at hP
    refine z_re (v' := iI 0) (congrArg iI (by first | rfl | omega)) ?_
    exact W.iret hx hb hr (fun t ht hW => ⟨⟨_, (), rfl, rfl, (by show va_P _ _ _ t.heap; rw [ht]; exact hP)⟩, hS.F ht⟩) hS.2.2 dX1_balance_42
  ·
    exfalso
    omega
set_option maxHeartbeats 4000000 in
set_option maxRecDepth 100000 in
theorem e2_X1_balance (l : Launch) (G : zG) (x : Nat) (a : Nat → Nat) (sz : Nat) (B : Nat) (σ : zS) (t : Nat) (i : Nat) (z : Int) (hI : zI B σ) (hi : i < σ.1 0) (hzb : -2147483648 ≤ z ∧ z < 2147483648) (hbad : z < 0 ∨ (σ.1 0 : Int) ≤ z) : Met l yX1_balance wsX1_balance ({ frames := 2, cells := 0, slots := 0, locals := 43 } : Room) (va_Pc [.ref x, .int (iI (i : Int)), .int (iI z)] (wM G x a t σ sz)) (va_Qi (fun r (_ : Unit) => r = iI 0) (fun _ t9 => va_P G.1 vwCl (mW G x a 1 σ) t9.heap) (zA x a sz)) 0 0 (zA x a sz) := by
  refine Met.ofW (cc := cX1_balance) (maxL := 3) (ret := (some .int)) (by decide) rfl ?_
  intro pp ee s m args below meth c s₁ B9 hml hv
  obtain ⟨rfl, hsz, hP, hK, hD0⟩ := hv
  subst hsz
  have hD := mW_zA (sz := s.heap.size) hD0
  have hS : va_S (zA x a s.heap.size) s.heap s.heap [] := va_S.rf
  have hx := B9.exec
  have hb := B9.bytes
  have hr := B9.returns
  have hts := atoms_spec (ws := wsX1_balance) B9.pre
  have hown : s.vm.findClass RX1 = some m.cls := findClass_of_methodNamed B9.named
  have hlocks := B9.notSynchronized
  have hin0 : ∀ w ∈ wsX10, w ∈ wsX1_balance := by decide +kernel
  have w_0 := hts (.fieldLink RX1 35 "ApologyLedgerModel" "thrown" "I") (by decide +kernel)
  have hl := lv_entry ([.ref x, .int (iI (i : Int)), .int (iI z)]) (n := 3) (Nat.le_of_ble_eq_true rfl)
  rw [lg_entry_eq]
  generalize (lg_sl ([.ref x, .int (iI (i : Int)), .int (iI z)]) ++ List.replicate (3 - (lg_sl ([.ref x, .int (iI (i : Int)), .int (iI z)])).length) Slot.unset).toArray = ls at hl ⊢
  have hl : lv_has ls 3 [(0, .ref x), (1, .int (iI (i : Int))), (2, .int (iI z))] := hl
  have hIn := hI.n
  have hIb := hI.b
  refine lv_aload_n hx hb dX1_balance_0 rfl (lv_at hl 0 rfl) ?_
  refine lv_iconst (v := iI 0) hx hb dX1_balance_1 rfl ?_
  refine z_re (v' := iI ((0 : Nat) : Int)) (congrArg iI (by omega)) ?_
  refine m_put hx hb hts hin0 hown hK hP hD hS 0 rfl 0 (by decide) w_0 rfl (by decide +kernel) (Nat.le_of_ble_eq_true rfl) mW_put0 dX1_balance_2 (fun H locs hP hD hS => ?_)
  refine lv_aload_n hx hb dX1_balance_5 rfl (lv_at hl 0 rfl) ?_
  refine lv_iload_n hx hb dX1_balance_6 rfl (lv_at hl 1 rfl) ?_
  refine zc_i (va_runV (As := [.int (iI (i : Int))]) (rest := []) ⟨hx, hb, hml, hown, hts⟩ (c_X1_isPerson l G x a σ 0 (i : Int) (by omega) (by omega)) (cwV 1 hts gX1_balance_X1_isPerson rfl rfl rfl (by decide +kernel) ⟨Nat.le_of_ble_eq_true rfl, Nat.le_of_ble_eq_true rfl⟩) (preVM hK hP) rfl rfl hl.1 rfl (lv_room (Nat.le_of_ble_eq_true rfl)) dX1_balance_7 ⟨Nat.le_of_ble_eq_true rfl, Nat.le_of_ble_eq_true rfl⟩) ?_
  have f_1 := inn_or (i : Int) 0 ((σ.1 0 : Nat) - 1)
  refine z_if_eq (tgt := 37) hx hb dX1_balance_10 (by decide) (by omega) (fun c_2 => ?_) (fun c_2 => ?_)
  ·
    exfalso
    omega
  ·
    refine lv_aload_n hx hb dX1_balance_13 rfl (lv_at hl 0 rfl) ?_
    refine lv_iload_n hx hb dX1_balance_14 rfl (lv_at hl 2 rfl) ?_
    refine zc_i (va_runV (As := [.int (iI z)]) (rest := []) ⟨hx, hb, hml, hown, hts⟩ (c_X1_isPerson l G x a σ 0 z (by omega) (by omega)) (cwV 1 hts gX1_balance_X1_isPerson rfl rfl rfl (by decide +kernel) ⟨Nat.le_of_ble_eq_true rfl, Nat.le_of_ble_eq_true rfl⟩) (preVM hK hP) rfl rfl hl.1 rfl (lv_room (Nat.le_of_ble_eq_true rfl)) dX1_balance_15 ⟨Nat.le_of_ble_eq_true rfl, Nat.le_of_ble_eq_true rfl⟩) ?_
    have f_3 := inn_or z 0 ((σ.1 0 : Nat) - 1)
    refine z_if_eq (tgt := 37) hx hb dX1_balance_18 (by decide) (by omega) (fun c_4 => ?_) (fun c_4 => ?_)
    ·
      refine lv_aload_n hx hb dX1_balance_37 rfl (lv_at hl 0 rfl) ?_
      refine lv_iconst (v := iI 1) hx hb dX1_balance_38 rfl ?_
      refine z_re (v' := iI ((1 : Nat) : Int)) (congrArg iI (by omega)) ?_
      refine zc_wi (va_runV (As := [.int (iI ((1 : Nat) : Int))]) (rest := []) ⟨hx, hb, hml, hown, hts⟩ (c_X1_no l G x a _ σ 0 1) (cwV 1 hts gX1_balance_X1_no rfl rfl rfl (by decide +kernel) ⟨Nat.le_of_ble_eq_true rfl, Nat.le_of_ble_eq_true rfl⟩) (preWM hK hP hD) rfl rfl hl.1 rfl (lv_room (Nat.le_of_ble_eq_true rfl)) dX1_balance_39 ⟨Nat.le_of_ble_eq_true rfl, Nat.le_of_ble_eq_true rfl⟩) hS (fun q h => zA_mono hS.1 h) (fun H locs hP hS _ _ => ?_)
      have hD := mW_D (t' := 1) (σ' := σ) hD
      have hfin : σ = σ := by rfl
      rw [hfin] at hP
      have hfit : 1 = 1 := by rfl
      rw [hfit] at hP
      refine z_re (v' := iI 0) (congrArg iI (by first | rfl | omega)) ?_
      exact W.iret hx hb hr (fun t ht hW => ⟨⟨_, (), rfl, rfl, (by show va_P _ _ _ t.heap; rw [ht]; exact hP)⟩, hS.F ht⟩) hS.2.2 dX1_balance_42
    ·
      exfalso
      omega
set_option maxHeartbeats 4000000 in
set_option maxRecDepth 100000 in
theorem v_X1_inState (l : Launch) (G : zG) (x : Nat) (a : Nat → Nat) (sz : Nat) (B : Nat) (σ : zS) (t : Nat) (z : Int) (hI : zI B σ) (hz : 0 ≤ z ∧ z ≤ 3) : Met l yX1_inState wsX1_inState ({ frames := 1, cells := 0, slots := 0, locals := 23 } : Room) (va_Pc [.ref x, .int (iI z)] (wM G x a t σ sz)) (va_Qi (fun r (_ : Unit) => r = iI (cnt σ z)) (fun _ t9 => va_P G.1 vwCl (mW G x a 0 σ) t9.heap) (zA x a sz)) 0 0 (zA x a sz) := by
  refine Met.ofW (cc := cX1_inState) (maxL := 2) (ret := (some .int)) (by decide) rfl ?_
  intro pp ee s m args below meth c s₁ B9 hml hv
  obtain ⟨rfl, hsz, hP, hK, hD0⟩ := hv
  subst hsz
  have hD := mW_zA (sz := s.heap.size) hD0
  have hS : va_S (zA x a s.heap.size) s.heap s.heap [] := va_S.rf
  have hx := B9.exec
  have hb := B9.bytes
  have hr := B9.returns
  have hts := atoms_spec (ws := wsX1_inState) B9.pre
  have hown : s.vm.findClass RX1 = some m.cls := findClass_of_methodNamed B9.named
  have hlocks := B9.notSynchronized
  have hin0 : ∀ w ∈ wsX10, w ∈ wsX1_inState := by decide +kernel
  have w_0 := hts (.fieldLink RX1 35 "ApologyLedgerModel" "thrown" "I") (by decide +kernel)
  have hl := lv_entry ([.ref x, .int (iI z)]) (n := 2) (Nat.le_of_ble_eq_true rfl)
  rw [lg_entry_eq]
  generalize (lg_sl ([.ref x, .int (iI z)]) ++ List.replicate (2 - (lg_sl ([.ref x, .int (iI z)])).length) Slot.unset).toArray = ls at hl ⊢
  have hl : lv_has ls 2 [(0, .ref x), (1, .int (iI z))] := hl
  have hIn := hI.n
  have hIb := hI.b
  refine lv_aload_n hx hb dX1_inState_0 rfl (lv_at hl 0 rfl) ?_
  refine lv_iconst (v := iI 0) hx hb dX1_inState_1 rfl ?_
  refine z_re (v' := iI ((0 : Nat) : Int)) (congrArg iI (by omega)) ?_
  refine m_put hx hb hts hin0 hown hK hP hD hS 0 rfl 0 (by decide) w_0 rfl (by decide +kernel) (Nat.le_of_ble_eq_true rfl) mW_put0 dX1_inState_2 (fun H locs hP hD hS => ?_)
  refine lv_iload_n hx hb dX1_inState_5 rfl (lv_at hl 1 rfl) ?_
  refine lv_iconst (v := iI 0) hx hb dX1_inState_6 rfl ?_
  refine lv_iconst (v := iI 3) hx hb dX1_inState_7 rfl ?_
  refine zc_i (va_runS (As := [.int (iI z), .int (iI 0), .int (iI 3)]) (rest := []) ⟨hx, hb, hml, hown, hts⟩ (c_X1_isIn l  z 0 3 (by omega) (by omega) (by omega)) (va_cwS 3 hts gX1_inState_X1_isIn rfl rfl rfl (by decide +kernel) ⟨Nat.le_of_ble_eq_true rfl, Nat.le_of_ble_eq_true rfl⟩) preS0 rfl rfl hl.1 rfl (lv_room (Nat.le_of_ble_eq_true rfl)) dX1_inState_8 ⟨Nat.le_of_ble_eq_true rfl, Nat.le_of_ble_eq_true rfl⟩) ?_
  have f_1 := inn_or z 0 3
  refine z_if_eq (tgt := 22) hx hb dX1_inState_11 (by decide) (by omega) (fun c_2 => ?_) (fun c_2 => ?_)
  ·
    exfalso
    omega
  ·
    refine lv_aload_n hx hb dX1_inState_14 rfl (lv_at hl 0 rfl) ?_
    refine lv_iload_n hx hb dX1_inState_15 rfl (lv_at hl 1 rfl) ?_
    refine zc_i (va_runV (As := [.int (iI z)]) (rest := []) ⟨hx, hb, hml, hown, hts⟩ (c_X1_count l G x a B σ 0 z hI (by omega)) (cwV 1 hts gX1_inState_X1_count rfl rfl rfl (by decide +kernel) ⟨Nat.le_of_ble_eq_true rfl, Nat.le_of_ble_eq_true rfl⟩) (preVM hK hP) rfl rfl hl.1 rfl (lv_room (Nat.le_of_ble_eq_true rfl)) dX1_inState_16 ⟨Nat.le_of_ble_eq_true rfl, Nat.le_of_ble_eq_true rfl⟩) ?_
    have f_3 := cnt_bd hI z
    refine lv_goto (tgt := 27) hx hb dX1_inState_19 (by decide) ?_
    have hfin : σ = σ := by rfl
    rw [hfin] at hP
    have hfit : 0 = 0 := by rfl
    rw [hfit] at hP
    refine z_re (v' := iI (cnt σ z)) (congrArg iI (by first | rfl | omega)) ?_
    exact W.iret hx hb hr (fun t ht hW => ⟨⟨_, (), rfl, rfl, (by show va_P _ _ _ t.heap; rw [ht]; exact hP)⟩, hS.F ht⟩) hS.2.2 dX1_inState_27
set_option maxHeartbeats 4000000 in
set_option maxRecDepth 100000 in
theorem e1_X1_inState (l : Launch) (G : zG) (x : Nat) (a : Nat → Nat) (sz : Nat) (B : Nat) (σ : zS) (t : Nat) (z : Int) (hI : zI B σ) (hzb : -2147483648 ≤ z ∧ z < 2147483648) (hbad : z < 0 ∨ 3 < z) : Met l yX1_inState wsX1_inState ({ frames := 1, cells := 0, slots := 0, locals := 22 } : Room) (va_Pc [.ref x, .int (iI z)] (wM G x a t σ sz)) (va_Qi (fun r (_ : Unit) => r = iI 0) (fun _ t9 => va_P G.1 vwCl (mW G x a 1 σ) t9.heap) (zA x a sz)) 0 0 (zA x a sz) := by
  refine Met.ofW (cc := cX1_inState) (maxL := 2) (ret := (some .int)) (by decide) rfl ?_
  intro pp ee s m args below meth c s₁ B9 hml hv
  obtain ⟨rfl, hsz, hP, hK, hD0⟩ := hv
  subst hsz
  have hD := mW_zA (sz := s.heap.size) hD0
  have hS : va_S (zA x a s.heap.size) s.heap s.heap [] := va_S.rf
  have hx := B9.exec
  have hb := B9.bytes
  have hr := B9.returns
  have hts := atoms_spec (ws := wsX1_inState) B9.pre
  have hown : s.vm.findClass RX1 = some m.cls := findClass_of_methodNamed B9.named
  have hlocks := B9.notSynchronized
  have hin0 : ∀ w ∈ wsX10, w ∈ wsX1_inState := by decide +kernel
  have w_0 := hts (.fieldLink RX1 35 "ApologyLedgerModel" "thrown" "I") (by decide +kernel)
  have hl := lv_entry ([.ref x, .int (iI z)]) (n := 2) (Nat.le_of_ble_eq_true rfl)
  rw [lg_entry_eq]
  generalize (lg_sl ([.ref x, .int (iI z)]) ++ List.replicate (2 - (lg_sl ([.ref x, .int (iI z)])).length) Slot.unset).toArray = ls at hl ⊢
  have hl : lv_has ls 2 [(0, .ref x), (1, .int (iI z))] := hl
  have hIn := hI.n
  have hIb := hI.b
  refine lv_aload_n hx hb dX1_inState_0 rfl (lv_at hl 0 rfl) ?_
  refine lv_iconst (v := iI 0) hx hb dX1_inState_1 rfl ?_
  refine z_re (v' := iI ((0 : Nat) : Int)) (congrArg iI (by omega)) ?_
  refine m_put hx hb hts hin0 hown hK hP hD hS 0 rfl 0 (by decide) w_0 rfl (by decide +kernel) (Nat.le_of_ble_eq_true rfl) mW_put0 dX1_inState_2 (fun H locs hP hD hS => ?_)
  refine lv_iload_n hx hb dX1_inState_5 rfl (lv_at hl 1 rfl) ?_
  refine lv_iconst (v := iI 0) hx hb dX1_inState_6 rfl ?_
  refine lv_iconst (v := iI 3) hx hb dX1_inState_7 rfl ?_
  refine zc_i (va_runS (As := [.int (iI z), .int (iI 0), .int (iI 3)]) (rest := []) ⟨hx, hb, hml, hown, hts⟩ (c_X1_isIn l  z 0 3 (by omega) (by omega) (by omega)) (va_cwS 3 hts gX1_inState_X1_isIn rfl rfl rfl (by decide +kernel) ⟨Nat.le_of_ble_eq_true rfl, Nat.le_of_ble_eq_true rfl⟩) preS0 rfl rfl hl.1 rfl (lv_room (Nat.le_of_ble_eq_true rfl)) dX1_inState_8 ⟨Nat.le_of_ble_eq_true rfl, Nat.le_of_ble_eq_true rfl⟩) ?_
  have f_1 := inn_or z 0 3
  refine z_if_eq (tgt := 22) hx hb dX1_inState_11 (by decide) (by omega) (fun c_2 => ?_) (fun c_2 => ?_)
  ·
    refine lv_aload_n hx hb dX1_inState_22 rfl (lv_at hl 0 rfl) ?_
    refine lv_iconst (v := iI 1) hx hb dX1_inState_23 rfl ?_
    refine z_re (v' := iI ((1 : Nat) : Int)) (congrArg iI (by omega)) ?_
    refine zc_wi (va_runV (As := [.int (iI ((1 : Nat) : Int))]) (rest := []) ⟨hx, hb, hml, hown, hts⟩ (c_X1_no l G x a _ σ 0 1) (cwV 1 hts gX1_inState_X1_no rfl rfl rfl (by decide +kernel) ⟨Nat.le_of_ble_eq_true rfl, Nat.le_of_ble_eq_true rfl⟩) (preWM hK hP hD) rfl rfl hl.1 rfl (lv_room (Nat.le_of_ble_eq_true rfl)) dX1_inState_24 ⟨Nat.le_of_ble_eq_true rfl, Nat.le_of_ble_eq_true rfl⟩) hS (fun q h => zA_mono hS.1 h) (fun H locs hP hS _ _ => ?_)
    have hD := mW_D (t' := 1) (σ' := σ) hD
    have hfin : σ = σ := by rfl
    rw [hfin] at hP
    have hfit : 1 = 1 := by rfl
    rw [hfit] at hP
    refine z_re (v' := iI 0) (congrArg iI (by first | rfl | omega)) ?_
    exact W.iret hx hb hr (fun t ht hW => ⟨⟨_, (), rfl, rfl, (by show va_P _ _ _ t.heap; rw [ht]; exact hP)⟩, hS.F ht⟩) hS.2.2 dX1_inState_27
  ·
    exfalso
    omega
set_option maxHeartbeats 4000000 in
set_option maxRecDepth 100000 in
theorem v_X1_wouldBeScorned (l : Launch) (G : zG) (x : Nat) (a : Nat → Nat) (sz : Nat) (B : Nat) (σ : zS) (t : Nat) (k : Nat) (w : Int) (hI : zI B σ) (hk : k < σ.1 1) (hw : 1 ≤ w ∧ w ≤ 20) : Met l yX1_wouldBeScorned wsX1_wouldBeScorned ({ frames := 2, cells := 0, slots := 0, locals := 46 } : Room) (va_Pc [.ref x, .int (iI (k : Int)), .int (iI w)] (wM G x a t σ sz)) (va_Qi (fun r (_ : Unit) => r = iI (wbs σ k w)) (fun _ t9 => va_P G.1 vwCl (mW G x a 0 σ) t9.heap) (zA x a sz)) 0 0 (zA x a sz) := by
  refine Met.ofW (cc := cX1_wouldBeScorned) (maxL := 3) (ret := (some .boolean)) (by decide) rfl ?_
  intro pp ee s m args below meth c s₁ B9 hml hv
  obtain ⟨rfl, hsz, hP, hK, hD0⟩ := hv
  subst hsz
  have hD := mW_zA (sz := s.heap.size) hD0
  have hS : va_S (zA x a s.heap.size) s.heap s.heap [] := va_S.rf
  have hx := B9.exec
  have hb := B9.bytes
  have hr := B9.returns
  have hts := atoms_spec (ws := wsX1_wouldBeScorned) B9.pre
  have hown : s.vm.findClass RX1 = some m.cls := findClass_of_methodNamed B9.named
  have hlocks := B9.notSynchronized
  have hin0 : ∀ w ∈ wsX10, w ∈ wsX1_wouldBeScorned := by decide +kernel
  have w_0 := hts (.fieldLink RX1 35 "ApologyLedgerModel" "thrown" "I") (by decide +kernel)
  have hl := lv_entry ([.ref x, .int (iI (k : Int)), .int (iI w)]) (n := 3) (Nat.le_of_ble_eq_true rfl)
  rw [lg_entry_eq]
  generalize (lg_sl ([.ref x, .int (iI (k : Int)), .int (iI w)]) ++ List.replicate (3 - (lg_sl ([.ref x, .int (iI (k : Int)), .int (iI w)])).length) Slot.unset).toArray = ls at hl ⊢
  have hl : lv_has ls 3 [(0, .ref x), (1, .int (iI (k : Int))), (2, .int (iI w))] := hl
  have hIn := hI.n
  have hIb := hI.b
  have g5 := hI.r5 k
  refine lv_aload_n hx hb dX1_wouldBeScorned_0 rfl (lv_at hl 0 rfl) ?_
  refine lv_iconst (v := iI 0) hx hb dX1_wouldBeScorned_1 rfl ?_
  refine z_re (v' := iI ((0 : Nat) : Int)) (congrArg iI (by omega)) ?_
  refine m_put hx hb hts hin0 hown hK hP hD hS 0 rfl 0 (by decide) w_0 rfl (by decide +kernel) (Nat.le_of_ble_eq_true rfl) mW_put0 dX1_wouldBeScorned_2 (fun H locs hP hD hS => ?_)
  refine lv_aload_n hx hb dX1_wouldBeScorned_5 rfl (lv_at hl 0 rfl) ?_
  refine lv_iload_n hx hb dX1_wouldBeScorned_6 rfl (lv_at hl 1 rfl) ?_
  refine zc_i (va_runV (As := [.int (iI (k : Int))]) (rest := []) ⟨hx, hb, hml, hown, hts⟩ (c_X1_isSlight l G x a σ 0 (k : Int) (by omega) (by omega)) (cwV 1 hts gX1_wouldBeScorned_X1_isSlight rfl rfl rfl (by decide +kernel) ⟨Nat.le_of_ble_eq_true rfl, Nat.le_of_ble_eq_true rfl⟩) (preVM hK hP) rfl rfl hl.1 rfl (lv_room (Nat.le_of_ble_eq_true rfl)) dX1_wouldBeScorned_7 ⟨Nat.le_of_ble_eq_true rfl, Nat.le_of_ble_eq_true rfl⟩) ?_
  have f_1 := inn_or (k : Int) 0 ((σ.1 1 : Nat) - 1)
  refine z_if_ne (tgt := 19) hx hb dX1_wouldBeScorned_10 (by decide) (by omega) (fun c_2 => ?_) (fun c_2 => ?_)
  ·
    refine lv_iload_n hx hb dX1_wouldBeScorned_19 rfl (lv_at hl 2 rfl) ?_
    refine lv_iconst (v := iI 1) hx hb dX1_wouldBeScorned_20 rfl ?_
    refine lv_bipush (v := iI 20) hx hb dX1_wouldBeScorned_21 (by decide) ?_
    refine zc_i (va_runS (As := [.int (iI w), .int (iI 1), .int (iI 20)]) (rest := []) ⟨hx, hb, hml, hown, hts⟩ (c_X1_isIn l  w 1 20 (by omega) (by omega) (by omega)) (va_cwS 3 hts gX1_wouldBeScorned_X1_isIn rfl rfl rfl (by decide +kernel) ⟨Nat.le_of_ble_eq_true rfl, Nat.le_of_ble_eq_true rfl⟩) preS0 rfl rfl hl.1 rfl (lv_room (Nat.le_of_ble_eq_true rfl)) dX1_wouldBeScorned_23 ⟨Nat.le_of_ble_eq_true rfl, Nat.le_of_ble_eq_true rfl⟩) ?_
    have f_3 := inn_or w 1 20
    refine z_if_eq (tgt := 54) hx hb dX1_wouldBeScorned_26 (by decide) (by omega) (fun c_4 => ?_) (fun c_4 => ?_)
    ·
      exfalso
      omega
    ·
      refine lv_aload_n hx hb dX1_wouldBeScorned_29 rfl (lv_at hl 0 rfl) ?_
      refine lv_iload_n hx hb dX1_wouldBeScorned_30 rfl (lv_at hl 1 rfl) ?_
      refine zc_i (va_runV (As := [.int (iI (k : Int))]) (rest := []) ⟨hx, hb, hml, hown, hts⟩ (c_X1_isOpen l G x a σ 0 k (by omega) (by omega)) (cwV 1 hts gX1_wouldBeScorned_X1_isOpen rfl rfl rfl (by decide +kernel) ⟨Nat.le_of_ble_eq_true rfl, Nat.le_of_ble_eq_true rfl⟩) (preVM hK hP) rfl rfl hl.1 rfl (lv_room (Nat.le_of_ble_eq_true rfl)) dX1_wouldBeScorned_31 ⟨Nat.le_of_ble_eq_true rfl, Nat.le_of_ble_eq_true rfl⟩) ?_
      have f_5 := opn_or σ k
      refine z_if_eq (tgt := 50) hx hb dX1_wouldBeScorned_34 (by decide) (by omega) (fun c_6 => ?_) (fun c_6 => ?_)
      ·
        refine lv_iconst (v := iI 0) hx hb dX1_wouldBeScorned_50 rfl ?_
        refine lv_goto (tgt := 59) hx hb dX1_wouldBeScorned_51 (by decide) ?_
        have hfin : σ = σ := by rfl
        rw [hfin] at hP
        have hfit : 0 = 0 := by rfl
        rw [hfit] at hP
        refine z_re (v' := iI (wbs σ k w)) (congrArg iI (by unfold wbs; split <;> omega)) ?_
        exact W.zret hx hb hr (z_nb (by have := wbs_or σ k w; omega)) (fun t ht hW => ⟨⟨_, (), rfl, rfl, (by show va_P _ _ _ t.heap; rw [ht]; exact hP)⟩, hS.F ht⟩) hS.2.2 dX1_wouldBeScorned_59
      ·
        refine lv_aload_n hx hb dX1_wouldBeScorned_37 rfl (lv_at hl 0 rfl) ?_
        refine lv_iload_n hx hb dX1_wouldBeScorned_38 rfl (lv_at hl 1 rfl) ?_
        refine lv_iload_n hx hb dX1_wouldBeScorned_39 rfl (lv_at hl 2 rfl) ?_
        refine zc_i (va_runV (As := [.int (iI (k : Int)), .int (iI w)]) (rest := []) ⟨hx, hb, hml, hown, hts⟩ (c_X1_isScorned l G x a B σ 0 k w hI (by omega) (by omega)) (cwV 2 hts gX1_wouldBeScorned_X1_isScorned rfl rfl rfl (by decide +kernel) ⟨Nat.le_of_ble_eq_true rfl, Nat.le_of_ble_eq_true rfl⟩) (preVM hK hP) rfl rfl hl.1 rfl (lv_room (Nat.le_of_ble_eq_true rfl)) dX1_wouldBeScorned_40 ⟨Nat.le_of_ble_eq_true rfl, Nat.le_of_ble_eq_true rfl⟩) ?_
        have f_7 := scn_or σ k w
        refine z_if_eq (tgt := 50) hx hb dX1_wouldBeScorned_43 (by decide) (by omega) (fun c_8 => ?_) (fun c_8 => ?_)
        ·
          refine lv_iconst (v := iI 0) hx hb dX1_wouldBeScorned_50 rfl ?_
          refine lv_goto (tgt := 59) hx hb dX1_wouldBeScorned_51 (by decide) ?_
          have hfin : σ = σ := by rfl
          rw [hfin] at hP
          have hfit : 0 = 0 := by rfl
          rw [hfit] at hP
          refine z_re (v' := iI (wbs σ k w)) (congrArg iI (by unfold wbs; split <;> omega)) ?_
          exact W.zret hx hb hr (z_nb (by have := wbs_or σ k w; omega)) (fun t ht hW => ⟨⟨_, (), rfl, rfl, (by show va_P _ _ _ t.heap; rw [ht]; exact hP)⟩, hS.F ht⟩) hS.2.2 dX1_wouldBeScorned_59
        ·
          refine lv_iconst (v := iI 1) hx hb dX1_wouldBeScorned_46 rfl ?_
          refine lv_goto (tgt := 59) hx hb dX1_wouldBeScorned_47 (by decide) ?_
          have hfin : σ = σ := by rfl
          rw [hfin] at hP
          have hfit : 0 = 0 := by rfl
          rw [hfit] at hP
          refine z_re (v' := iI (wbs σ k w)) (congrArg iI (by unfold wbs; split <;> omega)) ?_
          exact W.zret hx hb hr (z_nb (by have := wbs_or σ k w; omega)) (fun t ht hW => ⟨⟨_, (), rfl, rfl, (by show va_P _ _ _ t.heap; rw [ht]; exact hP)⟩, hS.F ht⟩) hS.2.2 dX1_wouldBeScorned_59
  ·
    exfalso
    omega
set_option maxHeartbeats 4000000 in
set_option maxRecDepth 100000 in
theorem e1_X1_wouldBeScorned (l : Launch) (G : zG) (x : Nat) (a : Nat → Nat) (sz : Nat) (B : Nat) (σ : zS) (t : Nat) (z : Int) (w : Int) (hI : zI B σ) (hzb : -2147483648 ≤ z ∧ z < 2147483648) (hbad : z < 0 ∨ (σ.1 1 : Int) ≤ z) : Met l yX1_wouldBeScorned wsX1_wouldBeScorned ({ frames := 2, cells := 0, slots := 0, locals := 43 } : Room) (va_Pc [.ref x, .int (iI z), .int (iI w)] (wM G x a t σ sz)) (va_Qi (fun r (_ : Unit) => r = iI 0) (fun _ t9 => va_P G.1 vwCl (mW G x a 1 σ) t9.heap) (zA x a sz)) 0 0 (zA x a sz) := by
  refine Met.ofW (cc := cX1_wouldBeScorned) (maxL := 3) (ret := (some .boolean)) (by decide) rfl ?_
  intro pp ee s m args below meth c s₁ B9 hml hv
  obtain ⟨rfl, hsz, hP, hK, hD0⟩ := hv
  subst hsz
  have hD := mW_zA (sz := s.heap.size) hD0
  have hS : va_S (zA x a s.heap.size) s.heap s.heap [] := va_S.rf
  have hx := B9.exec
  have hb := B9.bytes
  have hr := B9.returns
  have hts := atoms_spec (ws := wsX1_wouldBeScorned) B9.pre
  have hown : s.vm.findClass RX1 = some m.cls := findClass_of_methodNamed B9.named
  have hlocks := B9.notSynchronized
  have hin0 : ∀ w ∈ wsX10, w ∈ wsX1_wouldBeScorned := by decide +kernel
  have w_0 := hts (.fieldLink RX1 35 "ApologyLedgerModel" "thrown" "I") (by decide +kernel)
  have hl := lv_entry ([.ref x, .int (iI z), .int (iI w)]) (n := 3) (Nat.le_of_ble_eq_true rfl)
  rw [lg_entry_eq]
  generalize (lg_sl ([.ref x, .int (iI z), .int (iI w)]) ++ List.replicate (3 - (lg_sl ([.ref x, .int (iI z), .int (iI w)])).length) Slot.unset).toArray = ls at hl ⊢
  have hl : lv_has ls 3 [(0, .ref x), (1, .int (iI z)), (2, .int (iI w))] := hl
  have hIn := hI.n
  have hIb := hI.b
  refine lv_aload_n hx hb dX1_wouldBeScorned_0 rfl (lv_at hl 0 rfl) ?_
  refine lv_iconst (v := iI 0) hx hb dX1_wouldBeScorned_1 rfl ?_
  refine z_re (v' := iI ((0 : Nat) : Int)) (congrArg iI (by omega)) ?_
  refine m_put hx hb hts hin0 hown hK hP hD hS 0 rfl 0 (by decide) w_0 rfl (by decide +kernel) (Nat.le_of_ble_eq_true rfl) mW_put0 dX1_wouldBeScorned_2 (fun H locs hP hD hS => ?_)
  refine lv_aload_n hx hb dX1_wouldBeScorned_5 rfl (lv_at hl 0 rfl) ?_
  refine lv_iload_n hx hb dX1_wouldBeScorned_6 rfl (lv_at hl 1 rfl) ?_
  refine zc_i (va_runV (As := [.int (iI z)]) (rest := []) ⟨hx, hb, hml, hown, hts⟩ (c_X1_isSlight l G x a σ 0 z (by omega) (by omega)) (cwV 1 hts gX1_wouldBeScorned_X1_isSlight rfl rfl rfl (by decide +kernel) ⟨Nat.le_of_ble_eq_true rfl, Nat.le_of_ble_eq_true rfl⟩) (preVM hK hP) rfl rfl hl.1 rfl (lv_room (Nat.le_of_ble_eq_true rfl)) dX1_wouldBeScorned_7 ⟨Nat.le_of_ble_eq_true rfl, Nat.le_of_ble_eq_true rfl⟩) ?_
  have f_1 := inn_or z 0 ((σ.1 1 : Nat) - 1)
  refine z_if_ne (tgt := 19) hx hb dX1_wouldBeScorned_10 (by decide) (by omega) (fun c_2 => ?_) (fun c_2 => ?_)
  ·
    exfalso
    omega
  ·
    refine lv_aload_n hx hb dX1_wouldBeScorned_13 rfl (lv_at hl 0 rfl) ?_
    refine lv_iconst (v := iI 1) hx hb dX1_wouldBeScorned_14 rfl ?_
    refine z_re (v' := iI ((1 : Nat) : Int)) (congrArg iI (by omega)) ?_
    refine zc_wi (va_runV (As := [.int (iI ((1 : Nat) : Int))]) (rest := []) ⟨hx, hb, hml, hown, hts⟩ (c_X1_isNot l G x a _ σ 0 1) (cwV 1 hts gX1_wouldBeScorned_X1_isNot rfl rfl rfl (by decide +kernel) ⟨Nat.le_of_ble_eq_true rfl, Nat.le_of_ble_eq_true rfl⟩) (preWM hK hP hD) rfl rfl hl.1 rfl (lv_room (Nat.le_of_ble_eq_true rfl)) dX1_wouldBeScorned_15 ⟨Nat.le_of_ble_eq_true rfl, Nat.le_of_ble_eq_true rfl⟩) hS (fun q h => zA_mono hS.1 h) (fun H locs hP hS _ _ => ?_)
    have hD := mW_D (t' := 1) (σ' := σ) hD
    have hfin : σ = σ := by rfl
    rw [hfin] at hP
    have hfit : 1 = 1 := by rfl
    rw [hfit] at hP
    refine z_re (v' := iI 0) (congrArg iI (by first | rfl | omega)) ?_
    exact W.zret hx hb hr (z_nb (by omega)) (fun t ht hW => ⟨⟨_, (), rfl, rfl, (by show va_P _ _ _ t.heap; rw [ht]; exact hP)⟩, hS.F ht⟩) hS.2.2 dX1_wouldBeScorned_18
set_option maxHeartbeats 4000000 in
set_option maxRecDepth 100000 in
theorem e2_X1_wouldBeScorned (l : Launch) (G : zG) (x : Nat) (a : Nat → Nat) (sz : Nat) (B : Nat) (σ : zS) (t : Nat) (k : Nat) (z : Int) (hI : zI B σ) (hk : k < σ.1 1) (hzb : -2147483648 ≤ z ∧ z < 2147483648) (hbad : z < 1 ∨ 20 < z) : Met l yX1_wouldBeScorned wsX1_wouldBeScorned ({ frames := 2, cells := 0, slots := 0, locals := 43 } : Room) (va_Pc [.ref x, .int (iI (k : Int)), .int (iI z)] (wM G x a t σ sz)) (va_Qi (fun r (_ : Unit) => r = iI 0) (fun _ t9 => va_P G.1 vwCl (mW G x a 2 σ) t9.heap) (zA x a sz)) 0 0 (zA x a sz) := by
  refine Met.ofW (cc := cX1_wouldBeScorned) (maxL := 3) (ret := (some .boolean)) (by decide) rfl ?_
  intro pp ee s m args below meth c s₁ B9 hml hv
  obtain ⟨rfl, hsz, hP, hK, hD0⟩ := hv
  subst hsz
  have hD := mW_zA (sz := s.heap.size) hD0
  have hS : va_S (zA x a s.heap.size) s.heap s.heap [] := va_S.rf
  have hx := B9.exec
  have hb := B9.bytes
  have hr := B9.returns
  have hts := atoms_spec (ws := wsX1_wouldBeScorned) B9.pre
  have hown : s.vm.findClass RX1 = some m.cls := findClass_of_methodNamed B9.named
  have hlocks := B9.notSynchronized
  have hin0 : ∀ w ∈ wsX10, w ∈ wsX1_wouldBeScorned := by decide +kernel
  have w_0 := hts (.fieldLink RX1 35 "ApologyLedgerModel" "thrown" "I") (by decide +kernel)
  have hl := lv_entry ([.ref x, .int (iI (k : Int)), .int (iI z)]) (n := 3) (Nat.le_of_ble_eq_true rfl)
  rw [lg_entry_eq]
  generalize (lg_sl ([.ref x, .int (iI (k : Int)), .int (iI z)]) ++ List.replicate (3 - (lg_sl ([.ref x, .int (iI (k : Int)), .int (iI z)])).length) Slot.unset).toArray = ls at hl ⊢
  have hl : lv_has ls 3 [(0, .ref x), (1, .int (iI (k : Int))), (2, .int (iI z))] := hl
  have hIn := hI.n
  have hIb := hI.b
  refine lv_aload_n hx hb dX1_wouldBeScorned_0 rfl (lv_at hl 0 rfl) ?_
  refine lv_iconst (v := iI 0) hx hb dX1_wouldBeScorned_1 rfl ?_
  refine z_re (v' := iI ((0 : Nat) : Int)) (congrArg iI (by omega)) ?_
  refine m_put hx hb hts hin0 hown hK hP hD hS 0 rfl 0 (by decide) w_0 rfl (by decide +kernel) (Nat.le_of_ble_eq_true rfl) mW_put0 dX1_wouldBeScorned_2 (fun H locs hP hD hS => ?_)
  refine lv_aload_n hx hb dX1_wouldBeScorned_5 rfl (lv_at hl 0 rfl) ?_
  refine lv_iload_n hx hb dX1_wouldBeScorned_6 rfl (lv_at hl 1 rfl) ?_
  refine zc_i (va_runV (As := [.int (iI (k : Int))]) (rest := []) ⟨hx, hb, hml, hown, hts⟩ (c_X1_isSlight l G x a σ 0 (k : Int) (by omega) (by omega)) (cwV 1 hts gX1_wouldBeScorned_X1_isSlight rfl rfl rfl (by decide +kernel) ⟨Nat.le_of_ble_eq_true rfl, Nat.le_of_ble_eq_true rfl⟩) (preVM hK hP) rfl rfl hl.1 rfl (lv_room (Nat.le_of_ble_eq_true rfl)) dX1_wouldBeScorned_7 ⟨Nat.le_of_ble_eq_true rfl, Nat.le_of_ble_eq_true rfl⟩) ?_
  have f_1 := inn_or (k : Int) 0 ((σ.1 1 : Nat) - 1)
  refine z_if_ne (tgt := 19) hx hb dX1_wouldBeScorned_10 (by decide) (by omega) (fun c_2 => ?_) (fun c_2 => ?_)
  ·
    refine lv_iload_n hx hb dX1_wouldBeScorned_19 rfl (lv_at hl 2 rfl) ?_
    refine lv_iconst (v := iI 1) hx hb dX1_wouldBeScorned_20 rfl ?_
    refine lv_bipush (v := iI 20) hx hb dX1_wouldBeScorned_21 (by decide) ?_
    refine zc_i (va_runS (As := [.int (iI z), .int (iI 1), .int (iI 20)]) (rest := []) ⟨hx, hb, hml, hown, hts⟩ (c_X1_isIn l  z 1 20 (by omega) (by omega) (by omega)) (va_cwS 3 hts gX1_wouldBeScorned_X1_isIn rfl rfl rfl (by decide +kernel) ⟨Nat.le_of_ble_eq_true rfl, Nat.le_of_ble_eq_true rfl⟩) preS0 rfl rfl hl.1 rfl (lv_room (Nat.le_of_ble_eq_true rfl)) dX1_wouldBeScorned_23 ⟨Nat.le_of_ble_eq_true rfl, Nat.le_of_ble_eq_true rfl⟩) ?_
    have f_3 := inn_or z 1 20
    refine z_if_eq (tgt := 54) hx hb dX1_wouldBeScorned_26 (by decide) (by omega) (fun c_4 => ?_) (fun c_4 => ?_)
    ·
      refine lv_aload_n hx hb dX1_wouldBeScorned_54 rfl (lv_at hl 0 rfl) ?_
      refine lv_iconst (v := iI 2) hx hb dX1_wouldBeScorned_55 rfl ?_
      refine z_re (v' := iI ((2 : Nat) : Int)) (congrArg iI (by omega)) ?_
      refine zc_wi (va_runV (As := [.int (iI ((2 : Nat) : Int))]) (rest := []) ⟨hx, hb, hml, hown, hts⟩ (c_X1_isNot l G x a _ σ 0 2) (cwV 1 hts gX1_wouldBeScorned_X1_isNot rfl rfl rfl (by decide +kernel) ⟨Nat.le_of_ble_eq_true rfl, Nat.le_of_ble_eq_true rfl⟩) (preWM hK hP hD) rfl rfl hl.1 rfl (lv_room (Nat.le_of_ble_eq_true rfl)) dX1_wouldBeScorned_56 ⟨Nat.le_of_ble_eq_true rfl, Nat.le_of_ble_eq_true rfl⟩) hS (fun q h => zA_mono hS.1 h) (fun H locs hP hS _ _ => ?_)
      have hD := mW_D (t' := 2) (σ' := σ) hD
      have hfin : σ = σ := by rfl
      rw [hfin] at hP
      have hfit : 2 = 2 := by rfl
      rw [hfit] at hP
      refine z_re (v' := iI 0) (congrArg iI (by first | rfl | omega)) ?_
      exact W.zret hx hb hr (z_nb (by omega)) (fun t ht hW => ⟨⟨_, (), rfl, rfl, (by show va_P _ _ _ t.heap; rw [ht]; exact hP)⟩, hS.F ht⟩) hS.2.2 dX1_wouldBeScorned_59
    ·
      exfalso
      omega
  ·
    exfalso
    omega
set_option maxHeartbeats 4000000 in
set_option maxRecDepth 100000 in
theorem v_X1_weightIn (l : Launch) (G : zG) (x : Nat) (a : Nat → Nat) (sz : Nat) (B : Nat) (σ : zS) (t : Nat) (k : Nat) (d : Int) (hI : zI B σ) (hk : k < σ.1 1) (hd : 1 ≤ d ∧ d ≤ 60) : Met l yX1_weightIn wsX1_weightIn ({ frames := 3, cells := 0, slots := 0, locals := 68 } : Room) (va_Pc [.ref x, .int (iI (k : Int)), .int (iI d)] (wM G x a t σ sz)) (va_Qi (fun r (_ : Unit) => r = iI (lat σ k d)) (fun _ t9 => va_P G.1 vwCl (mW G x a 0 σ) t9.heap) (zA x a sz)) 0 0 (zA x a sz) := by
  refine Met.ofW (cc := cX1_weightIn) (maxL := 3) (ret := (some .int)) (by decide) rfl ?_
  intro pp ee s m args below meth c s₁ B9 hml hv
  obtain ⟨rfl, hsz, hP, hK, hD0⟩ := hv
  subst hsz
  have hD := mW_zA (sz := s.heap.size) hD0
  have hS : va_S (zA x a s.heap.size) s.heap s.heap [] := va_S.rf
  have hx := B9.exec
  have hb := B9.bytes
  have hr := B9.returns
  have hts := atoms_spec (ws := wsX1_weightIn) B9.pre
  have hown : s.vm.findClass RX1 = some m.cls := findClass_of_methodNamed B9.named
  have hlocks := B9.notSynchronized
  have hin0 : ∀ w ∈ wsX10, w ∈ wsX1_weightIn := by decide +kernel
  have w_0 := hts (.fieldLink RX1 35 "ApologyLedgerModel" "thrown" "I") (by decide +kernel)
  have hl := lv_entry ([.ref x, .int (iI (k : Int)), .int (iI d)]) (n := 3) (Nat.le_of_ble_eq_true rfl)
  rw [lg_entry_eq]
  generalize (lg_sl ([.ref x, .int (iI (k : Int)), .int (iI d)]) ++ List.replicate (3 - (lg_sl ([.ref x, .int (iI (k : Int)), .int (iI d)])).length) Slot.unset).toArray = ls at hl ⊢
  have hl : lv_has ls 3 [(0, .ref x), (1, .int (iI (k : Int))), (2, .int (iI d))] := hl
  have hIn := hI.n
  have hIb := hI.b
  have g4 := hI.r4 k
  have g5 := hI.r5 k
  have g6 := hI.r6 k
  have g7 := hI.r7 k
  refine lv_aload_n hx hb dX1_weightIn_0 rfl (lv_at hl 0 rfl) ?_
  refine lv_iconst (v := iI 0) hx hb dX1_weightIn_1 rfl ?_
  refine z_re (v' := iI ((0 : Nat) : Int)) (congrArg iI (by omega)) ?_
  refine m_put hx hb hts hin0 hown hK hP hD hS 0 rfl 0 (by decide) w_0 rfl (by decide +kernel) (Nat.le_of_ble_eq_true rfl) mW_put0 dX1_weightIn_2 (fun H locs hP hD hS => ?_)
  refine lv_aload_n hx hb dX1_weightIn_5 rfl (lv_at hl 0 rfl) ?_
  refine lv_iload_n hx hb dX1_weightIn_6 rfl (lv_at hl 1 rfl) ?_
  refine zc_i (va_runV (As := [.int (iI (k : Int))]) (rest := []) ⟨hx, hb, hml, hown, hts⟩ (c_X1_isSlight l G x a σ 0 (k : Int) (by omega) (by omega)) (cwV 1 hts gX1_weightIn_X1_isSlight rfl rfl rfl (by decide +kernel) ⟨Nat.le_of_ble_eq_true rfl, Nat.le_of_ble_eq_true rfl⟩) (preVM hK hP) rfl rfl hl.1 rfl (lv_room (Nat.le_of_ble_eq_true rfl)) dX1_weightIn_7 ⟨Nat.le_of_ble_eq_true rfl, Nat.le_of_ble_eq_true rfl⟩) ?_
  have f_1 := inn_or (k : Int) 0 ((σ.1 1 : Nat) - 1)
  refine z_if_ne (tgt := 19) hx hb dX1_weightIn_10 (by decide) (by omega) (fun c_2 => ?_) (fun c_2 => ?_)
  ·
    refine lv_iload_n hx hb dX1_weightIn_19 rfl (lv_at hl 2 rfl) ?_
    refine lv_iconst (v := iI 1) hx hb dX1_weightIn_20 rfl ?_
    refine lv_bipush (v := iI 60) hx hb dX1_weightIn_21 (by decide) ?_
    refine zc_i (va_runS (As := [.int (iI d), .int (iI 1), .int (iI 60)]) (rest := []) ⟨hx, hb, hml, hown, hts⟩ (c_X1_isIn l  d 1 60 (by omega) (by omega) (by omega)) (va_cwS 3 hts gX1_weightIn_X1_isIn rfl rfl rfl (by decide +kernel) ⟨Nat.le_of_ble_eq_true rfl, Nat.le_of_ble_eq_true rfl⟩) preS0 rfl rfl hl.1 rfl (lv_room (Nat.le_of_ble_eq_true rfl)) dX1_weightIn_23 ⟨Nat.le_of_ble_eq_true rfl, Nat.le_of_ble_eq_true rfl⟩) ?_
    have f_3 := inn_or d 1 60
    refine z_if_eq (tgt := 38) hx hb dX1_weightIn_26 (by decide) (by omega) (fun c_4 => ?_) (fun c_4 => ?_)
    ·
      exfalso
      omega
    ·
      refine lv_aload_n hx hb dX1_weightIn_29 rfl (lv_at hl 0 rfl) ?_
      refine lv_iload_n hx hb dX1_weightIn_30 rfl (lv_at hl 1 rfl) ?_
      refine lv_iload_n hx hb dX1_weightIn_31 rfl (lv_at hl 2 rfl) ?_
      refine zc_i (va_runV (As := [.int (iI (k : Int)), .int (iI d)]) (rest := []) ⟨hx, hb, hml, hown, hts⟩ (c_X1_later l G x a σ 0 k d (by omega) (by omega) (by omega) (by omega) (by omega) (by omega)) (cwV 2 hts gX1_weightIn_X1_later rfl rfl rfl (by decide +kernel) ⟨Nat.le_of_ble_eq_true rfl, Nat.le_of_ble_eq_true rfl⟩) (preVM hK hP) rfl rfl hl.1 rfl (lv_room (Nat.le_of_ble_eq_true rfl)) dX1_weightIn_32 ⟨Nat.le_of_ble_eq_true rfl, Nat.le_of_ble_eq_true rfl⟩) ?_
      have f_5 := @lat_b0 σ k d (by omega)
      refine lv_goto (tgt := 43) hx hb dX1_weightIn_35 (by decide) ?_
      have hfin : σ = σ := by rfl
      rw [hfin] at hP
      have hfit : 0 = 0 := by rfl
      rw [hfit] at hP
      refine z_re (v' := iI (lat σ k d)) (congrArg iI (by first | rfl | omega)) ?_
      exact W.iret hx hb hr (fun t ht hW => ⟨⟨_, (), rfl, rfl, (by show va_P _ _ _ t.heap; rw [ht]; exact hP)⟩, hS.F ht⟩) hS.2.2 dX1_weightIn_43
  ·
    exfalso
    omega
set_option maxHeartbeats 4000000 in
set_option maxRecDepth 100000 in
theorem e1_X1_weightIn (l : Launch) (G : zG) (x : Nat) (a : Nat → Nat) (sz : Nat) (B : Nat) (σ : zS) (t : Nat) (z : Int) (w : Int) (hI : zI B σ) (hzb : -2147483648 ≤ z ∧ z < 2147483648) (hbad : z < 0 ∨ (σ.1 1 : Int) ≤ z) : Met l yX1_weightIn wsX1_weightIn ({ frames := 2, cells := 0, slots := 0, locals := 43 } : Room) (va_Pc [.ref x, .int (iI z), .int (iI w)] (wM G x a t σ sz)) (va_Qi (fun r (_ : Unit) => r = iI 0) (fun _ t9 => va_P G.1 vwCl (mW G x a 1 σ) t9.heap) (zA x a sz)) 0 0 (zA x a sz) := by
  refine Met.ofW (cc := cX1_weightIn) (maxL := 3) (ret := (some .int)) (by decide) rfl ?_
  intro pp ee s m args below meth c s₁ B9 hml hv
  obtain ⟨rfl, hsz, hP, hK, hD0⟩ := hv
  subst hsz
  have hD := mW_zA (sz := s.heap.size) hD0
  have hS : va_S (zA x a s.heap.size) s.heap s.heap [] := va_S.rf
  have hx := B9.exec
  have hb := B9.bytes
  have hr := B9.returns
  have hts := atoms_spec (ws := wsX1_weightIn) B9.pre
  have hown : s.vm.findClass RX1 = some m.cls := findClass_of_methodNamed B9.named
  have hlocks := B9.notSynchronized
  have hin0 : ∀ w ∈ wsX10, w ∈ wsX1_weightIn := by decide +kernel
  have w_0 := hts (.fieldLink RX1 35 "ApologyLedgerModel" "thrown" "I") (by decide +kernel)
  have hl := lv_entry ([.ref x, .int (iI z), .int (iI w)]) (n := 3) (Nat.le_of_ble_eq_true rfl)
  rw [lg_entry_eq]
  generalize (lg_sl ([.ref x, .int (iI z), .int (iI w)]) ++ List.replicate (3 - (lg_sl ([.ref x, .int (iI z), .int (iI w)])).length) Slot.unset).toArray = ls at hl ⊢
  have hl : lv_has ls 3 [(0, .ref x), (1, .int (iI z)), (2, .int (iI w))] := hl
  have hIn := hI.n
  have hIb := hI.b
  refine lv_aload_n hx hb dX1_weightIn_0 rfl (lv_at hl 0 rfl) ?_
  refine lv_iconst (v := iI 0) hx hb dX1_weightIn_1 rfl ?_
  refine z_re (v' := iI ((0 : Nat) : Int)) (congrArg iI (by omega)) ?_
  refine m_put hx hb hts hin0 hown hK hP hD hS 0 rfl 0 (by decide) w_0 rfl (by decide +kernel) (Nat.le_of_ble_eq_true rfl) mW_put0 dX1_weightIn_2 (fun H locs hP hD hS => ?_)
  refine lv_aload_n hx hb dX1_weightIn_5 rfl (lv_at hl 0 rfl) ?_
  refine lv_iload_n hx hb dX1_weightIn_6 rfl (lv_at hl 1 rfl) ?_
  refine zc_i (va_runV (As := [.int (iI z)]) (rest := []) ⟨hx, hb, hml, hown, hts⟩ (c_X1_isSlight l G x a σ 0 z (by omega) (by omega)) (cwV 1 hts gX1_weightIn_X1_isSlight rfl rfl rfl (by decide +kernel) ⟨Nat.le_of_ble_eq_true rfl, Nat.le_of_ble_eq_true rfl⟩) (preVM hK hP) rfl rfl hl.1 rfl (lv_room (Nat.le_of_ble_eq_true rfl)) dX1_weightIn_7 ⟨Nat.le_of_ble_eq_true rfl, Nat.le_of_ble_eq_true rfl⟩) ?_
  have f_1 := inn_or z 0 ((σ.1 1 : Nat) - 1)
  refine z_if_ne (tgt := 19) hx hb dX1_weightIn_10 (by decide) (by omega) (fun c_2 => ?_) (fun c_2 => ?_)
  ·
    exfalso
    omega
  ·
    refine lv_aload_n hx hb dX1_weightIn_13 rfl (lv_at hl 0 rfl) ?_
    refine lv_iconst (v := iI 1) hx hb dX1_weightIn_14 rfl ?_
    refine z_re (v' := iI ((1 : Nat) : Int)) (congrArg iI (by omega)) ?_
    refine zc_wi (va_runV (As := [.int (iI ((1 : Nat) : Int))]) (rest := []) ⟨hx, hb, hml, hown, hts⟩ (c_X1_no l G x a _ σ 0 1) (cwV 1 hts gX1_weightIn_X1_no rfl rfl rfl (by decide +kernel) ⟨Nat.le_of_ble_eq_true rfl, Nat.le_of_ble_eq_true rfl⟩) (preWM hK hP hD) rfl rfl hl.1 rfl (lv_room (Nat.le_of_ble_eq_true rfl)) dX1_weightIn_15 ⟨Nat.le_of_ble_eq_true rfl, Nat.le_of_ble_eq_true rfl⟩) hS (fun q h => zA_mono hS.1 h) (fun H locs hP hS _ _ => ?_)
    have hD := mW_D (t' := 1) (σ' := σ) hD
    have hfin : σ = σ := by rfl
    rw [hfin] at hP
    have hfit : 1 = 1 := by rfl
    rw [hfit] at hP
    refine z_re (v' := iI 0) (congrArg iI (by first | rfl | omega)) ?_
    exact W.iret hx hb hr (fun t ht hW => ⟨⟨_, (), rfl, rfl, (by show va_P _ _ _ t.heap; rw [ht]; exact hP)⟩, hS.F ht⟩) hS.2.2 dX1_weightIn_18
set_option maxHeartbeats 4000000 in
set_option maxRecDepth 100000 in
theorem e2_X1_weightIn (l : Launch) (G : zG) (x : Nat) (a : Nat → Nat) (sz : Nat) (B : Nat) (σ : zS) (t : Nat) (k : Nat) (z : Int) (hI : zI B σ) (hk : k < σ.1 1) (hzb : -2147483648 ≤ z ∧ z < 2147483648) (hbad : z < 1 ∨ 60 < z) : Met l yX1_weightIn wsX1_weightIn ({ frames := 2, cells := 0, slots := 0, locals := 43 } : Room) (va_Pc [.ref x, .int (iI (k : Int)), .int (iI z)] (wM G x a t σ sz)) (va_Qi (fun r (_ : Unit) => r = iI 0) (fun _ t9 => va_P G.1 vwCl (mW G x a 2 σ) t9.heap) (zA x a sz)) 0 0 (zA x a sz) := by
  refine Met.ofW (cc := cX1_weightIn) (maxL := 3) (ret := (some .int)) (by decide) rfl ?_
  intro pp ee s m args below meth c s₁ B9 hml hv
  obtain ⟨rfl, hsz, hP, hK, hD0⟩ := hv
  subst hsz
  have hD := mW_zA (sz := s.heap.size) hD0
  have hS : va_S (zA x a s.heap.size) s.heap s.heap [] := va_S.rf
  have hx := B9.exec
  have hb := B9.bytes
  have hr := B9.returns
  have hts := atoms_spec (ws := wsX1_weightIn) B9.pre
  have hown : s.vm.findClass RX1 = some m.cls := findClass_of_methodNamed B9.named
  have hlocks := B9.notSynchronized
  have hin0 : ∀ w ∈ wsX10, w ∈ wsX1_weightIn := by decide +kernel
  have w_0 := hts (.fieldLink RX1 35 "ApologyLedgerModel" "thrown" "I") (by decide +kernel)
  have hl := lv_entry ([.ref x, .int (iI (k : Int)), .int (iI z)]) (n := 3) (Nat.le_of_ble_eq_true rfl)
  rw [lg_entry_eq]
  generalize (lg_sl ([.ref x, .int (iI (k : Int)), .int (iI z)]) ++ List.replicate (3 - (lg_sl ([.ref x, .int (iI (k : Int)), .int (iI z)])).length) Slot.unset).toArray = ls at hl ⊢
  have hl : lv_has ls 3 [(0, .ref x), (1, .int (iI (k : Int))), (2, .int (iI z))] := hl
  have hIn := hI.n
  have hIb := hI.b
  refine lv_aload_n hx hb dX1_weightIn_0 rfl (lv_at hl 0 rfl) ?_
  refine lv_iconst (v := iI 0) hx hb dX1_weightIn_1 rfl ?_
  refine z_re (v' := iI ((0 : Nat) : Int)) (congrArg iI (by omega)) ?_
  refine m_put hx hb hts hin0 hown hK hP hD hS 0 rfl 0 (by decide) w_0 rfl (by decide +kernel) (Nat.le_of_ble_eq_true rfl) mW_put0 dX1_weightIn_2 (fun H locs hP hD hS => ?_)
  refine lv_aload_n hx hb dX1_weightIn_5 rfl (lv_at hl 0 rfl) ?_
  refine lv_iload_n hx hb dX1_weightIn_6 rfl (lv_at hl 1 rfl) ?_
  refine zc_i (va_runV (As := [.int (iI (k : Int))]) (rest := []) ⟨hx, hb, hml, hown, hts⟩ (c_X1_isSlight l G x a σ 0 (k : Int) (by omega) (by omega)) (cwV 1 hts gX1_weightIn_X1_isSlight rfl rfl rfl (by decide +kernel) ⟨Nat.le_of_ble_eq_true rfl, Nat.le_of_ble_eq_true rfl⟩) (preVM hK hP) rfl rfl hl.1 rfl (lv_room (Nat.le_of_ble_eq_true rfl)) dX1_weightIn_7 ⟨Nat.le_of_ble_eq_true rfl, Nat.le_of_ble_eq_true rfl⟩) ?_
  have f_1 := inn_or (k : Int) 0 ((σ.1 1 : Nat) - 1)
  refine z_if_ne (tgt := 19) hx hb dX1_weightIn_10 (by decide) (by omega) (fun c_2 => ?_) (fun c_2 => ?_)
  ·
    refine lv_iload_n hx hb dX1_weightIn_19 rfl (lv_at hl 2 rfl) ?_
    refine lv_iconst (v := iI 1) hx hb dX1_weightIn_20 rfl ?_
    refine lv_bipush (v := iI 60) hx hb dX1_weightIn_21 (by decide) ?_
    refine zc_i (va_runS (As := [.int (iI z), .int (iI 1), .int (iI 60)]) (rest := []) ⟨hx, hb, hml, hown, hts⟩ (c_X1_isIn l  z 1 60 (by omega) (by omega) (by omega)) (va_cwS 3 hts gX1_weightIn_X1_isIn rfl rfl rfl (by decide +kernel) ⟨Nat.le_of_ble_eq_true rfl, Nat.le_of_ble_eq_true rfl⟩) preS0 rfl rfl hl.1 rfl (lv_room (Nat.le_of_ble_eq_true rfl)) dX1_weightIn_23 ⟨Nat.le_of_ble_eq_true rfl, Nat.le_of_ble_eq_true rfl⟩) ?_
    have f_3 := inn_or z 1 60
    refine z_if_eq (tgt := 38) hx hb dX1_weightIn_26 (by decide) (by omega) (fun c_4 => ?_) (fun c_4 => ?_)
    ·
      refine lv_aload_n hx hb dX1_weightIn_38 rfl (lv_at hl 0 rfl) ?_
      refine lv_iconst (v := iI 2) hx hb dX1_weightIn_39 rfl ?_
      refine z_re (v' := iI ((2 : Nat) : Int)) (congrArg iI (by omega)) ?_
      refine zc_wi (va_runV (As := [.int (iI ((2 : Nat) : Int))]) (rest := []) ⟨hx, hb, hml, hown, hts⟩ (c_X1_no l G x a _ σ 0 2) (cwV 1 hts gX1_weightIn_X1_no rfl rfl rfl (by decide +kernel) ⟨Nat.le_of_ble_eq_true rfl, Nat.le_of_ble_eq_true rfl⟩) (preWM hK hP hD) rfl rfl hl.1 rfl (lv_room (Nat.le_of_ble_eq_true rfl)) dX1_weightIn_40 ⟨Nat.le_of_ble_eq_true rfl, Nat.le_of_ble_eq_true rfl⟩) hS (fun q h => zA_mono hS.1 h) (fun H locs hP hS _ _ => ?_)
      have hD := mW_D (t' := 2) (σ' := σ) hD
      have hfin : σ = σ := by rfl
      rw [hfin] at hP
      have hfit : 2 = 2 := by rfl
      rw [hfit] at hP
      refine z_re (v' := iI 0) (congrArg iI (by first | rfl | omega)) ?_
      exact W.iret hx hb hr (fun t ht hW => ⟨⟨_, (), rfl, rfl, (by show va_P _ _ _ t.heap; rw [ht]; exact hP)⟩, hS.F ht⟩) hS.2.2 dX1_weightIn_43
    ·
      exfalso
      omega
  ·
    exfalso
    omega
set_option maxHeartbeats 4000000 in
set_option maxRecDepth 100000 in
theorem v_X1_borneIn (l : Launch) (G : zG) (x : Nat) (a : Nat → Nat) (sz : Nat) (B : Nat) (σ : zS) (t : Nat) (p : Nat) (d : Int) (hI : zI B σ) (hp : p < σ.1 0) (hd : 1 ≤ d ∧ d ≤ 60) : Met l yX1_borneIn wsX1_borneIn ({ frames := 4, cells := 0, slots := 0, locals := 92 } : Room) (va_Pc [.ref x, .int (iI (p : Int)), .int (iI d)] (wM G x a t σ sz)) (va_Qi (fun r (_ : Unit) => r = iI (bth σ (p : Int) d)) (fun _ t9 => va_P G.1 vwCl (mW G x a 0 σ) t9.heap) (zA x a sz)) 0 0 (zA x a sz) := by
  refine Met.ofW (cc := cX1_borneIn) (maxL := 3) (ret := (some .int)) (by decide) rfl ?_
  intro pp ee s m args below meth c s₁ B9 hml hv
  obtain ⟨rfl, hsz, hP, hK, hD0⟩ := hv
  subst hsz
  have hD := mW_zA (sz := s.heap.size) hD0
  have hS : va_S (zA x a s.heap.size) s.heap s.heap [] := va_S.rf
  have hx := B9.exec
  have hb := B9.bytes
  have hr := B9.returns
  have hts := atoms_spec (ws := wsX1_borneIn) B9.pre
  have hown : s.vm.findClass RX1 = some m.cls := findClass_of_methodNamed B9.named
  have hlocks := B9.notSynchronized
  have hin0 : ∀ w ∈ wsX10, w ∈ wsX1_borneIn := by decide +kernel
  have w_0 := hts (.fieldLink RX1 35 "ApologyLedgerModel" "thrown" "I") (by decide +kernel)
  have hl := lv_entry ([.ref x, .int (iI (p : Int)), .int (iI d)]) (n := 3) (Nat.le_of_ble_eq_true rfl)
  rw [lg_entry_eq]
  generalize (lg_sl ([.ref x, .int (iI (p : Int)), .int (iI d)]) ++ List.replicate (3 - (lg_sl ([.ref x, .int (iI (p : Int)), .int (iI d)])).length) Slot.unset).toArray = ls at hl ⊢
  have hl : lv_has ls 3 [(0, .ref x), (1, .int (iI (p : Int))), (2, .int (iI d))] := hl
  have hIn := hI.n
  have hIb := hI.b
  refine lv_aload_n hx hb dX1_borneIn_0 rfl (lv_at hl 0 rfl) ?_
  refine lv_iconst (v := iI 0) hx hb dX1_borneIn_1 rfl ?_
  refine z_re (v' := iI ((0 : Nat) : Int)) (congrArg iI (by omega)) ?_
  refine m_put hx hb hts hin0 hown hK hP hD hS 0 rfl 0 (by decide) w_0 rfl (by decide +kernel) (Nat.le_of_ble_eq_true rfl) mW_put0 dX1_borneIn_2 (fun H locs hP hD hS => ?_)
  refine lv_aload_n hx hb dX1_borneIn_5 rfl (lv_at hl 0 rfl) ?_
  refine lv_iload_n hx hb dX1_borneIn_6 rfl (lv_at hl 1 rfl) ?_
  refine zc_i (va_runV (As := [.int (iI (p : Int))]) (rest := []) ⟨hx, hb, hml, hown, hts⟩ (c_X1_isPerson l G x a σ 0 (p : Int) (by omega) (by omega)) (cwV 1 hts gX1_borneIn_X1_isPerson rfl rfl rfl (by decide +kernel) ⟨Nat.le_of_ble_eq_true rfl, Nat.le_of_ble_eq_true rfl⟩) (preVM hK hP) rfl rfl hl.1 rfl (lv_room (Nat.le_of_ble_eq_true rfl)) dX1_borneIn_7 ⟨Nat.le_of_ble_eq_true rfl, Nat.le_of_ble_eq_true rfl⟩) ?_
  have f_1 := inn_or (p : Int) 0 ((σ.1 0 : Nat) - 1)
  refine z_if_ne (tgt := 19) hx hb dX1_borneIn_10 (by decide) (by omega) (fun c_2 => ?_) (fun c_2 => ?_)
  ·
    refine lv_iload_n hx hb dX1_borneIn_19 rfl (lv_at hl 2 rfl) ?_
    refine lv_iconst (v := iI 1) hx hb dX1_borneIn_20 rfl ?_
    refine lv_bipush (v := iI 60) hx hb dX1_borneIn_21 (by decide) ?_
    refine zc_i (va_runS (As := [.int (iI d), .int (iI 1), .int (iI 60)]) (rest := []) ⟨hx, hb, hml, hown, hts⟩ (c_X1_isIn l  d 1 60 (by omega) (by omega) (by omega)) (va_cwS 3 hts gX1_borneIn_X1_isIn rfl rfl rfl (by decide +kernel) ⟨Nat.le_of_ble_eq_true rfl, Nat.le_of_ble_eq_true rfl⟩) preS0 rfl rfl hl.1 rfl (lv_room (Nat.le_of_ble_eq_true rfl)) dX1_borneIn_23 ⟨Nat.le_of_ble_eq_true rfl, Nat.le_of_ble_eq_true rfl⟩) ?_
    have f_3 := inn_or d 1 60
    refine z_if_eq (tgt := 38) hx hb dX1_borneIn_26 (by decide) (by omega) (fun c_4 => ?_) (fun c_4 => ?_)
    ·
      exfalso
      omega
    ·
      refine lv_aload_n hx hb dX1_borneIn_29 rfl (lv_at hl 0 rfl) ?_
      refine lv_iload_n hx hb dX1_borneIn_30 rfl (lv_at hl 1 rfl) ?_
      refine lv_iload_n hx hb dX1_borneIn_31 rfl (lv_at hl 2 rfl) ?_
      refine zc_i (va_runV (As := [.int (iI (p : Int)), .int (iI d)]) (rest := []) ⟨hx, hb, hml, hown, hts⟩ (c_X1_borneThen l G x a B σ 0 p d hI (by omega) (by omega)) (cwV 2 hts gX1_borneIn_X1_borneThen rfl rfl rfl (by decide +kernel) ⟨Nat.le_of_ble_eq_true rfl, Nat.le_of_ble_eq_true rfl⟩) (preVM hK hP) rfl rfl hl.1 rfl (lv_room (Nat.le_of_ble_eq_true rfl)) dX1_borneIn_32 ⟨Nat.le_of_ble_eq_true rfl, Nat.le_of_ble_eq_true rfl⟩) ?_
      have f_5 := bth_bd hI (p : Int) d
      refine lv_goto (tgt := 43) hx hb dX1_borneIn_35 (by decide) ?_
      have hfin : σ = σ := by rfl
      rw [hfin] at hP
      have hfit : 0 = 0 := by rfl
      rw [hfit] at hP
      refine z_re (v' := iI (bth σ (p : Int) d)) (congrArg iI (by first | rfl | omega)) ?_
      exact W.iret hx hb hr (fun t ht hW => ⟨⟨_, (), rfl, rfl, (by show va_P _ _ _ t.heap; rw [ht]; exact hP)⟩, hS.F ht⟩) hS.2.2 dX1_borneIn_43
  ·
    exfalso
    omega
set_option maxHeartbeats 4000000 in
set_option maxRecDepth 100000 in
theorem e1_X1_borneIn (l : Launch) (G : zG) (x : Nat) (a : Nat → Nat) (sz : Nat) (B : Nat) (σ : zS) (t : Nat) (z : Int) (w : Int) (hI : zI B σ) (hzb : -2147483648 ≤ z ∧ z < 2147483648) (hbad : z < 0 ∨ (σ.1 0 : Int) ≤ z) : Met l yX1_borneIn wsX1_borneIn ({ frames := 2, cells := 0, slots := 0, locals := 43 } : Room) (va_Pc [.ref x, .int (iI z), .int (iI w)] (wM G x a t σ sz)) (va_Qi (fun r (_ : Unit) => r = iI 0) (fun _ t9 => va_P G.1 vwCl (mW G x a 1 σ) t9.heap) (zA x a sz)) 0 0 (zA x a sz) := by
  refine Met.ofW (cc := cX1_borneIn) (maxL := 3) (ret := (some .int)) (by decide) rfl ?_
  intro pp ee s m args below meth c s₁ B9 hml hv
  obtain ⟨rfl, hsz, hP, hK, hD0⟩ := hv
  subst hsz
  have hD := mW_zA (sz := s.heap.size) hD0
  have hS : va_S (zA x a s.heap.size) s.heap s.heap [] := va_S.rf
  have hx := B9.exec
  have hb := B9.bytes
  have hr := B9.returns
  have hts := atoms_spec (ws := wsX1_borneIn) B9.pre
  have hown : s.vm.findClass RX1 = some m.cls := findClass_of_methodNamed B9.named
  have hlocks := B9.notSynchronized
  have hin0 : ∀ w ∈ wsX10, w ∈ wsX1_borneIn := by decide +kernel
  have w_0 := hts (.fieldLink RX1 35 "ApologyLedgerModel" "thrown" "I") (by decide +kernel)
  have hl := lv_entry ([.ref x, .int (iI z), .int (iI w)]) (n := 3) (Nat.le_of_ble_eq_true rfl)
  rw [lg_entry_eq]
  generalize (lg_sl ([.ref x, .int (iI z), .int (iI w)]) ++ List.replicate (3 - (lg_sl ([.ref x, .int (iI z), .int (iI w)])).length) Slot.unset).toArray = ls at hl ⊢
  have hl : lv_has ls 3 [(0, .ref x), (1, .int (iI z)), (2, .int (iI w))] := hl
  have hIn := hI.n
  have hIb := hI.b
  refine lv_aload_n hx hb dX1_borneIn_0 rfl (lv_at hl 0 rfl) ?_
  refine lv_iconst (v := iI 0) hx hb dX1_borneIn_1 rfl ?_
  refine z_re (v' := iI ((0 : Nat) : Int)) (congrArg iI (by omega)) ?_
  refine m_put hx hb hts hin0 hown hK hP hD hS 0 rfl 0 (by decide) w_0 rfl (by decide +kernel) (Nat.le_of_ble_eq_true rfl) mW_put0 dX1_borneIn_2 (fun H locs hP hD hS => ?_)
  refine lv_aload_n hx hb dX1_borneIn_5 rfl (lv_at hl 0 rfl) ?_
  refine lv_iload_n hx hb dX1_borneIn_6 rfl (lv_at hl 1 rfl) ?_
  refine zc_i (va_runV (As := [.int (iI z)]) (rest := []) ⟨hx, hb, hml, hown, hts⟩ (c_X1_isPerson l G x a σ 0 z (by omega) (by omega)) (cwV 1 hts gX1_borneIn_X1_isPerson rfl rfl rfl (by decide +kernel) ⟨Nat.le_of_ble_eq_true rfl, Nat.le_of_ble_eq_true rfl⟩) (preVM hK hP) rfl rfl hl.1 rfl (lv_room (Nat.le_of_ble_eq_true rfl)) dX1_borneIn_7 ⟨Nat.le_of_ble_eq_true rfl, Nat.le_of_ble_eq_true rfl⟩) ?_
  have f_1 := inn_or z 0 ((σ.1 0 : Nat) - 1)
  refine z_if_ne (tgt := 19) hx hb dX1_borneIn_10 (by decide) (by omega) (fun c_2 => ?_) (fun c_2 => ?_)
  ·
    exfalso
    omega
  ·
    refine lv_aload_n hx hb dX1_borneIn_13 rfl (lv_at hl 0 rfl) ?_
    refine lv_iconst (v := iI 1) hx hb dX1_borneIn_14 rfl ?_
    refine z_re (v' := iI ((1 : Nat) : Int)) (congrArg iI (by omega)) ?_
    refine zc_wi (va_runV (As := [.int (iI ((1 : Nat) : Int))]) (rest := []) ⟨hx, hb, hml, hown, hts⟩ (c_X1_no l G x a _ σ 0 1) (cwV 1 hts gX1_borneIn_X1_no rfl rfl rfl (by decide +kernel) ⟨Nat.le_of_ble_eq_true rfl, Nat.le_of_ble_eq_true rfl⟩) (preWM hK hP hD) rfl rfl hl.1 rfl (lv_room (Nat.le_of_ble_eq_true rfl)) dX1_borneIn_15 ⟨Nat.le_of_ble_eq_true rfl, Nat.le_of_ble_eq_true rfl⟩) hS (fun q h => zA_mono hS.1 h) (fun H locs hP hS _ _ => ?_)
    have hD := mW_D (t' := 1) (σ' := σ) hD
    have hfin : σ = σ := by rfl
    rw [hfin] at hP
    have hfit : 1 = 1 := by rfl
    rw [hfit] at hP
    refine z_re (v' := iI 0) (congrArg iI (by first | rfl | omega)) ?_
    exact W.iret hx hb hr (fun t ht hW => ⟨⟨_, (), rfl, rfl, (by show va_P _ _ _ t.heap; rw [ht]; exact hP)⟩, hS.F ht⟩) hS.2.2 dX1_borneIn_18
set_option maxHeartbeats 4000000 in
set_option maxRecDepth 100000 in
theorem e2_X1_borneIn (l : Launch) (G : zG) (x : Nat) (a : Nat → Nat) (sz : Nat) (B : Nat) (σ : zS) (t : Nat) (p : Nat) (z : Int) (hI : zI B σ) (hp : p < σ.1 0) (hzb : -2147483648 ≤ z ∧ z < 2147483648) (hbad : z < 1 ∨ 60 < z) : Met l yX1_borneIn wsX1_borneIn ({ frames := 2, cells := 0, slots := 0, locals := 43 } : Room) (va_Pc [.ref x, .int (iI (p : Int)), .int (iI z)] (wM G x a t σ sz)) (va_Qi (fun r (_ : Unit) => r = iI 0) (fun _ t9 => va_P G.1 vwCl (mW G x a 2 σ) t9.heap) (zA x a sz)) 0 0 (zA x a sz) := by
  refine Met.ofW (cc := cX1_borneIn) (maxL := 3) (ret := (some .int)) (by decide) rfl ?_
  intro pp ee s m args below meth c s₁ B9 hml hv
  obtain ⟨rfl, hsz, hP, hK, hD0⟩ := hv
  subst hsz
  have hD := mW_zA (sz := s.heap.size) hD0
  have hS : va_S (zA x a s.heap.size) s.heap s.heap [] := va_S.rf
  have hx := B9.exec
  have hb := B9.bytes
  have hr := B9.returns
  have hts := atoms_spec (ws := wsX1_borneIn) B9.pre
  have hown : s.vm.findClass RX1 = some m.cls := findClass_of_methodNamed B9.named
  have hlocks := B9.notSynchronized
  have hin0 : ∀ w ∈ wsX10, w ∈ wsX1_borneIn := by decide +kernel
  have w_0 := hts (.fieldLink RX1 35 "ApologyLedgerModel" "thrown" "I") (by decide +kernel)
  have hl := lv_entry ([.ref x, .int (iI (p : Int)), .int (iI z)]) (n := 3) (Nat.le_of_ble_eq_true rfl)
  rw [lg_entry_eq]
  generalize (lg_sl ([.ref x, .int (iI (p : Int)), .int (iI z)]) ++ List.replicate (3 - (lg_sl ([.ref x, .int (iI (p : Int)), .int (iI z)])).length) Slot.unset).toArray = ls at hl ⊢
  have hl : lv_has ls 3 [(0, .ref x), (1, .int (iI (p : Int))), (2, .int (iI z))] := hl
  have hIn := hI.n
  have hIb := hI.b
  refine lv_aload_n hx hb dX1_borneIn_0 rfl (lv_at hl 0 rfl) ?_
  refine lv_iconst (v := iI 0) hx hb dX1_borneIn_1 rfl ?_
  refine z_re (v' := iI ((0 : Nat) : Int)) (congrArg iI (by omega)) ?_
  refine m_put hx hb hts hin0 hown hK hP hD hS 0 rfl 0 (by decide) w_0 rfl (by decide +kernel) (Nat.le_of_ble_eq_true rfl) mW_put0 dX1_borneIn_2 (fun H locs hP hD hS => ?_)
  refine lv_aload_n hx hb dX1_borneIn_5 rfl (lv_at hl 0 rfl) ?_
  refine lv_iload_n hx hb dX1_borneIn_6 rfl (lv_at hl 1 rfl) ?_
  refine zc_i (va_runV (As := [.int (iI (p : Int))]) (rest := []) ⟨hx, hb, hml, hown, hts⟩ (c_X1_isPerson l G x a σ 0 (p : Int) (by omega) (by omega)) (cwV 1 hts gX1_borneIn_X1_isPerson rfl rfl rfl (by decide +kernel) ⟨Nat.le_of_ble_eq_true rfl, Nat.le_of_ble_eq_true rfl⟩) (preVM hK hP) rfl rfl hl.1 rfl (lv_room (Nat.le_of_ble_eq_true rfl)) dX1_borneIn_7 ⟨Nat.le_of_ble_eq_true rfl, Nat.le_of_ble_eq_true rfl⟩) ?_
  have f_1 := inn_or (p : Int) 0 ((σ.1 0 : Nat) - 1)
  refine z_if_ne (tgt := 19) hx hb dX1_borneIn_10 (by decide) (by omega) (fun c_2 => ?_) (fun c_2 => ?_)
  ·
    refine lv_iload_n hx hb dX1_borneIn_19 rfl (lv_at hl 2 rfl) ?_
    refine lv_iconst (v := iI 1) hx hb dX1_borneIn_20 rfl ?_
    refine lv_bipush (v := iI 60) hx hb dX1_borneIn_21 (by decide) ?_
    refine zc_i (va_runS (As := [.int (iI z), .int (iI 1), .int (iI 60)]) (rest := []) ⟨hx, hb, hml, hown, hts⟩ (c_X1_isIn l  z 1 60 (by omega) (by omega) (by omega)) (va_cwS 3 hts gX1_borneIn_X1_isIn rfl rfl rfl (by decide +kernel) ⟨Nat.le_of_ble_eq_true rfl, Nat.le_of_ble_eq_true rfl⟩) preS0 rfl rfl hl.1 rfl (lv_room (Nat.le_of_ble_eq_true rfl)) dX1_borneIn_23 ⟨Nat.le_of_ble_eq_true rfl, Nat.le_of_ble_eq_true rfl⟩) ?_
    have f_3 := inn_or z 1 60
    refine z_if_eq (tgt := 38) hx hb dX1_borneIn_26 (by decide) (by omega) (fun c_4 => ?_) (fun c_4 => ?_)
    ·
      refine lv_aload_n hx hb dX1_borneIn_38 rfl (lv_at hl 0 rfl) ?_
      refine lv_iconst (v := iI 2) hx hb dX1_borneIn_39 rfl ?_
      refine z_re (v' := iI ((2 : Nat) : Int)) (congrArg iI (by omega)) ?_
      refine zc_wi (va_runV (As := [.int (iI ((2 : Nat) : Int))]) (rest := []) ⟨hx, hb, hml, hown, hts⟩ (c_X1_no l G x a _ σ 0 2) (cwV 1 hts gX1_borneIn_X1_no rfl rfl rfl (by decide +kernel) ⟨Nat.le_of_ble_eq_true rfl, Nat.le_of_ble_eq_true rfl⟩) (preWM hK hP hD) rfl rfl hl.1 rfl (lv_room (Nat.le_of_ble_eq_true rfl)) dX1_borneIn_40 ⟨Nat.le_of_ble_eq_true rfl, Nat.le_of_ble_eq_true rfl⟩) hS (fun q h => zA_mono hS.1 h) (fun H locs hP hS _ _ => ?_)
      have hD := mW_D (t' := 2) (σ' := σ) hD
      have hfin : σ = σ := by rfl
      rw [hfin] at hP
      have hfit : 2 = 2 := by rfl
      rw [hfit] at hP
      refine z_re (v' := iI 0) (congrArg iI (by first | rfl | omega)) ?_
      exact W.iret hx hb hr (fun t ht hW => ⟨⟨_, (), rfl, rfl, (by show va_P _ _ _ t.heap; rw [ht]; exact hP)⟩, hS.F ht⟩) hS.2.2 dX1_borneIn_43
    ·
      exfalso
      omega
  ·
    exfalso
    omega
set_option maxHeartbeats 4000000 in
set_option maxRecDepth 100000 in
theorem v_X1_addPerson (l : Launch) (G : zG) (x : Nat) (a : Nat → Nat) (sz : Nat) (B : Nat) (σ : zS) (t : Nat) (z : Int) (hI : zI B σ) (hz : 0 ≤ z ∧ z ≤ 9) (hfree : σ.1 0 < 6) : Met l yX1_addPerson wsX1_addPerson ({ frames := 1, cells := 0, slots := 0, locals := 22 } : Room) (va_Pc [.ref x, .int (iI z)] (wM G x a t σ sz)) (va_Qi (fun r (_ : Unit) => r = iI ((σ.1 0 : Nat) : Int)) (fun _ t9 => va_P G.1 vwCl (mW G x a 0 (adp σ z)) t9.heap) (zA x a sz)) 0 0 (zA x a sz) := by
  refine Met.ofW (cc := cX1_addPerson) (maxL := 2) (ret := (some .int)) (by decide) rfl ?_
  intro pp ee s m args below meth c s₁ B9 hml hv
  obtain ⟨rfl, hsz, hP, hK, hD0⟩ := hv
  subst hsz
  have hD := mW_zA (sz := s.heap.size) hD0
  have hS : va_S (zA x a s.heap.size) s.heap s.heap [] := va_S.rf
  have hx := B9.exec
  have hb := B9.bytes
  have hr := B9.returns
  have hts := atoms_spec (ws := wsX1_addPerson) B9.pre
  have hown : s.vm.findClass RX1 = some m.cls := findClass_of_methodNamed B9.named
  have hlocks := B9.notSynchronized
  have hin0 : ∀ w ∈ wsX10, w ∈ wsX1_addPerson := by decide +kernel
  have w_0 := hts (.fieldLink RX1 35 "ApologyLedgerModel" "thrown" "I") (by decide +kernel)
  have w_1 := hts (.fieldLink RX1 39 "ApologyLedgerModel" "persons" "I") (by decide +kernel)
  have w_2 := hts (.fieldLink RX1 9 "ApologyLedgerModel" "pride" "[I") (by decide +kernel)
  have hl := lv_entry ([.ref x, .int (iI z)]) (n := 2) (Nat.le_of_ble_eq_true rfl)
  rw [lg_entry_eq]
  generalize (lg_sl ([.ref x, .int (iI z)]) ++ List.replicate (2 - (lg_sl ([.ref x, .int (iI z)])).length) Slot.unset).toArray = ls at hl ⊢
  have hl : lv_has ls 2 [(0, .ref x), (1, .int (iI z))] := hl
  have hIn := hI.n
  have hIb := hI.b
  refine lv_aload_n hx hb dX1_addPerson_0 rfl (lv_at hl 0 rfl) ?_
  refine lv_iconst (v := iI 0) hx hb dX1_addPerson_1 rfl ?_
  refine z_re (v' := iI ((0 : Nat) : Int)) (congrArg iI (by omega)) ?_
  refine m_put hx hb hts hin0 hown hK hP hD hS 0 rfl 0 (by decide) w_0 rfl (by decide +kernel) (Nat.le_of_ble_eq_true rfl) mW_put0 dX1_addPerson_2 (fun H locs hP hD hS => ?_)
  refine lv_iload_n hx hb dX1_addPerson_5 rfl (lv_at hl 1 rfl) ?_
  refine lv_iconst (v := iI 0) hx hb dX1_addPerson_6 rfl ?_
  refine lv_bipush (v := iI 9) hx hb dX1_addPerson_7 (by decide) ?_
  refine zc_i (va_runS (As := [.int (iI z), .int (iI 0), .int (iI 9)]) (rest := []) ⟨hx, hb, hml, hown, hts⟩ (c_X1_isIn l  z 0 9 (by omega) (by omega) (by omega)) (va_cwS 3 hts gX1_addPerson_X1_isIn rfl rfl rfl (by decide +kernel) ⟨Nat.le_of_ble_eq_true rfl, Nat.le_of_ble_eq_true rfl⟩) preS0 rfl rfl hl.1 rfl (lv_room (Nat.le_of_ble_eq_true rfl)) dX1_addPerson_9 ⟨Nat.le_of_ble_eq_true rfl, Nat.le_of_ble_eq_true rfl⟩) ?_
  have f_1 := inn_or z 0 9
  refine z_if_ne (tgt := 21) hx hb dX1_addPerson_12 (by decide) (by omega) (fun c_2 => ?_) (fun c_2 => ?_)
  ·
    refine lv_aload_n hx hb dX1_addPerson_21 rfl (lv_at hl 0 rfl) ?_
    refine m_get (v := .int (iI (σ.1 0 : Nat))) hx hb hts hin0 hown hK hP 0 rfl 3 (by decide) w_1 rfl dX1_addPerson_22 ?_
    refine lv_bipush (v := iI 6) hx hb dX1_addPerson_25 (by decide) ?_
    refine z_icmp_ne (tgt := 36) hx hb dX1_addPerson_27 (by decide) (by omega) (by omega) (fun c_3 => ?_) (fun c_3 => ?_)
    ·
      refine lv_aload_n hx hb dX1_addPerson_36 rfl (lv_at hl 0 rfl) ?_
      refine m_get (v := .ref (a 0)) hx hb hts hin0 hown hK hP 0 rfl 4 (by decide) w_2 rfl dX1_addPerson_37 ?_
      refine lv_aload_n hx hb dX1_addPerson_40 rfl (lv_at hl 0 rfl) ?_
      refine m_get (v := .int (iI (σ.1 0 : Nat))) hx hb hts hin0 hown hK hP 0 rfl 3 (by decide) w_1 rfl dX1_addPerson_41 ?_
      refine lv_iload_n hx hb dX1_addPerson_44 rfl (lv_at hl 1 rfl) ?_
      refine z_iast hx hb hK hP hD hS 1 0 rfl rfl (k := σ.1 0) (by omega) (by decide) mW_set0 dX1_addPerson_45 (fun H locs hP hD hS => ?_)
      refine lv_aload_n hx hb dX1_addPerson_46 rfl (lv_at hl 0 rfl) ?_
      refine lv_dup hx hb dX1_addPerson_47 rfl ?_
      refine m_get (v := .int (iI (σ.1 0 : Nat))) hx hb hts hin0 hown hK hP 0 rfl 3 (by decide) w_1 rfl dX1_addPerson_48 ?_
      refine lv_iconst (v := iI 1) hx hb dX1_addPerson_51 rfl ?_
      refine z_iadd hx hb dX1_addPerson_52 ?_
      refine z_re (v' := iI (((σ.1 0) + 1 : Nat) : Int)) (congrArg iI (by omega)) ?_
      refine m_put hx hb hts hin0 hown hK hP hD hS 0 rfl 3 (by decide) w_1 rfl (by decide +kernel) (Nat.le_of_ble_eq_true rfl) mW_put3 dX1_addPerson_53 (fun H locs hP hD hS => ?_)
      refine lv_aload_n hx hb dX1_addPerson_56 rfl (lv_at hl 0 rfl) ?_
      refine m_get (v := .int (iI ((σ.1 0) + 1 : Nat))) hx hb hts hin0 hown hK hP 0 rfl 3 (by decide) w_1 rfl dX1_addPerson_57 ?_
      refine lv_iconst (v := iI 1) hx hb dX1_addPerson_60 rfl ?_
      refine z_isub hx hb dX1_addPerson_61 ?_
      have hfin : (stS (stA σ 0 (σ.1 0) z) 0 ((σ.1 0) + 1)) = adp σ z := by rfl
      rw [hfin] at hP
      have hfit : 0 = 0 := by rfl
      rw [hfit] at hP
      refine z_re (v' := iI ((σ.1 0 : Nat) : Int)) (congrArg iI (by omega)) ?_
      exact W.iret hx hb hr (fun t ht hW => ⟨⟨_, (), rfl, rfl, (by show va_P _ _ _ t.heap; rw [ht]; exact hP)⟩, hS.F ht⟩) hS.2.2 dX1_addPerson_62
    ·
      exfalso
      omega
  ·
    exfalso
    omega
set_option maxHeartbeats 4000000 in
set_option maxRecDepth 100000 in
theorem e1_X1_addPerson (l : Launch) (G : zG) (x : Nat) (a : Nat → Nat) (sz : Nat) (B : Nat) (σ : zS) (t : Nat) (z : Int) (hI : zI B σ) (hzb : -2147483648 ≤ z ∧ z < 2147483648) (hbad : z < 0 ∨ 9 < z) : Met l yX1_addPerson wsX1_addPerson ({ frames := 1, cells := 0, slots := 0, locals := 22 } : Room) (va_Pc [.ref x, .int (iI z)] (wM G x a t σ sz)) (va_Qi (fun r (_ : Unit) => r = iI 0) (fun _ t9 => va_P G.1 vwCl (mW G x a 1 σ) t9.heap) (zA x a sz)) 0 0 (zA x a sz) := by
  refine Met.ofW (cc := cX1_addPerson) (maxL := 2) (ret := (some .int)) (by decide) rfl ?_
  intro pp ee s m args below meth c s₁ B9 hml hv
  obtain ⟨rfl, hsz, hP, hK, hD0⟩ := hv
  subst hsz
  have hD := mW_zA (sz := s.heap.size) hD0
  have hS : va_S (zA x a s.heap.size) s.heap s.heap [] := va_S.rf
  have hx := B9.exec
  have hb := B9.bytes
  have hr := B9.returns
  have hts := atoms_spec (ws := wsX1_addPerson) B9.pre
  have hown : s.vm.findClass RX1 = some m.cls := findClass_of_methodNamed B9.named
  have hlocks := B9.notSynchronized
  have hin0 : ∀ w ∈ wsX10, w ∈ wsX1_addPerson := by decide +kernel
  have w_0 := hts (.fieldLink RX1 35 "ApologyLedgerModel" "thrown" "I") (by decide +kernel)
  have hl := lv_entry ([.ref x, .int (iI z)]) (n := 2) (Nat.le_of_ble_eq_true rfl)
  rw [lg_entry_eq]
  generalize (lg_sl ([.ref x, .int (iI z)]) ++ List.replicate (2 - (lg_sl ([.ref x, .int (iI z)])).length) Slot.unset).toArray = ls at hl ⊢
  have hl : lv_has ls 2 [(0, .ref x), (1, .int (iI z))] := hl
  have hIn := hI.n
  have hIb := hI.b
  refine lv_aload_n hx hb dX1_addPerson_0 rfl (lv_at hl 0 rfl) ?_
  refine lv_iconst (v := iI 0) hx hb dX1_addPerson_1 rfl ?_
  refine z_re (v' := iI ((0 : Nat) : Int)) (congrArg iI (by omega)) ?_
  refine m_put hx hb hts hin0 hown hK hP hD hS 0 rfl 0 (by decide) w_0 rfl (by decide +kernel) (Nat.le_of_ble_eq_true rfl) mW_put0 dX1_addPerson_2 (fun H locs hP hD hS => ?_)
  refine lv_iload_n hx hb dX1_addPerson_5 rfl (lv_at hl 1 rfl) ?_
  refine lv_iconst (v := iI 0) hx hb dX1_addPerson_6 rfl ?_
  refine lv_bipush (v := iI 9) hx hb dX1_addPerson_7 (by decide) ?_
  refine zc_i (va_runS (As := [.int (iI z), .int (iI 0), .int (iI 9)]) (rest := []) ⟨hx, hb, hml, hown, hts⟩ (c_X1_isIn l  z 0 9 (by omega) (by omega) (by omega)) (va_cwS 3 hts gX1_addPerson_X1_isIn rfl rfl rfl (by decide +kernel) ⟨Nat.le_of_ble_eq_true rfl, Nat.le_of_ble_eq_true rfl⟩) preS0 rfl rfl hl.1 rfl (lv_room (Nat.le_of_ble_eq_true rfl)) dX1_addPerson_9 ⟨Nat.le_of_ble_eq_true rfl, Nat.le_of_ble_eq_true rfl⟩) ?_
  have f_1 := inn_or z 0 9
  refine z_if_ne (tgt := 21) hx hb dX1_addPerson_12 (by decide) (by omega) (fun c_2 => ?_) (fun c_2 => ?_)
  ·
    exfalso
    omega
  ·
    refine lv_aload_n hx hb dX1_addPerson_15 rfl (lv_at hl 0 rfl) ?_
    refine lv_iconst (v := iI 1) hx hb dX1_addPerson_16 rfl ?_
    refine z_re (v' := iI ((1 : Nat) : Int)) (congrArg iI (by omega)) ?_
    refine zc_wi (va_runV (As := [.int (iI ((1 : Nat) : Int))]) (rest := []) ⟨hx, hb, hml, hown, hts⟩ (c_X1_no l G x a _ σ 0 1) (cwV 1 hts gX1_addPerson_X1_no rfl rfl rfl (by decide +kernel) ⟨Nat.le_of_ble_eq_true rfl, Nat.le_of_ble_eq_true rfl⟩) (preWM hK hP hD) rfl rfl hl.1 rfl (lv_room (Nat.le_of_ble_eq_true rfl)) dX1_addPerson_17 ⟨Nat.le_of_ble_eq_true rfl, Nat.le_of_ble_eq_true rfl⟩) hS (fun q h => zA_mono hS.1 h) (fun H locs hP hS _ _ => ?_)
    have hD := mW_D (t' := 1) (σ' := σ) hD
    have hfin : σ = σ := by rfl
    rw [hfin] at hP
    have hfit : 1 = 1 := by rfl
    rw [hfit] at hP
    refine z_re (v' := iI 0) (congrArg iI (by first | rfl | omega)) ?_
    exact W.iret hx hb hr (fun t ht hW => ⟨⟨_, (), rfl, rfl, (by show va_P _ _ _ t.heap; rw [ht]; exact hP)⟩, hS.F ht⟩) hS.2.2 dX1_addPerson_20
set_option maxHeartbeats 4000000 in
set_option maxRecDepth 100000 in
theorem e2_X1_addPerson (l : Launch) (G : zG) (x : Nat) (a : Nat → Nat) (sz : Nat) (B : Nat) (σ : zS) (t : Nat) (z : Int) (hI : zI B σ) (hz : 0 ≤ z ∧ z ≤ 9) (hfull : σ.1 0 = 6) : Met l yX1_addPerson wsX1_addPerson ({ frames := 1, cells := 0, slots := 0, locals := 22 } : Room) (va_Pc [.ref x, .int (iI z)] (wM G x a t σ sz)) (va_Qi (fun r (_ : Unit) => r = iI 0) (fun _ t9 => va_P G.1 vwCl (mW G x a 2 σ) t9.heap) (zA x a sz)) 0 0 (zA x a sz) := by
  refine Met.ofW (cc := cX1_addPerson) (maxL := 2) (ret := (some .int)) (by decide) rfl ?_
  intro pp ee s m args below meth c s₁ B9 hml hv
  obtain ⟨rfl, hsz, hP, hK, hD0⟩ := hv
  subst hsz
  have hD := mW_zA (sz := s.heap.size) hD0
  have hS : va_S (zA x a s.heap.size) s.heap s.heap [] := va_S.rf
  have hx := B9.exec
  have hb := B9.bytes
  have hr := B9.returns
  have hts := atoms_spec (ws := wsX1_addPerson) B9.pre
  have hown : s.vm.findClass RX1 = some m.cls := findClass_of_methodNamed B9.named
  have hlocks := B9.notSynchronized
  have hin0 : ∀ w ∈ wsX10, w ∈ wsX1_addPerson := by decide +kernel
  have w_0 := hts (.fieldLink RX1 35 "ApologyLedgerModel" "thrown" "I") (by decide +kernel)
  have w_1 := hts (.fieldLink RX1 39 "ApologyLedgerModel" "persons" "I") (by decide +kernel)
  have hl := lv_entry ([.ref x, .int (iI z)]) (n := 2) (Nat.le_of_ble_eq_true rfl)
  rw [lg_entry_eq]
  generalize (lg_sl ([.ref x, .int (iI z)]) ++ List.replicate (2 - (lg_sl ([.ref x, .int (iI z)])).length) Slot.unset).toArray = ls at hl ⊢
  have hl : lv_has ls 2 [(0, .ref x), (1, .int (iI z))] := hl
  have hIn := hI.n
  have hIb := hI.b
  refine lv_aload_n hx hb dX1_addPerson_0 rfl (lv_at hl 0 rfl) ?_
  refine lv_iconst (v := iI 0) hx hb dX1_addPerson_1 rfl ?_
  refine z_re (v' := iI ((0 : Nat) : Int)) (congrArg iI (by omega)) ?_
  refine m_put hx hb hts hin0 hown hK hP hD hS 0 rfl 0 (by decide) w_0 rfl (by decide +kernel) (Nat.le_of_ble_eq_true rfl) mW_put0 dX1_addPerson_2 (fun H locs hP hD hS => ?_)
  refine lv_iload_n hx hb dX1_addPerson_5 rfl (lv_at hl 1 rfl) ?_
  refine lv_iconst (v := iI 0) hx hb dX1_addPerson_6 rfl ?_
  refine lv_bipush (v := iI 9) hx hb dX1_addPerson_7 (by decide) ?_
  refine zc_i (va_runS (As := [.int (iI z), .int (iI 0), .int (iI 9)]) (rest := []) ⟨hx, hb, hml, hown, hts⟩ (c_X1_isIn l  z 0 9 (by omega) (by omega) (by omega)) (va_cwS 3 hts gX1_addPerson_X1_isIn rfl rfl rfl (by decide +kernel) ⟨Nat.le_of_ble_eq_true rfl, Nat.le_of_ble_eq_true rfl⟩) preS0 rfl rfl hl.1 rfl (lv_room (Nat.le_of_ble_eq_true rfl)) dX1_addPerson_9 ⟨Nat.le_of_ble_eq_true rfl, Nat.le_of_ble_eq_true rfl⟩) ?_
  have f_1 := inn_or z 0 9
  refine z_if_ne (tgt := 21) hx hb dX1_addPerson_12 (by decide) (by omega) (fun c_2 => ?_) (fun c_2 => ?_)
  ·
    refine lv_aload_n hx hb dX1_addPerson_21 rfl (lv_at hl 0 rfl) ?_
    refine m_get (v := .int (iI (σ.1 0 : Nat))) hx hb hts hin0 hown hK hP 0 rfl 3 (by decide) w_1 rfl dX1_addPerson_22 ?_
    refine lv_bipush (v := iI 6) hx hb dX1_addPerson_25 (by decide) ?_
    refine z_icmp_ne (tgt := 36) hx hb dX1_addPerson_27 (by decide) (by omega) (by omega) (fun c_3 => ?_) (fun c_3 => ?_)
    ·
      exfalso
      omega
    ·
      refine lv_aload_n hx hb dX1_addPerson_30 rfl (lv_at hl 0 rfl) ?_
      refine lv_iconst (v := iI 2) hx hb dX1_addPerson_31 rfl ?_
      refine z_re (v' := iI ((2 : Nat) : Int)) (congrArg iI (by omega)) ?_
      refine zc_wi (va_runV (As := [.int (iI ((2 : Nat) : Int))]) (rest := []) ⟨hx, hb, hml, hown, hts⟩ (c_X1_no l G x a _ σ 0 2) (cwV 1 hts gX1_addPerson_X1_no rfl rfl rfl (by decide +kernel) ⟨Nat.le_of_ble_eq_true rfl, Nat.le_of_ble_eq_true rfl⟩) (preWM hK hP hD) rfl rfl hl.1 rfl (lv_room (Nat.le_of_ble_eq_true rfl)) dX1_addPerson_32 ⟨Nat.le_of_ble_eq_true rfl, Nat.le_of_ble_eq_true rfl⟩) hS (fun q h => zA_mono hS.1 h) (fun H locs hP hS _ _ => ?_)
      have hD := mW_D (t' := 2) (σ' := σ) hD
      have hfin : σ = σ := by rfl
      rw [hfin] at hP
      have hfit : 2 = 2 := by rfl
      rw [hfit] at hP
      refine z_re (v' := iI 0) (congrArg iI (by first | rfl | omega)) ?_
      exact W.iret hx hb hr (fun t ht hW => ⟨⟨_, (), rfl, rfl, (by show va_P _ _ _ t.heap; rw [ht]; exact hP)⟩, hS.F ht⟩) hS.2.2 dX1_addPerson_35
  ·
    exfalso
    omega
set_option maxHeartbeats 4000000 in
set_option maxRecDepth 100000 in
theorem v_X1_enter (l : Launch) (G : zG) (x : Nat) (a : Nat → Nat) (sz : Nat) (B : Nat) (σ : zS) (t : Nat) (p : Nat) (hI : zI B σ) (hp : p < σ.1 0) : Met l yX1_enter wsX1_enter ({ frames := 2, cells := 0, slots := 0, locals := 43 } : Room) (va_Pc [.ref x, .int (iI (p : Int))] (wM G x a t σ sz)) (va_Qi (fun r (_ : Unit) => r = iI (1 - σ.2 1 p)) (fun _ t9 => va_P G.1 vwCl (mW G x a 0 (ent σ p)) t9.heap) (zA x a sz)) 0 0 (zA x a sz) := by
  refine Met.ofW (cc := cX1_enter) (maxL := 2) (ret := (some .boolean)) (by decide) rfl ?_
  intro pp ee s m args below meth c s₁ B9 hml hv
  obtain ⟨rfl, hsz, hP, hK, hD0⟩ := hv
  subst hsz
  have hD := mW_zA (sz := s.heap.size) hD0
  have hS : va_S (zA x a s.heap.size) s.heap s.heap [] := va_S.rf
  have hx := B9.exec
  have hb := B9.bytes
  have hr := B9.returns
  have hts := atoms_spec (ws := wsX1_enter) B9.pre
  have hown : s.vm.findClass RX1 = some m.cls := findClass_of_methodNamed B9.named
  have hlocks := B9.notSynchronized
  have hin0 : ∀ w ∈ wsX10, w ∈ wsX1_enter := by decide +kernel
  have w_0 := hts (.fieldLink RX1 35 "ApologyLedgerModel" "thrown" "I") (by decide +kernel)
  have w_1 := hts (.fieldLink RX1 13 "ApologyLedgerModel" "isHere" "[Z") (by decide +kernel)
  have hl := lv_entry ([.ref x, .int (iI (p : Int))]) (n := 2) (Nat.le_of_ble_eq_true rfl)
  rw [lg_entry_eq]
  generalize (lg_sl ([.ref x, .int (iI (p : Int))]) ++ List.replicate (2 - (lg_sl ([.ref x, .int (iI (p : Int))])).length) Slot.unset).toArray = ls at hl ⊢
  have hl : lv_has ls 2 [(0, .ref x), (1, .int (iI (p : Int)))] := hl
  have hIn := hI.n
  have hIb := hI.b
  have g1 := hI.r1 p
  refine lv_aload_n hx hb dX1_enter_0 rfl (lv_at hl 0 rfl) ?_
  refine lv_iconst (v := iI 0) hx hb dX1_enter_1 rfl ?_
  refine z_re (v' := iI ((0 : Nat) : Int)) (congrArg iI (by omega)) ?_
  refine m_put hx hb hts hin0 hown hK hP hD hS 0 rfl 0 (by decide) w_0 rfl (by decide +kernel) (Nat.le_of_ble_eq_true rfl) mW_put0 dX1_enter_2 (fun H locs hP hD hS => ?_)
  refine lv_aload_n hx hb dX1_enter_5 rfl (lv_at hl 0 rfl) ?_
  refine lv_iload_n hx hb dX1_enter_6 rfl (lv_at hl 1 rfl) ?_
  refine zc_i (va_runV (As := [.int (iI (p : Int))]) (rest := []) ⟨hx, hb, hml, hown, hts⟩ (c_X1_isPerson l G x a σ 0 (p : Int) (by omega) (by omega)) (cwV 1 hts gX1_enter_X1_isPerson rfl rfl rfl (by decide +kernel) ⟨Nat.le_of_ble_eq_true rfl, Nat.le_of_ble_eq_true rfl⟩) (preVM hK hP) rfl rfl hl.1 rfl (lv_room (Nat.le_of_ble_eq_true rfl)) dX1_enter_7 ⟨Nat.le_of_ble_eq_true rfl, Nat.le_of_ble_eq_true rfl⟩) ?_
  have f_1 := inn_or (p : Int) 0 ((σ.1 0 : Nat) - 1)
  refine z_if_ne (tgt := 19) hx hb dX1_enter_10 (by decide) (by omega) (fun c_2 => ?_) (fun c_2 => ?_)
  ·
    refine lv_aload_n hx hb dX1_enter_19 rfl (lv_at hl 0 rfl) ?_
    refine m_get (v := .ref (a 1)) hx hb hts hin0 hown hK hP 0 rfl 5 (by decide) w_1 rfl dX1_enter_20 ?_
    refine lv_iload_n hx hb dX1_enter_23 rfl (lv_at hl 1 rfl) ?_
    refine lv_aload_n hx hb dX1_enter_24 rfl (lv_at hl 0 rfl) ?_
    refine m_get (v := .ref (a 1)) hx hb hts hin0 hown hK hP 0 rfl 5 (by decide) w_1 rfl dX1_enter_25 ?_
    refine lv_iload_n hx hb dX1_enter_28 rfl (lv_at hl 1 rfl) ?_
    refine z_zald (v := iI (σ.2 1 p)) hx hb hK hP 2 1 rfl rfl (k := p) (by omega) (by decide) rfl dX1_enter_29 ?_
    have f_3 := hI.r1 p
    refine z_if_ne (tgt := 37) hx hb dX1_enter_30 (by decide) (by omega) (fun c_4 => ?_) (fun c_4 => ?_)
    ·
      refine lv_iconst (v := iI 0) hx hb dX1_enter_37 rfl ?_
      refine z_zast hx hb hK hP hD hS 2 1 rfl rfl (k := p) (by omega) (by decide) (by decide) mW_set1 dX1_enter_38 (fun H locs hP hD hS => ?_)
      refine lv_aload_n hx hb dX1_enter_39 rfl (lv_at hl 0 rfl) ?_
      refine m_get (v := .ref (a 1)) hx hb hts hin0 hown hK hP 0 rfl 5 (by decide) w_1 rfl dX1_enter_40 ?_
      refine lv_iload_n hx hb dX1_enter_43 rfl (lv_at hl 1 rfl) ?_
      refine z_zald (v := iI 0) hx hb hK hP 2 1 rfl rfl (k := p) (by omega) (by decide) (congrArg iI (by simp [stA, stS])) dX1_enter_44 ?_
      have hfin : (stA σ 1 p 0) = ent σ p := by unfold ent; rw [show (1 - σ.2 1 p : Int) = 0 from by omega]
      rw [hfin] at hP
      have hfit : 0 = 0 := by rfl
      rw [hfit] at hP
      refine z_re (v' := iI (1 - σ.2 1 p)) (congrArg iI (by omega)) ?_
      exact W.zret hx hb hr (z_nb (by omega)) (fun t ht hW => ⟨⟨_, (), rfl, rfl, (by show va_P _ _ _ t.heap; rw [ht]; exact hP)⟩, hS.F ht⟩) hS.2.2 dX1_enter_45
    ·
      refine lv_iconst (v := iI 1) hx hb dX1_enter_33 rfl ?_
      refine lv_goto (tgt := 38) hx hb dX1_enter_34 (by decide) ?_
      refine z_zast hx hb hK hP hD hS 2 1 rfl rfl (k := p) (by omega) (by decide) (by decide) mW_set1 dX1_enter_38 (fun H locs hP hD hS => ?_)
      refine lv_aload_n hx hb dX1_enter_39 rfl (lv_at hl 0 rfl) ?_
      refine m_get (v := .ref (a 1)) hx hb hts hin0 hown hK hP 0 rfl 5 (by decide) w_1 rfl dX1_enter_40 ?_
      refine lv_iload_n hx hb dX1_enter_43 rfl (lv_at hl 1 rfl) ?_
      refine z_zald (v := iI 1) hx hb hK hP 2 1 rfl rfl (k := p) (by omega) (by decide) (congrArg iI (by simp [stA, stS])) dX1_enter_44 ?_
      have hfin : (stA σ 1 p 1) = ent σ p := by unfold ent; rw [show (1 - σ.2 1 p : Int) = 1 from by omega]
      rw [hfin] at hP
      have hfit : 0 = 0 := by rfl
      rw [hfit] at hP
      refine z_re (v' := iI (1 - σ.2 1 p)) (congrArg iI (by omega)) ?_
      exact W.zret hx hb hr (z_nb (by omega)) (fun t ht hW => ⟨⟨_, (), rfl, rfl, (by show va_P _ _ _ t.heap; rw [ht]; exact hP)⟩, hS.F ht⟩) hS.2.2 dX1_enter_45
  ·
    exfalso
    omega
set_option maxHeartbeats 4000000 in
set_option maxRecDepth 100000 in
theorem e1_X1_enter (l : Launch) (G : zG) (x : Nat) (a : Nat → Nat) (sz : Nat) (B : Nat) (σ : zS) (t : Nat) (z : Int) (hI : zI B σ) (hzb : -2147483648 ≤ z ∧ z < 2147483648) (hbad : z < 0 ∨ (σ.1 0 : Int) ≤ z) : Met l yX1_enter wsX1_enter ({ frames := 2, cells := 0, slots := 0, locals := 43 } : Room) (va_Pc [.ref x, .int (iI z)] (wM G x a t σ sz)) (va_Qi (fun r (_ : Unit) => r = iI 0) (fun _ t9 => va_P G.1 vwCl (mW G x a 1 σ) t9.heap) (zA x a sz)) 0 0 (zA x a sz) := by
  refine Met.ofW (cc := cX1_enter) (maxL := 2) (ret := (some .boolean)) (by decide) rfl ?_
  intro pp ee s m args below meth c s₁ B9 hml hv
  obtain ⟨rfl, hsz, hP, hK, hD0⟩ := hv
  subst hsz
  have hD := mW_zA (sz := s.heap.size) hD0
  have hS : va_S (zA x a s.heap.size) s.heap s.heap [] := va_S.rf
  have hx := B9.exec
  have hb := B9.bytes
  have hr := B9.returns
  have hts := atoms_spec (ws := wsX1_enter) B9.pre
  have hown : s.vm.findClass RX1 = some m.cls := findClass_of_methodNamed B9.named
  have hlocks := B9.notSynchronized
  have hin0 : ∀ w ∈ wsX10, w ∈ wsX1_enter := by decide +kernel
  have w_0 := hts (.fieldLink RX1 35 "ApologyLedgerModel" "thrown" "I") (by decide +kernel)
  have hl := lv_entry ([.ref x, .int (iI z)]) (n := 2) (Nat.le_of_ble_eq_true rfl)
  rw [lg_entry_eq]
  generalize (lg_sl ([.ref x, .int (iI z)]) ++ List.replicate (2 - (lg_sl ([.ref x, .int (iI z)])).length) Slot.unset).toArray = ls at hl ⊢
  have hl : lv_has ls 2 [(0, .ref x), (1, .int (iI z))] := hl
  have hIn := hI.n
  have hIb := hI.b
  refine lv_aload_n hx hb dX1_enter_0 rfl (lv_at hl 0 rfl) ?_
  refine lv_iconst (v := iI 0) hx hb dX1_enter_1 rfl ?_
  refine z_re (v' := iI ((0 : Nat) : Int)) (congrArg iI (by omega)) ?_
  refine m_put hx hb hts hin0 hown hK hP hD hS 0 rfl 0 (by decide) w_0 rfl (by decide +kernel) (Nat.le_of_ble_eq_true rfl) mW_put0 dX1_enter_2 (fun H locs hP hD hS => ?_)
  refine lv_aload_n hx hb dX1_enter_5 rfl (lv_at hl 0 rfl) ?_
  refine lv_iload_n hx hb dX1_enter_6 rfl (lv_at hl 1 rfl) ?_
  refine zc_i (va_runV (As := [.int (iI z)]) (rest := []) ⟨hx, hb, hml, hown, hts⟩ (c_X1_isPerson l G x a σ 0 z (by omega) (by omega)) (cwV 1 hts gX1_enter_X1_isPerson rfl rfl rfl (by decide +kernel) ⟨Nat.le_of_ble_eq_true rfl, Nat.le_of_ble_eq_true rfl⟩) (preVM hK hP) rfl rfl hl.1 rfl (lv_room (Nat.le_of_ble_eq_true rfl)) dX1_enter_7 ⟨Nat.le_of_ble_eq_true rfl, Nat.le_of_ble_eq_true rfl⟩) ?_
  have f_1 := inn_or z 0 ((σ.1 0 : Nat) - 1)
  refine z_if_ne (tgt := 19) hx hb dX1_enter_10 (by decide) (by omega) (fun c_2 => ?_) (fun c_2 => ?_)
  ·
    exfalso
    omega
  ·
    refine lv_aload_n hx hb dX1_enter_13 rfl (lv_at hl 0 rfl) ?_
    refine lv_iconst (v := iI 1) hx hb dX1_enter_14 rfl ?_
    refine z_re (v' := iI ((1 : Nat) : Int)) (congrArg iI (by omega)) ?_
    refine zc_wi (va_runV (As := [.int (iI ((1 : Nat) : Int))]) (rest := []) ⟨hx, hb, hml, hown, hts⟩ (c_X1_isNot l G x a _ σ 0 1) (cwV 1 hts gX1_enter_X1_isNot rfl rfl rfl (by decide +kernel) ⟨Nat.le_of_ble_eq_true rfl, Nat.le_of_ble_eq_true rfl⟩) (preWM hK hP hD) rfl rfl hl.1 rfl (lv_room (Nat.le_of_ble_eq_true rfl)) dX1_enter_15 ⟨Nat.le_of_ble_eq_true rfl, Nat.le_of_ble_eq_true rfl⟩) hS (fun q h => zA_mono hS.1 h) (fun H locs hP hS _ _ => ?_)
    have hD := mW_D (t' := 1) (σ' := σ) hD
    have hfin : σ = σ := by rfl
    rw [hfin] at hP
    have hfit : 1 = 1 := by rfl
    rw [hfit] at hP
    refine z_re (v' := iI 0) (congrArg iI (by first | rfl | omega)) ?_
    exact W.zret hx hb hr (z_nb (by omega)) (fun t ht hW => ⟨⟨_, (), rfl, rfl, (by show va_P _ _ _ t.heap; rw [ht]; exact hP)⟩, hS.F ht⟩) hS.2.2 dX1_enter_18
set_option maxHeartbeats 4000000 in
set_option maxRecDepth 100000 in
theorem v_X1_slight (l : Launch) (G : zG) (x : Nat) (a : Nat → Nat) (sz : Nat) (B : Nat) (σ : zS) (t : Nat) (i : Nat) (o : Nat) (w : Int) (hI : zI B σ) (hi : i < σ.1 0) (ho : o < σ.1 0) (hne : i ≠ o) (hw : 1 ≤ w ∧ w ≤ 20) (hfree : σ.1 1 < 20) : Met l yX1_slight wsX1_slight ({ frames := 2, cells := 0, slots := 0, locals := 43 } : Room) (va_Pc [.ref x, .int (iI (i : Int)), .int (iI (o : Int)), .int (iI w)] (wM G x a t σ sz)) (va_Qi (fun r (_ : Unit) => r = iI ((σ.1 1 : Nat) : Int)) (fun _ t9 => va_P G.1 vwCl (mW G x a 0 (sli σ i o w)) t9.heap) (zA x a sz)) 0 0 (zA x a sz) := by
  refine Met.ofW (cc := cX1_slight) (maxL := 4) (ret := (some .int)) (by decide) rfl ?_
  intro pp ee s m args below meth c s₁ B9 hml hv
  obtain ⟨rfl, hsz, hP, hK, hD0⟩ := hv
  subst hsz
  have hD := mW_zA (sz := s.heap.size) hD0
  have hS : va_S (zA x a s.heap.size) s.heap s.heap [] := va_S.rf
  have hx := B9.exec
  have hb := B9.bytes
  have hr := B9.returns
  have hts := atoms_spec (ws := wsX1_slight) B9.pre
  have hown : s.vm.findClass RX1 = some m.cls := findClass_of_methodNamed B9.named
  have hlocks := B9.notSynchronized
  have hin0 : ∀ w ∈ wsX10, w ∈ wsX1_slight := by decide +kernel
  have w_0 := hts (.fieldLink RX1 35 "ApologyLedgerModel" "thrown" "I") (by decide +kernel)
  have w_1 := hts (.fieldLink RX1 46 "ApologyLedgerModel" "slights" "I") (by decide +kernel)
  have w_2 := hts (.fieldLink RX1 17 "ApologyLedgerModel" "by" "[I") (by decide +kernel)
  have w_3 := hts (.fieldLink RX1 20 "ApologyLedgerModel" "against" "[I") (by decide +kernel)
  have w_4 := hts (.fieldLink RX1 23 "ApologyLedgerModel" "weight" "[I") (by decide +kernel)
  have hl := lv_entry ([.ref x, .int (iI (i : Int)), .int (iI (o : Int)), .int (iI w)]) (n := 4) (Nat.le_of_ble_eq_true rfl)
  rw [lg_entry_eq]
  generalize (lg_sl ([.ref x, .int (iI (i : Int)), .int (iI (o : Int)), .int (iI w)]) ++ List.replicate (4 - (lg_sl ([.ref x, .int (iI (i : Int)), .int (iI (o : Int)), .int (iI w)])).length) Slot.unset).toArray = ls at hl ⊢
  have hl : lv_has ls 4 [(0, .ref x), (1, .int (iI (i : Int))), (2, .int (iI (o : Int))), (3, .int (iI w))] := hl
  have hIn := hI.n
  have hIb := hI.b
  refine lv_aload_n hx hb dX1_slight_0 rfl (lv_at hl 0 rfl) ?_
  refine lv_iconst (v := iI 0) hx hb dX1_slight_1 rfl ?_
  refine z_re (v' := iI ((0 : Nat) : Int)) (congrArg iI (by omega)) ?_
  refine m_put hx hb hts hin0 hown hK hP hD hS 0 rfl 0 (by decide) w_0 rfl (by decide +kernel) (Nat.le_of_ble_eq_true rfl) mW_put0 dX1_slight_2 (fun H locs hP hD hS => ?_)
  refine lv_aload_n hx hb dX1_slight_5 rfl (lv_at hl 0 rfl) ?_
  refine lv_iload_n hx hb dX1_slight_6 rfl (lv_at hl 1 rfl) ?_
  refine zc_i (va_runV (As := [.int (iI (i : Int))]) (rest := []) ⟨hx, hb, hml, hown, hts⟩ (c_X1_isPerson l G x a σ 0 (i : Int) (by omega) (by omega)) (cwV 1 hts gX1_slight_X1_isPerson rfl rfl rfl (by decide +kernel) ⟨Nat.le_of_ble_eq_true rfl, Nat.le_of_ble_eq_true rfl⟩) (preVM hK hP) rfl rfl hl.1 rfl (lv_room (Nat.le_of_ble_eq_true rfl)) dX1_slight_7 ⟨Nat.le_of_ble_eq_true rfl, Nat.le_of_ble_eq_true rfl⟩) ?_
  have f_1 := inn_or (i : Int) 0 ((σ.1 0 : Nat) - 1)
  refine z_if_eq (tgt := 21) hx hb dX1_slight_10 (by decide) (by omega) (fun c_2 => ?_) (fun c_2 => ?_)
  ·
    exfalso
    omega
  ·
    refine lv_aload_n hx hb dX1_slight_13 rfl (lv_at hl 0 rfl) ?_
    refine lv_iload_n hx hb dX1_slight_14 rfl (lv_at hl 2 rfl) ?_
    refine zc_i (va_runV (As := [.int (iI (o : Int))]) (rest := []) ⟨hx, hb, hml, hown, hts⟩ (c_X1_isPerson l G x a σ 0 (o : Int) (by omega) (by omega)) (cwV 1 hts gX1_slight_X1_isPerson rfl rfl rfl (by decide +kernel) ⟨Nat.le_of_ble_eq_true rfl, Nat.le_of_ble_eq_true rfl⟩) (preVM hK hP) rfl rfl hl.1 rfl (lv_room (Nat.le_of_ble_eq_true rfl)) dX1_slight_15 ⟨Nat.le_of_ble_eq_true rfl, Nat.le_of_ble_eq_true rfl⟩) ?_
    have f_3 := inn_or (o : Int) 0 ((σ.1 0 : Nat) - 1)
    refine z_if_ne (tgt := 27) hx hb dX1_slight_18 (by decide) (by omega) (fun c_4 => ?_) (fun c_4 => ?_)
    ·
      refine lv_iload_n hx hb dX1_slight_27 rfl (lv_at hl 1 rfl) ?_
      refine lv_iload_n hx hb dX1_slight_28 rfl (lv_at hl 2 rfl) ?_
      refine z_icmp_eq (tgt := 42) hx hb dX1_slight_29 (by decide) (by omega) (by omega) (fun c_5 => ?_) (fun c_5 => ?_)
      ·
        exfalso
        omega
      ·
        refine lv_iload_n hx hb dX1_slight_32 rfl (lv_at hl 3 rfl) ?_
        refine lv_iconst (v := iI 1) hx hb dX1_slight_33 rfl ?_
        refine lv_bipush (v := iI 20) hx hb dX1_slight_34 (by decide) ?_
        refine zc_i (va_runS (As := [.int (iI w), .int (iI 1), .int (iI 20)]) (rest := []) ⟨hx, hb, hml, hown, hts⟩ (c_X1_isIn l  w 1 20 (by omega) (by omega) (by omega)) (va_cwS 3 hts gX1_slight_X1_isIn rfl rfl rfl (by decide +kernel) ⟨Nat.le_of_ble_eq_true rfl, Nat.le_of_ble_eq_true rfl⟩) preS0 rfl rfl hl.1 rfl (lv_room (Nat.le_of_ble_eq_true rfl)) dX1_slight_36 ⟨Nat.le_of_ble_eq_true rfl, Nat.le_of_ble_eq_true rfl⟩) ?_
        have f_6 := inn_or w 1 20
        refine z_if_ne (tgt := 48) hx hb dX1_slight_39 (by decide) (by omega) (fun c_7 => ?_) (fun c_7 => ?_)
        ·
          refine lv_aload_n hx hb dX1_slight_48 rfl (lv_at hl 0 rfl) ?_
          refine m_get (v := .int (iI (σ.1 1 : Nat))) hx hb hts hin0 hown hK hP 0 rfl 6 (by decide) w_1 rfl dX1_slight_49 ?_
          refine lv_bipush (v := iI 20) hx hb dX1_slight_52 (by decide) ?_
          refine z_icmp_ne (tgt := 63) hx hb dX1_slight_54 (by decide) (by omega) (by omega) (fun c_8 => ?_) (fun c_8 => ?_)
          ·
            refine lv_aload_n hx hb dX1_slight_63 rfl (lv_at hl 0 rfl) ?_
            refine m_get (v := .ref (a 2)) hx hb hts hin0 hown hK hP 0 rfl 7 (by decide) w_2 rfl dX1_slight_64 ?_
            refine lv_aload_n hx hb dX1_slight_67 rfl (lv_at hl 0 rfl) ?_
            refine m_get (v := .int (iI (σ.1 1 : Nat))) hx hb hts hin0 hown hK hP 0 rfl 6 (by decide) w_1 rfl dX1_slight_68 ?_
            refine lv_iload_n hx hb dX1_slight_71 rfl (lv_at hl 1 rfl) ?_
            refine z_iast hx hb hK hP hD hS 3 0 rfl rfl (k := σ.1 1) (by omega) (by decide) mW_set2 dX1_slight_72 (fun H locs hP hD hS => ?_)
            refine lv_aload_n hx hb dX1_slight_73 rfl (lv_at hl 0 rfl) ?_
            refine m_get (v := .ref (a 3)) hx hb hts hin0 hown hK hP 0 rfl 8 (by decide) w_3 rfl dX1_slight_74 ?_
            refine lv_aload_n hx hb dX1_slight_77 rfl (lv_at hl 0 rfl) ?_
            refine m_get (v := .int (iI (σ.1 1 : Nat))) hx hb hts hin0 hown hK hP 0 rfl 6 (by decide) w_1 rfl dX1_slight_78 ?_
            refine lv_iload_n hx hb dX1_slight_81 rfl (lv_at hl 2 rfl) ?_
            refine z_iast hx hb hK hP hD hS 4 0 rfl rfl (k := σ.1 1) (by omega) (by decide) mW_set3 dX1_slight_82 (fun H locs hP hD hS => ?_)
            refine lv_aload_n hx hb dX1_slight_83 rfl (lv_at hl 0 rfl) ?_
            refine m_get (v := .ref (a 4)) hx hb hts hin0 hown hK hP 0 rfl 9 (by decide) w_4 rfl dX1_slight_84 ?_
            refine lv_aload_n hx hb dX1_slight_87 rfl (lv_at hl 0 rfl) ?_
            refine m_get (v := .int (iI (σ.1 1 : Nat))) hx hb hts hin0 hown hK hP 0 rfl 6 (by decide) w_1 rfl dX1_slight_88 ?_
            refine lv_iload_n hx hb dX1_slight_91 rfl (lv_at hl 3 rfl) ?_
            refine z_iast hx hb hK hP hD hS 5 0 rfl rfl (k := σ.1 1) (by omega) (by decide) mW_set4 dX1_slight_92 (fun H locs hP hD hS => ?_)
            refine lv_aload_n hx hb dX1_slight_93 rfl (lv_at hl 0 rfl) ?_
            refine lv_dup hx hb dX1_slight_94 rfl ?_
            refine m_get (v := .int (iI (σ.1 1 : Nat))) hx hb hts hin0 hown hK hP 0 rfl 6 (by decide) w_1 rfl dX1_slight_95 ?_
            refine lv_iconst (v := iI 1) hx hb dX1_slight_98 rfl ?_
            refine z_iadd hx hb dX1_slight_99 ?_
            refine z_re (v' := iI (((σ.1 1) + 1 : Nat) : Int)) (congrArg iI (by omega)) ?_
            refine m_put hx hb hts hin0 hown hK hP hD hS 0 rfl 6 (by decide) w_1 rfl (by decide +kernel) (Nat.le_of_ble_eq_true rfl) mW_put6 dX1_slight_100 (fun H locs hP hD hS => ?_)
            refine lv_aload_n hx hb dX1_slight_103 rfl (lv_at hl 0 rfl) ?_
            refine m_get (v := .int (iI ((σ.1 1) + 1 : Nat))) hx hb hts hin0 hown hK hP 0 rfl 6 (by decide) w_1 rfl dX1_slight_104 ?_
            refine lv_iconst (v := iI 1) hx hb dX1_slight_107 rfl ?_
            refine z_isub hx hb dX1_slight_108 ?_
            have hfin : (stS (stA (stA (stA σ 2 (σ.1 1) (i : Int)) 3 (σ.1 1) (o : Int)) 4 (σ.1 1) w) 1 ((σ.1 1) + 1)) = sli σ i o w := by rfl
            rw [hfin] at hP
            have hfit : 0 = 0 := by rfl
            rw [hfit] at hP
            refine z_re (v' := iI ((σ.1 1 : Nat) : Int)) (congrArg iI (by omega)) ?_
            exact W.iret hx hb hr (fun t ht hW => ⟨⟨_, (), rfl, rfl, (by show va_P _ _ _ t.heap; rw [ht]; exact hP)⟩, hS.F ht⟩) hS.2.2 dX1_slight_109
          ·
            exfalso
            omega
        ·
          exfalso
          omega
    ·
      exfalso
      omega
set_option maxHeartbeats 4000000 in
set_option maxRecDepth 100000 in
theorem e1_X1_slight (l : Launch) (G : zG) (x : Nat) (a : Nat → Nat) (sz : Nat) (B : Nat) (σ : zS) (t : Nat) (z : Int) (y : Int) (w : Int) (hI : zI B σ) (hzb : -2147483648 ≤ z ∧ z < 2147483648) (hbad : z < 0 ∨ (σ.1 0 : Int) ≤ z) : Met l yX1_slight wsX1_slight ({ frames := 2, cells := 0, slots := 0, locals := 43 } : Room) (va_Pc [.ref x, .int (iI z), .int (iI y), .int (iI w)] (wM G x a t σ sz)) (va_Qi (fun r (_ : Unit) => r = iI 0) (fun _ t9 => va_P G.1 vwCl (mW G x a 1 σ) t9.heap) (zA x a sz)) 0 0 (zA x a sz) := by
  refine Met.ofW (cc := cX1_slight) (maxL := 4) (ret := (some .int)) (by decide) rfl ?_
  intro pp ee s m args below meth c s₁ B9 hml hv
  obtain ⟨rfl, hsz, hP, hK, hD0⟩ := hv
  subst hsz
  have hD := mW_zA (sz := s.heap.size) hD0
  have hS : va_S (zA x a s.heap.size) s.heap s.heap [] := va_S.rf
  have hx := B9.exec
  have hb := B9.bytes
  have hr := B9.returns
  have hts := atoms_spec (ws := wsX1_slight) B9.pre
  have hown : s.vm.findClass RX1 = some m.cls := findClass_of_methodNamed B9.named
  have hlocks := B9.notSynchronized
  have hin0 : ∀ w ∈ wsX10, w ∈ wsX1_slight := by decide +kernel
  have w_0 := hts (.fieldLink RX1 35 "ApologyLedgerModel" "thrown" "I") (by decide +kernel)
  have hl := lv_entry ([.ref x, .int (iI z), .int (iI y), .int (iI w)]) (n := 4) (Nat.le_of_ble_eq_true rfl)
  rw [lg_entry_eq]
  generalize (lg_sl ([.ref x, .int (iI z), .int (iI y), .int (iI w)]) ++ List.replicate (4 - (lg_sl ([.ref x, .int (iI z), .int (iI y), .int (iI w)])).length) Slot.unset).toArray = ls at hl ⊢
  have hl : lv_has ls 4 [(0, .ref x), (1, .int (iI z)), (2, .int (iI y)), (3, .int (iI w))] := hl
  have hIn := hI.n
  have hIb := hI.b
  refine lv_aload_n hx hb dX1_slight_0 rfl (lv_at hl 0 rfl) ?_
  refine lv_iconst (v := iI 0) hx hb dX1_slight_1 rfl ?_
  refine z_re (v' := iI ((0 : Nat) : Int)) (congrArg iI (by omega)) ?_
  refine m_put hx hb hts hin0 hown hK hP hD hS 0 rfl 0 (by decide) w_0 rfl (by decide +kernel) (Nat.le_of_ble_eq_true rfl) mW_put0 dX1_slight_2 (fun H locs hP hD hS => ?_)
  refine lv_aload_n hx hb dX1_slight_5 rfl (lv_at hl 0 rfl) ?_
  refine lv_iload_n hx hb dX1_slight_6 rfl (lv_at hl 1 rfl) ?_
  refine zc_i (va_runV (As := [.int (iI z)]) (rest := []) ⟨hx, hb, hml, hown, hts⟩ (c_X1_isPerson l G x a σ 0 z (by omega) (by omega)) (cwV 1 hts gX1_slight_X1_isPerson rfl rfl rfl (by decide +kernel) ⟨Nat.le_of_ble_eq_true rfl, Nat.le_of_ble_eq_true rfl⟩) (preVM hK hP) rfl rfl hl.1 rfl (lv_room (Nat.le_of_ble_eq_true rfl)) dX1_slight_7 ⟨Nat.le_of_ble_eq_true rfl, Nat.le_of_ble_eq_true rfl⟩) ?_
  have f_1 := inn_or z 0 ((σ.1 0 : Nat) - 1)
  refine z_if_eq (tgt := 21) hx hb dX1_slight_10 (by decide) (by omega) (fun c_2 => ?_) (fun c_2 => ?_)
  ·
    refine lv_aload_n hx hb dX1_slight_21 rfl (lv_at hl 0 rfl) ?_
    refine lv_iconst (v := iI 1) hx hb dX1_slight_22 rfl ?_
    refine z_re (v' := iI ((1 : Nat) : Int)) (congrArg iI (by omega)) ?_
    refine zc_wi (va_runV (As := [.int (iI ((1 : Nat) : Int))]) (rest := []) ⟨hx, hb, hml, hown, hts⟩ (c_X1_no l G x a _ σ 0 1) (cwV 1 hts gX1_slight_X1_no rfl rfl rfl (by decide +kernel) ⟨Nat.le_of_ble_eq_true rfl, Nat.le_of_ble_eq_true rfl⟩) (preWM hK hP hD) rfl rfl hl.1 rfl (lv_room (Nat.le_of_ble_eq_true rfl)) dX1_slight_23 ⟨Nat.le_of_ble_eq_true rfl, Nat.le_of_ble_eq_true rfl⟩) hS (fun q h => zA_mono hS.1 h) (fun H locs hP hS _ _ => ?_)
    have hD := mW_D (t' := 1) (σ' := σ) hD
    have hfin : σ = σ := by rfl
    rw [hfin] at hP
    have hfit : 1 = 1 := by rfl
    rw [hfit] at hP
    refine z_re (v' := iI 0) (congrArg iI (by first | rfl | omega)) ?_
    exact W.iret hx hb hr (fun t ht hW => ⟨⟨_, (), rfl, rfl, (by show va_P _ _ _ t.heap; rw [ht]; exact hP)⟩, hS.F ht⟩) hS.2.2 dX1_slight_26
  ·
    exfalso
    omega
set_option maxHeartbeats 4000000 in
set_option maxRecDepth 100000 in
theorem e2_X1_slight (l : Launch) (G : zG) (x : Nat) (a : Nat → Nat) (sz : Nat) (B : Nat) (σ : zS) (t : Nat) (i : Nat) (z : Int) (w : Int) (hI : zI B σ) (hi : i < σ.1 0) (hzb : -2147483648 ≤ z ∧ z < 2147483648) (hbad : z < 0 ∨ (σ.1 0 : Int) ≤ z) : Met l yX1_slight wsX1_slight ({ frames := 2, cells := 0, slots := 0, locals := 43 } : Room) (va_Pc [.ref x, .int (iI (i : Int)), .int (iI z), .int (iI w)] (wM G x a t σ sz)) (va_Qi (fun r (_ : Unit) => r = iI 0) (fun _ t9 => va_P G.1 vwCl (mW G x a 1 σ) t9.heap) (zA x a sz)) 0 0 (zA x a sz) := by
  refine Met.ofW (cc := cX1_slight) (maxL := 4) (ret := (some .int)) (by decide) rfl ?_
  intro pp ee s m args below meth c s₁ B9 hml hv
  obtain ⟨rfl, hsz, hP, hK, hD0⟩ := hv
  subst hsz
  have hD := mW_zA (sz := s.heap.size) hD0
  have hS : va_S (zA x a s.heap.size) s.heap s.heap [] := va_S.rf
  have hx := B9.exec
  have hb := B9.bytes
  have hr := B9.returns
  have hts := atoms_spec (ws := wsX1_slight) B9.pre
  have hown : s.vm.findClass RX1 = some m.cls := findClass_of_methodNamed B9.named
  have hlocks := B9.notSynchronized
  have hin0 : ∀ w ∈ wsX10, w ∈ wsX1_slight := by decide +kernel
  have w_0 := hts (.fieldLink RX1 35 "ApologyLedgerModel" "thrown" "I") (by decide +kernel)
  have hl := lv_entry ([.ref x, .int (iI (i : Int)), .int (iI z), .int (iI w)]) (n := 4) (Nat.le_of_ble_eq_true rfl)
  rw [lg_entry_eq]
  generalize (lg_sl ([.ref x, .int (iI (i : Int)), .int (iI z), .int (iI w)]) ++ List.replicate (4 - (lg_sl ([.ref x, .int (iI (i : Int)), .int (iI z), .int (iI w)])).length) Slot.unset).toArray = ls at hl ⊢
  have hl : lv_has ls 4 [(0, .ref x), (1, .int (iI (i : Int))), (2, .int (iI z)), (3, .int (iI w))] := hl
  have hIn := hI.n
  have hIb := hI.b
  refine lv_aload_n hx hb dX1_slight_0 rfl (lv_at hl 0 rfl) ?_
  refine lv_iconst (v := iI 0) hx hb dX1_slight_1 rfl ?_
  refine z_re (v' := iI ((0 : Nat) : Int)) (congrArg iI (by omega)) ?_
  refine m_put hx hb hts hin0 hown hK hP hD hS 0 rfl 0 (by decide) w_0 rfl (by decide +kernel) (Nat.le_of_ble_eq_true rfl) mW_put0 dX1_slight_2 (fun H locs hP hD hS => ?_)
  refine lv_aload_n hx hb dX1_slight_5 rfl (lv_at hl 0 rfl) ?_
  refine lv_iload_n hx hb dX1_slight_6 rfl (lv_at hl 1 rfl) ?_
  refine zc_i (va_runV (As := [.int (iI (i : Int))]) (rest := []) ⟨hx, hb, hml, hown, hts⟩ (c_X1_isPerson l G x a σ 0 (i : Int) (by omega) (by omega)) (cwV 1 hts gX1_slight_X1_isPerson rfl rfl rfl (by decide +kernel) ⟨Nat.le_of_ble_eq_true rfl, Nat.le_of_ble_eq_true rfl⟩) (preVM hK hP) rfl rfl hl.1 rfl (lv_room (Nat.le_of_ble_eq_true rfl)) dX1_slight_7 ⟨Nat.le_of_ble_eq_true rfl, Nat.le_of_ble_eq_true rfl⟩) ?_
  have f_1 := inn_or (i : Int) 0 ((σ.1 0 : Nat) - 1)
  refine z_if_eq (tgt := 21) hx hb dX1_slight_10 (by decide) (by omega) (fun c_2 => ?_) (fun c_2 => ?_)
  ·
    exfalso
    omega
  ·
    refine lv_aload_n hx hb dX1_slight_13 rfl (lv_at hl 0 rfl) ?_
    refine lv_iload_n hx hb dX1_slight_14 rfl (lv_at hl 2 rfl) ?_
    refine zc_i (va_runV (As := [.int (iI z)]) (rest := []) ⟨hx, hb, hml, hown, hts⟩ (c_X1_isPerson l G x a σ 0 z (by omega) (by omega)) (cwV 1 hts gX1_slight_X1_isPerson rfl rfl rfl (by decide +kernel) ⟨Nat.le_of_ble_eq_true rfl, Nat.le_of_ble_eq_true rfl⟩) (preVM hK hP) rfl rfl hl.1 rfl (lv_room (Nat.le_of_ble_eq_true rfl)) dX1_slight_15 ⟨Nat.le_of_ble_eq_true rfl, Nat.le_of_ble_eq_true rfl⟩) ?_
    have f_3 := inn_or z 0 ((σ.1 0 : Nat) - 1)
    refine z_if_ne (tgt := 27) hx hb dX1_slight_18 (by decide) (by omega) (fun c_4 => ?_) (fun c_4 => ?_)
    ·
      exfalso
      omega
    ·
      refine lv_aload_n hx hb dX1_slight_21 rfl (lv_at hl 0 rfl) ?_
      refine lv_iconst (v := iI 1) hx hb dX1_slight_22 rfl ?_
      refine z_re (v' := iI ((1 : Nat) : Int)) (congrArg iI (by omega)) ?_
      refine zc_wi (va_runV (As := [.int (iI ((1 : Nat) : Int))]) (rest := []) ⟨hx, hb, hml, hown, hts⟩ (c_X1_no l G x a _ σ 0 1) (cwV 1 hts gX1_slight_X1_no rfl rfl rfl (by decide +kernel) ⟨Nat.le_of_ble_eq_true rfl, Nat.le_of_ble_eq_true rfl⟩) (preWM hK hP hD) rfl rfl hl.1 rfl (lv_room (Nat.le_of_ble_eq_true rfl)) dX1_slight_23 ⟨Nat.le_of_ble_eq_true rfl, Nat.le_of_ble_eq_true rfl⟩) hS (fun q h => zA_mono hS.1 h) (fun H locs hP hS _ _ => ?_)
      have hD := mW_D (t' := 1) (σ' := σ) hD
      have hfin : σ = σ := by rfl
      rw [hfin] at hP
      have hfit : 1 = 1 := by rfl
      rw [hfit] at hP
      refine z_re (v' := iI 0) (congrArg iI (by first | rfl | omega)) ?_
      exact W.iret hx hb hr (fun t ht hW => ⟨⟨_, (), rfl, rfl, (by show va_P _ _ _ t.heap; rw [ht]; exact hP)⟩, hS.F ht⟩) hS.2.2 dX1_slight_26
set_option maxHeartbeats 4000000 in
set_option maxRecDepth 100000 in
theorem e3_X1_slight (l : Launch) (G : zG) (x : Nat) (a : Nat → Nat) (sz : Nat) (B : Nat) (σ : zS) (t : Nat) (i : Nat) (o : Nat) (w : Int) (hI : zI B σ) (hi : i < σ.1 0) (ho : o < σ.1 0) (hwb : -2147483648 ≤ w ∧ w < 2147483648) (hbad : i = o ∨ w < 1 ∨ 20 < w) : Met l yX1_slight wsX1_slight ({ frames := 2, cells := 0, slots := 0, locals := 43 } : Room) (va_Pc [.ref x, .int (iI (i : Int)), .int (iI (o : Int)), .int (iI w)] (wM G x a t σ sz)) (va_Qi (fun r (_ : Unit) => r = iI 0) (fun _ t9 => va_P G.1 vwCl (mW G x a 2 σ) t9.heap) (zA x a sz)) 0 0 (zA x a sz) := by
  refine Met.ofW (cc := cX1_slight) (maxL := 4) (ret := (some .int)) (by decide) rfl ?_
  intro pp ee s m args below meth c s₁ B9 hml hv
  obtain ⟨rfl, hsz, hP, hK, hD0⟩ := hv
  subst hsz
  have hD := mW_zA (sz := s.heap.size) hD0
  have hS : va_S (zA x a s.heap.size) s.heap s.heap [] := va_S.rf
  have hx := B9.exec
  have hb := B9.bytes
  have hr := B9.returns
  have hts := atoms_spec (ws := wsX1_slight) B9.pre
  have hown : s.vm.findClass RX1 = some m.cls := findClass_of_methodNamed B9.named
  have hlocks := B9.notSynchronized
  have hin0 : ∀ w ∈ wsX10, w ∈ wsX1_slight := by decide +kernel
  have w_0 := hts (.fieldLink RX1 35 "ApologyLedgerModel" "thrown" "I") (by decide +kernel)
  have hl := lv_entry ([.ref x, .int (iI (i : Int)), .int (iI (o : Int)), .int (iI w)]) (n := 4) (Nat.le_of_ble_eq_true rfl)
  rw [lg_entry_eq]
  generalize (lg_sl ([.ref x, .int (iI (i : Int)), .int (iI (o : Int)), .int (iI w)]) ++ List.replicate (4 - (lg_sl ([.ref x, .int (iI (i : Int)), .int (iI (o : Int)), .int (iI w)])).length) Slot.unset).toArray = ls at hl ⊢
  have hl : lv_has ls 4 [(0, .ref x), (1, .int (iI (i : Int))), (2, .int (iI (o : Int))), (3, .int (iI w))] := hl
  have hIn := hI.n
  have hIb := hI.b
  refine lv_aload_n hx hb dX1_slight_0 rfl (lv_at hl 0 rfl) ?_
  refine lv_iconst (v := iI 0) hx hb dX1_slight_1 rfl ?_
  refine z_re (v' := iI ((0 : Nat) : Int)) (congrArg iI (by omega)) ?_
  refine m_put hx hb hts hin0 hown hK hP hD hS 0 rfl 0 (by decide) w_0 rfl (by decide +kernel) (Nat.le_of_ble_eq_true rfl) mW_put0 dX1_slight_2 (fun H locs hP hD hS => ?_)
  refine lv_aload_n hx hb dX1_slight_5 rfl (lv_at hl 0 rfl) ?_
  refine lv_iload_n hx hb dX1_slight_6 rfl (lv_at hl 1 rfl) ?_
  refine zc_i (va_runV (As := [.int (iI (i : Int))]) (rest := []) ⟨hx, hb, hml, hown, hts⟩ (c_X1_isPerson l G x a σ 0 (i : Int) (by omega) (by omega)) (cwV 1 hts gX1_slight_X1_isPerson rfl rfl rfl (by decide +kernel) ⟨Nat.le_of_ble_eq_true rfl, Nat.le_of_ble_eq_true rfl⟩) (preVM hK hP) rfl rfl hl.1 rfl (lv_room (Nat.le_of_ble_eq_true rfl)) dX1_slight_7 ⟨Nat.le_of_ble_eq_true rfl, Nat.le_of_ble_eq_true rfl⟩) ?_
  have f_1 := inn_or (i : Int) 0 ((σ.1 0 : Nat) - 1)
  refine z_if_eq (tgt := 21) hx hb dX1_slight_10 (by decide) (by omega) (fun c_2 => ?_) (fun c_2 => ?_)
  ·
    exfalso
    omega
  ·
    refine lv_aload_n hx hb dX1_slight_13 rfl (lv_at hl 0 rfl) ?_
    refine lv_iload_n hx hb dX1_slight_14 rfl (lv_at hl 2 rfl) ?_
    refine zc_i (va_runV (As := [.int (iI (o : Int))]) (rest := []) ⟨hx, hb, hml, hown, hts⟩ (c_X1_isPerson l G x a σ 0 (o : Int) (by omega) (by omega)) (cwV 1 hts gX1_slight_X1_isPerson rfl rfl rfl (by decide +kernel) ⟨Nat.le_of_ble_eq_true rfl, Nat.le_of_ble_eq_true rfl⟩) (preVM hK hP) rfl rfl hl.1 rfl (lv_room (Nat.le_of_ble_eq_true rfl)) dX1_slight_15 ⟨Nat.le_of_ble_eq_true rfl, Nat.le_of_ble_eq_true rfl⟩) ?_
    have f_3 := inn_or (o : Int) 0 ((σ.1 0 : Nat) - 1)
    refine z_if_ne (tgt := 27) hx hb dX1_slight_18 (by decide) (by omega) (fun c_4 => ?_) (fun c_4 => ?_)
    ·
      refine lv_iload_n hx hb dX1_slight_27 rfl (lv_at hl 1 rfl) ?_
      refine lv_iload_n hx hb dX1_slight_28 rfl (lv_at hl 2 rfl) ?_
      refine z_icmp_eq (tgt := 42) hx hb dX1_slight_29 (by decide) (by omega) (by omega) (fun c_5 => ?_) (fun c_5 => ?_)
      ·
        refine lv_aload_n hx hb dX1_slight_42 rfl (lv_at hl 0 rfl) ?_
        refine lv_iconst (v := iI 2) hx hb dX1_slight_43 rfl ?_
        refine z_re (v' := iI ((2 : Nat) : Int)) (congrArg iI (by omega)) ?_
        refine zc_wi (va_runV (As := [.int (iI ((2 : Nat) : Int))]) (rest := []) ⟨hx, hb, hml, hown, hts⟩ (c_X1_no l G x a _ σ 0 2) (cwV 1 hts gX1_slight_X1_no rfl rfl rfl (by decide +kernel) ⟨Nat.le_of_ble_eq_true rfl, Nat.le_of_ble_eq_true rfl⟩) (preWM hK hP hD) rfl rfl hl.1 rfl (lv_room (Nat.le_of_ble_eq_true rfl)) dX1_slight_44 ⟨Nat.le_of_ble_eq_true rfl, Nat.le_of_ble_eq_true rfl⟩) hS (fun q h => zA_mono hS.1 h) (fun H locs hP hS _ _ => ?_)
        have hD := mW_D (t' := 2) (σ' := σ) hD
        have hfin : σ = σ := by rfl
        rw [hfin] at hP
        have hfit : 2 = 2 := by rfl
        rw [hfit] at hP
        refine z_re (v' := iI 0) (congrArg iI (by first | rfl | omega)) ?_
        exact W.iret hx hb hr (fun t ht hW => ⟨⟨_, (), rfl, rfl, (by show va_P _ _ _ t.heap; rw [ht]; exact hP)⟩, hS.F ht⟩) hS.2.2 dX1_slight_47
      ·
        refine lv_iload_n hx hb dX1_slight_32 rfl (lv_at hl 3 rfl) ?_
        refine lv_iconst (v := iI 1) hx hb dX1_slight_33 rfl ?_
        refine lv_bipush (v := iI 20) hx hb dX1_slight_34 (by decide) ?_
        refine zc_i (va_runS (As := [.int (iI w), .int (iI 1), .int (iI 20)]) (rest := []) ⟨hx, hb, hml, hown, hts⟩ (c_X1_isIn l  w 1 20 (by omega) (by omega) (by omega)) (va_cwS 3 hts gX1_slight_X1_isIn rfl rfl rfl (by decide +kernel) ⟨Nat.le_of_ble_eq_true rfl, Nat.le_of_ble_eq_true rfl⟩) preS0 rfl rfl hl.1 rfl (lv_room (Nat.le_of_ble_eq_true rfl)) dX1_slight_36 ⟨Nat.le_of_ble_eq_true rfl, Nat.le_of_ble_eq_true rfl⟩) ?_
        have f_6 := inn_or w 1 20
        refine z_if_ne (tgt := 48) hx hb dX1_slight_39 (by decide) (by omega) (fun c_7 => ?_) (fun c_7 => ?_)
        ·
          exfalso
          omega
        ·
          refine lv_aload_n hx hb dX1_slight_42 rfl (lv_at hl 0 rfl) ?_
          refine lv_iconst (v := iI 2) hx hb dX1_slight_43 rfl ?_
          refine z_re (v' := iI ((2 : Nat) : Int)) (congrArg iI (by omega)) ?_
          refine zc_wi (va_runV (As := [.int (iI ((2 : Nat) : Int))]) (rest := []) ⟨hx, hb, hml, hown, hts⟩ (c_X1_no l G x a _ σ 0 2) (cwV 1 hts gX1_slight_X1_no rfl rfl rfl (by decide +kernel) ⟨Nat.le_of_ble_eq_true rfl, Nat.le_of_ble_eq_true rfl⟩) (preWM hK hP hD) rfl rfl hl.1 rfl (lv_room (Nat.le_of_ble_eq_true rfl)) dX1_slight_44 ⟨Nat.le_of_ble_eq_true rfl, Nat.le_of_ble_eq_true rfl⟩) hS (fun q h => zA_mono hS.1 h) (fun H locs hP hS _ _ => ?_)
          have hD := mW_D (t' := 2) (σ' := σ) hD
          have hfin : σ = σ := by rfl
          rw [hfin] at hP
          have hfit : 2 = 2 := by rfl
          rw [hfit] at hP
          refine z_re (v' := iI 0) (congrArg iI (by first | rfl | omega)) ?_
          exact W.iret hx hb hr (fun t ht hW => ⟨⟨_, (), rfl, rfl, (by show va_P _ _ _ t.heap; rw [ht]; exact hP)⟩, hS.F ht⟩) hS.2.2 dX1_slight_47
    ·
      exfalso
      omega
set_option maxHeartbeats 4000000 in
set_option maxRecDepth 100000 in
theorem e4_X1_slight (l : Launch) (G : zG) (x : Nat) (a : Nat → Nat) (sz : Nat) (B : Nat) (σ : zS) (t : Nat) (i : Nat) (o : Nat) (w : Int) (hI : zI B σ) (hi : i < σ.1 0) (ho : o < σ.1 0) (hne : i ≠ o) (hw : 1 ≤ w ∧ w ≤ 20) (hfull : σ.1 1 = 20) : Met l yX1_slight wsX1_slight ({ frames := 2, cells := 0, slots := 0, locals := 43 } : Room) (va_Pc [.ref x, .int (iI (i : Int)), .int (iI (o : Int)), .int (iI w)] (wM G x a t σ sz)) (va_Qi (fun r (_ : Unit) => r = iI 0) (fun _ t9 => va_P G.1 vwCl (mW G x a 3 σ) t9.heap) (zA x a sz)) 0 0 (zA x a sz) := by
  refine Met.ofW (cc := cX1_slight) (maxL := 4) (ret := (some .int)) (by decide) rfl ?_
  intro pp ee s m args below meth c s₁ B9 hml hv
  obtain ⟨rfl, hsz, hP, hK, hD0⟩ := hv
  subst hsz
  have hD := mW_zA (sz := s.heap.size) hD0
  have hS : va_S (zA x a s.heap.size) s.heap s.heap [] := va_S.rf
  have hx := B9.exec
  have hb := B9.bytes
  have hr := B9.returns
  have hts := atoms_spec (ws := wsX1_slight) B9.pre
  have hown : s.vm.findClass RX1 = some m.cls := findClass_of_methodNamed B9.named
  have hlocks := B9.notSynchronized
  have hin0 : ∀ w ∈ wsX10, w ∈ wsX1_slight := by decide +kernel
  have w_0 := hts (.fieldLink RX1 35 "ApologyLedgerModel" "thrown" "I") (by decide +kernel)
  have w_1 := hts (.fieldLink RX1 46 "ApologyLedgerModel" "slights" "I") (by decide +kernel)
  have hl := lv_entry ([.ref x, .int (iI (i : Int)), .int (iI (o : Int)), .int (iI w)]) (n := 4) (Nat.le_of_ble_eq_true rfl)
  rw [lg_entry_eq]
  generalize (lg_sl ([.ref x, .int (iI (i : Int)), .int (iI (o : Int)), .int (iI w)]) ++ List.replicate (4 - (lg_sl ([.ref x, .int (iI (i : Int)), .int (iI (o : Int)), .int (iI w)])).length) Slot.unset).toArray = ls at hl ⊢
  have hl : lv_has ls 4 [(0, .ref x), (1, .int (iI (i : Int))), (2, .int (iI (o : Int))), (3, .int (iI w))] := hl
  have hIn := hI.n
  have hIb := hI.b
  refine lv_aload_n hx hb dX1_slight_0 rfl (lv_at hl 0 rfl) ?_
  refine lv_iconst (v := iI 0) hx hb dX1_slight_1 rfl ?_
  refine z_re (v' := iI ((0 : Nat) : Int)) (congrArg iI (by omega)) ?_
  refine m_put hx hb hts hin0 hown hK hP hD hS 0 rfl 0 (by decide) w_0 rfl (by decide +kernel) (Nat.le_of_ble_eq_true rfl) mW_put0 dX1_slight_2 (fun H locs hP hD hS => ?_)
  refine lv_aload_n hx hb dX1_slight_5 rfl (lv_at hl 0 rfl) ?_
  refine lv_iload_n hx hb dX1_slight_6 rfl (lv_at hl 1 rfl) ?_
  refine zc_i (va_runV (As := [.int (iI (i : Int))]) (rest := []) ⟨hx, hb, hml, hown, hts⟩ (c_X1_isPerson l G x a σ 0 (i : Int) (by omega) (by omega)) (cwV 1 hts gX1_slight_X1_isPerson rfl rfl rfl (by decide +kernel) ⟨Nat.le_of_ble_eq_true rfl, Nat.le_of_ble_eq_true rfl⟩) (preVM hK hP) rfl rfl hl.1 rfl (lv_room (Nat.le_of_ble_eq_true rfl)) dX1_slight_7 ⟨Nat.le_of_ble_eq_true rfl, Nat.le_of_ble_eq_true rfl⟩) ?_
  have f_1 := inn_or (i : Int) 0 ((σ.1 0 : Nat) - 1)
  refine z_if_eq (tgt := 21) hx hb dX1_slight_10 (by decide) (by omega) (fun c_2 => ?_) (fun c_2 => ?_)
  ·
    exfalso
    omega
  ·
    refine lv_aload_n hx hb dX1_slight_13 rfl (lv_at hl 0 rfl) ?_
    refine lv_iload_n hx hb dX1_slight_14 rfl (lv_at hl 2 rfl) ?_
    refine zc_i (va_runV (As := [.int (iI (o : Int))]) (rest := []) ⟨hx, hb, hml, hown, hts⟩ (c_X1_isPerson l G x a σ 0 (o : Int) (by omega) (by omega)) (cwV 1 hts gX1_slight_X1_isPerson rfl rfl rfl (by decide +kernel) ⟨Nat.le_of_ble_eq_true rfl, Nat.le_of_ble_eq_true rfl⟩) (preVM hK hP) rfl rfl hl.1 rfl (lv_room (Nat.le_of_ble_eq_true rfl)) dX1_slight_15 ⟨Nat.le_of_ble_eq_true rfl, Nat.le_of_ble_eq_true rfl⟩) ?_
    have f_3 := inn_or (o : Int) 0 ((σ.1 0 : Nat) - 1)
    refine z_if_ne (tgt := 27) hx hb dX1_slight_18 (by decide) (by omega) (fun c_4 => ?_) (fun c_4 => ?_)
    ·
      refine lv_iload_n hx hb dX1_slight_27 rfl (lv_at hl 1 rfl) ?_
      refine lv_iload_n hx hb dX1_slight_28 rfl (lv_at hl 2 rfl) ?_
      refine z_icmp_eq (tgt := 42) hx hb dX1_slight_29 (by decide) (by omega) (by omega) (fun c_5 => ?_) (fun c_5 => ?_)
      ·
        exfalso
        omega
      ·
        refine lv_iload_n hx hb dX1_slight_32 rfl (lv_at hl 3 rfl) ?_
        refine lv_iconst (v := iI 1) hx hb dX1_slight_33 rfl ?_
        refine lv_bipush (v := iI 20) hx hb dX1_slight_34 (by decide) ?_
        refine zc_i (va_runS (As := [.int (iI w), .int (iI 1), .int (iI 20)]) (rest := []) ⟨hx, hb, hml, hown, hts⟩ (c_X1_isIn l  w 1 20 (by omega) (by omega) (by omega)) (va_cwS 3 hts gX1_slight_X1_isIn rfl rfl rfl (by decide +kernel) ⟨Nat.le_of_ble_eq_true rfl, Nat.le_of_ble_eq_true rfl⟩) preS0 rfl rfl hl.1 rfl (lv_room (Nat.le_of_ble_eq_true rfl)) dX1_slight_36 ⟨Nat.le_of_ble_eq_true rfl, Nat.le_of_ble_eq_true rfl⟩) ?_
        have f_6 := inn_or w 1 20
        refine z_if_ne (tgt := 48) hx hb dX1_slight_39 (by decide) (by omega) (fun c_7 => ?_) (fun c_7 => ?_)
        ·
          refine lv_aload_n hx hb dX1_slight_48 rfl (lv_at hl 0 rfl) ?_
          refine m_get (v := .int (iI (σ.1 1 : Nat))) hx hb hts hin0 hown hK hP 0 rfl 6 (by decide) w_1 rfl dX1_slight_49 ?_
          refine lv_bipush (v := iI 20) hx hb dX1_slight_52 (by decide) ?_
          refine z_icmp_ne (tgt := 63) hx hb dX1_slight_54 (by decide) (by omega) (by omega) (fun c_8 => ?_) (fun c_8 => ?_)
          ·
            exfalso
            omega
          ·
            refine lv_aload_n hx hb dX1_slight_57 rfl (lv_at hl 0 rfl) ?_
            refine lv_iconst (v := iI 3) hx hb dX1_slight_58 rfl ?_
            refine z_re (v' := iI ((3 : Nat) : Int)) (congrArg iI (by omega)) ?_
            refine zc_wi (va_runV (As := [.int (iI ((3 : Nat) : Int))]) (rest := []) ⟨hx, hb, hml, hown, hts⟩ (c_X1_no l G x a _ σ 0 3) (cwV 1 hts gX1_slight_X1_no rfl rfl rfl (by decide +kernel) ⟨Nat.le_of_ble_eq_true rfl, Nat.le_of_ble_eq_true rfl⟩) (preWM hK hP hD) rfl rfl hl.1 rfl (lv_room (Nat.le_of_ble_eq_true rfl)) dX1_slight_59 ⟨Nat.le_of_ble_eq_true rfl, Nat.le_of_ble_eq_true rfl⟩) hS (fun q h => zA_mono hS.1 h) (fun H locs hP hS _ _ => ?_)
            have hD := mW_D (t' := 3) (σ' := σ) hD
            have hfin : σ = σ := by rfl
            rw [hfin] at hP
            have hfit : 3 = 3 := by rfl
            rw [hfit] at hP
            refine z_re (v' := iI 0) (congrArg iI (by first | rfl | omega)) ?_
            exact W.iret hx hb hr (fun t ht hW => ⟨⟨_, (), rfl, rfl, (by show va_P _ _ _ t.heap; rw [ht]; exact hP)⟩, hS.F ht⟩) hS.2.2 dX1_slight_62
        ·
          exfalso
          omega
    ·
      exfalso
      omega
set_option maxHeartbeats 4000000 in
set_option maxRecDepth 100000 in
theorem v_X1_mention (l : Launch) (G : zG) (x : Nat) (a : Nat → Nat) (sz : Nat) (B : Nat) (σ : zS) (t : Nat) (k : Nat) (hI : zI B σ) (hk : k < σ.1 1) (ho : σ.2 5 k = 0) : Met l yX1_mention wsX1_mention ({ frames := 2, cells := 0, slots := 0, locals := 45 } : Room) (va_Pc [.ref x, .int (iI (k : Int))] (wM G x a t σ sz)) (va_Qi (fun r (_ : Unit) => r = iI (min (σ.2 4 k + 1) 99)) (fun _ t9 => va_P G.1 vwCl (mW G x a 0 (spk σ k)) t9.heap) (zA x a sz)) 0 0 (zA x a sz) := by
  refine Met.ofW (cc := cX1_mention) (maxL := 2) (ret := (some .int)) (by decide) rfl ?_
  intro pp ee s m args below meth c s₁ B9 hml hv
  obtain ⟨rfl, hsz, hP, hK, hD0⟩ := hv
  subst hsz
  have hD := mW_zA (sz := s.heap.size) hD0
  have hS : va_S (zA x a s.heap.size) s.heap s.heap [] := va_S.rf
  have hx := B9.exec
  have hb := B9.bytes
  have hr := B9.returns
  have hts := atoms_spec (ws := wsX1_mention) B9.pre
  have hown : s.vm.findClass RX1 = some m.cls := findClass_of_methodNamed B9.named
  have hlocks := B9.notSynchronized
  have hin0 : ∀ w ∈ wsX10, w ∈ wsX1_mention := by decide +kernel
  have w_0 := hts (.fieldLink RX1 35 "ApologyLedgerModel" "thrown" "I") (by decide +kernel)
  have w_1 := hts (.fieldLink RX1 23 "ApologyLedgerModel" "weight" "[I") (by decide +kernel)
  have hl := lv_entry ([.ref x, .int (iI (k : Int))]) (n := 2) (Nat.le_of_ble_eq_true rfl)
  rw [lg_entry_eq]
  generalize (lg_sl ([.ref x, .int (iI (k : Int))]) ++ List.replicate (2 - (lg_sl ([.ref x, .int (iI (k : Int))])).length) Slot.unset).toArray = ls at hl ⊢
  have hl : lv_has ls 2 [(0, .ref x), (1, .int (iI (k : Int)))] := hl
  have hIn := hI.n
  have hIb := hI.b
  have g4 := hI.r4 k
  have g5 := hI.r5 k
  refine lv_aload_n hx hb dX1_mention_0 rfl (lv_at hl 0 rfl) ?_
  refine lv_iconst (v := iI 0) hx hb dX1_mention_1 rfl ?_
  refine z_re (v' := iI ((0 : Nat) : Int)) (congrArg iI (by omega)) ?_
  refine m_put hx hb hts hin0 hown hK hP hD hS 0 rfl 0 (by decide) w_0 rfl (by decide +kernel) (Nat.le_of_ble_eq_true rfl) mW_put0 dX1_mention_2 (fun H locs hP hD hS => ?_)
  refine lv_aload_n hx hb dX1_mention_5 rfl (lv_at hl 0 rfl) ?_
  refine lv_iload_n hx hb dX1_mention_6 rfl (lv_at hl 1 rfl) ?_
  refine zc_i (va_runV (As := [.int (iI (k : Int))]) (rest := []) ⟨hx, hb, hml, hown, hts⟩ (c_X1_isSlight l G x a σ 0 (k : Int) (by omega) (by omega)) (cwV 1 hts gX1_mention_X1_isSlight rfl rfl rfl (by decide +kernel) ⟨Nat.le_of_ble_eq_true rfl, Nat.le_of_ble_eq_true rfl⟩) (preVM hK hP) rfl rfl hl.1 rfl (lv_room (Nat.le_of_ble_eq_true rfl)) dX1_mention_7 ⟨Nat.le_of_ble_eq_true rfl, Nat.le_of_ble_eq_true rfl⟩) ?_
  have f_1 := inn_or (k : Int) 0 ((σ.1 1 : Nat) - 1)
  refine z_if_ne (tgt := 19) hx hb dX1_mention_10 (by decide) (by omega) (fun c_2 => ?_) (fun c_2 => ?_)
  ·
    refine lv_aload_n hx hb dX1_mention_19 rfl (lv_at hl 0 rfl) ?_
    refine lv_iload_n hx hb dX1_mention_20 rfl (lv_at hl 1 rfl) ?_
    refine zc_i (va_runV (As := [.int (iI (k : Int))]) (rest := []) ⟨hx, hb, hml, hown, hts⟩ (c_X1_isOpen l G x a σ 0 k (by omega) (by omega)) (cwV 1 hts gX1_mention_X1_isOpen rfl rfl rfl (by decide +kernel) ⟨Nat.le_of_ble_eq_true rfl, Nat.le_of_ble_eq_true rfl⟩) (preVM hK hP) rfl rfl hl.1 rfl (lv_room (Nat.le_of_ble_eq_true rfl)) dX1_mention_21 ⟨Nat.le_of_ble_eq_true rfl, Nat.le_of_ble_eq_true rfl⟩) ?_
    have f_3 := opn_or σ k
    refine z_if_ne (tgt := 33) hx hb dX1_mention_24 (by decide) (by omega) (fun c_4 => ?_) (fun c_4 => ?_)
    ·
      refine lv_aload_n hx hb dX1_mention_33 rfl (lv_at hl 0 rfl) ?_
      refine lv_iload_n hx hb dX1_mention_34 rfl (lv_at hl 1 rfl) ?_
      refine zc_wv (va_runV (As := [.int (iI (k : Int))]) (rest := []) ⟨hx, hb, hml, hown, hts⟩ (c_X1_speak l G x a _ σ 0 k (by omega) g4) (cwV 1 hts gX1_mention_X1_speak rfl rfl rfl (by decide +kernel) ⟨Nat.le_of_ble_eq_true rfl, Nat.le_of_ble_eq_true rfl⟩) (preWM hK hP hD) rfl rfl hl.1 rfl (lv_room (Nat.le_of_ble_eq_true rfl)) dX1_mention_35 ⟨Nat.le_of_ble_eq_true rfl, Nat.le_of_ble_eq_true rfl⟩) hS (fun q h => zA_mono hS.1 h) (fun H locs hP hS _ _ => ?_)
      have hD := mW_D (t' := 0) (σ' := (spk σ k)) hD
      refine lv_aload_n hx hb dX1_mention_38 rfl (lv_at hl 0 rfl) ?_
      refine m_get (v := .ref (a 4)) hx hb hts hin0 hown hK hP 0 rfl 9 (by decide) w_1 rfl dX1_mention_39 ?_
      refine lv_iload_n hx hb dX1_mention_42 rfl (lv_at hl 1 rfl) ?_
      refine z_iald (v := iI ((spk σ k).2 4 k)) hx hb hK hP 5 0 rfl rfl (k := k) (by omega) (by decide) rfl dX1_mention_43 ?_
      have hfin : (spk σ k) = spk σ k := by rfl
      rw [hfin] at hP
      have hfit : 0 = 0 := by rfl
      rw [hfit] at hP
      refine z_re (v' := iI (min (σ.2 4 k + 1) 99)) (congrArg iI (by simp [spk, stA])) ?_
      exact W.iret hx hb hr (fun t ht hW => ⟨⟨_, (), rfl, rfl, (by show va_P _ _ _ t.heap; rw [ht]; exact hP)⟩, hS.F ht⟩) hS.2.2 dX1_mention_44
    ·
      exfalso
      omega
  ·
    exfalso
    omega
set_option maxHeartbeats 4000000 in
set_option maxRecDepth 100000 in
theorem e1_X1_mention (l : Launch) (G : zG) (x : Nat) (a : Nat → Nat) (sz : Nat) (B : Nat) (σ : zS) (t : Nat) (z : Int) (hI : zI B σ) (hzb : -2147483648 ≤ z ∧ z < 2147483648) (hbad : z < 0 ∨ (σ.1 1 : Int) ≤ z) : Met l yX1_mention wsX1_mention ({ frames := 2, cells := 0, slots := 0, locals := 43 } : Room) (va_Pc [.ref x, .int (iI z)] (wM G x a t σ sz)) (va_Qi (fun r (_ : Unit) => r = iI 0) (fun _ t9 => va_P G.1 vwCl (mW G x a 1 σ) t9.heap) (zA x a sz)) 0 0 (zA x a sz) := by
  refine Met.ofW (cc := cX1_mention) (maxL := 2) (ret := (some .int)) (by decide) rfl ?_
  intro pp ee s m args below meth c s₁ B9 hml hv
  obtain ⟨rfl, hsz, hP, hK, hD0⟩ := hv
  subst hsz
  have hD := mW_zA (sz := s.heap.size) hD0
  have hS : va_S (zA x a s.heap.size) s.heap s.heap [] := va_S.rf
  have hx := B9.exec
  have hb := B9.bytes
  have hr := B9.returns
  have hts := atoms_spec (ws := wsX1_mention) B9.pre
  have hown : s.vm.findClass RX1 = some m.cls := findClass_of_methodNamed B9.named
  have hlocks := B9.notSynchronized
  have hin0 : ∀ w ∈ wsX10, w ∈ wsX1_mention := by decide +kernel
  have w_0 := hts (.fieldLink RX1 35 "ApologyLedgerModel" "thrown" "I") (by decide +kernel)
  have hl := lv_entry ([.ref x, .int (iI z)]) (n := 2) (Nat.le_of_ble_eq_true rfl)
  rw [lg_entry_eq]
  generalize (lg_sl ([.ref x, .int (iI z)]) ++ List.replicate (2 - (lg_sl ([.ref x, .int (iI z)])).length) Slot.unset).toArray = ls at hl ⊢
  have hl : lv_has ls 2 [(0, .ref x), (1, .int (iI z))] := hl
  have hIn := hI.n
  have hIb := hI.b
  refine lv_aload_n hx hb dX1_mention_0 rfl (lv_at hl 0 rfl) ?_
  refine lv_iconst (v := iI 0) hx hb dX1_mention_1 rfl ?_
  refine z_re (v' := iI ((0 : Nat) : Int)) (congrArg iI (by omega)) ?_
  refine m_put hx hb hts hin0 hown hK hP hD hS 0 rfl 0 (by decide) w_0 rfl (by decide +kernel) (Nat.le_of_ble_eq_true rfl) mW_put0 dX1_mention_2 (fun H locs hP hD hS => ?_)
  refine lv_aload_n hx hb dX1_mention_5 rfl (lv_at hl 0 rfl) ?_
  refine lv_iload_n hx hb dX1_mention_6 rfl (lv_at hl 1 rfl) ?_
  refine zc_i (va_runV (As := [.int (iI z)]) (rest := []) ⟨hx, hb, hml, hown, hts⟩ (c_X1_isSlight l G x a σ 0 z (by omega) (by omega)) (cwV 1 hts gX1_mention_X1_isSlight rfl rfl rfl (by decide +kernel) ⟨Nat.le_of_ble_eq_true rfl, Nat.le_of_ble_eq_true rfl⟩) (preVM hK hP) rfl rfl hl.1 rfl (lv_room (Nat.le_of_ble_eq_true rfl)) dX1_mention_7 ⟨Nat.le_of_ble_eq_true rfl, Nat.le_of_ble_eq_true rfl⟩) ?_
  have f_1 := inn_or z 0 ((σ.1 1 : Nat) - 1)
  refine z_if_ne (tgt := 19) hx hb dX1_mention_10 (by decide) (by omega) (fun c_2 => ?_) (fun c_2 => ?_)
  ·
    exfalso
    omega
  ·
    refine lv_aload_n hx hb dX1_mention_13 rfl (lv_at hl 0 rfl) ?_
    refine lv_iconst (v := iI 1) hx hb dX1_mention_14 rfl ?_
    refine z_re (v' := iI ((1 : Nat) : Int)) (congrArg iI (by omega)) ?_
    refine zc_wi (va_runV (As := [.int (iI ((1 : Nat) : Int))]) (rest := []) ⟨hx, hb, hml, hown, hts⟩ (c_X1_no l G x a _ σ 0 1) (cwV 1 hts gX1_mention_X1_no rfl rfl rfl (by decide +kernel) ⟨Nat.le_of_ble_eq_true rfl, Nat.le_of_ble_eq_true rfl⟩) (preWM hK hP hD) rfl rfl hl.1 rfl (lv_room (Nat.le_of_ble_eq_true rfl)) dX1_mention_15 ⟨Nat.le_of_ble_eq_true rfl, Nat.le_of_ble_eq_true rfl⟩) hS (fun q h => zA_mono hS.1 h) (fun H locs hP hS _ _ => ?_)
    have hD := mW_D (t' := 1) (σ' := σ) hD
    have hfin : σ = σ := by rfl
    rw [hfin] at hP
    have hfit : 1 = 1 := by rfl
    rw [hfit] at hP
    refine z_re (v' := iI 0) (congrArg iI (by first | rfl | omega)) ?_
    exact W.iret hx hb hr (fun t ht hW => ⟨⟨_, (), rfl, rfl, (by show va_P _ _ _ t.heap; rw [ht]; exact hP)⟩, hS.F ht⟩) hS.2.2 dX1_mention_18
set_option maxHeartbeats 4000000 in
set_option maxRecDepth 100000 in
theorem e2_X1_mention (l : Launch) (G : zG) (x : Nat) (a : Nat → Nat) (sz : Nat) (B : Nat) (σ : zS) (t : Nat) (k : Nat) (hI : zI B σ) (hk : k < σ.1 1) (ho : σ.2 5 k ≠ 0) : Met l yX1_mention wsX1_mention ({ frames := 2, cells := 0, slots := 0, locals := 43 } : Room) (va_Pc [.ref x, .int (iI (k : Int))] (wM G x a t σ sz)) (va_Qi (fun r (_ : Unit) => r = iI 0) (fun _ t9 => va_P G.1 vwCl (mW G x a 2 σ) t9.heap) (zA x a sz)) 0 0 (zA x a sz) := by
  refine Met.ofW (cc := cX1_mention) (maxL := 2) (ret := (some .int)) (by decide) rfl ?_
  intro pp ee s m args below meth c s₁ B9 hml hv
  obtain ⟨rfl, hsz, hP, hK, hD0⟩ := hv
  subst hsz
  have hD := mW_zA (sz := s.heap.size) hD0
  have hS : va_S (zA x a s.heap.size) s.heap s.heap [] := va_S.rf
  have hx := B9.exec
  have hb := B9.bytes
  have hr := B9.returns
  have hts := atoms_spec (ws := wsX1_mention) B9.pre
  have hown : s.vm.findClass RX1 = some m.cls := findClass_of_methodNamed B9.named
  have hlocks := B9.notSynchronized
  have hin0 : ∀ w ∈ wsX10, w ∈ wsX1_mention := by decide +kernel
  have w_0 := hts (.fieldLink RX1 35 "ApologyLedgerModel" "thrown" "I") (by decide +kernel)
  have hl := lv_entry ([.ref x, .int (iI (k : Int))]) (n := 2) (Nat.le_of_ble_eq_true rfl)
  rw [lg_entry_eq]
  generalize (lg_sl ([.ref x, .int (iI (k : Int))]) ++ List.replicate (2 - (lg_sl ([.ref x, .int (iI (k : Int))])).length) Slot.unset).toArray = ls at hl ⊢
  have hl : lv_has ls 2 [(0, .ref x), (1, .int (iI (k : Int)))] := hl
  have hIn := hI.n
  have hIb := hI.b
  have g4 := hI.r4 k
  have g5 := hI.r5 k
  refine lv_aload_n hx hb dX1_mention_0 rfl (lv_at hl 0 rfl) ?_
  refine lv_iconst (v := iI 0) hx hb dX1_mention_1 rfl ?_
  refine z_re (v' := iI ((0 : Nat) : Int)) (congrArg iI (by omega)) ?_
  refine m_put hx hb hts hin0 hown hK hP hD hS 0 rfl 0 (by decide) w_0 rfl (by decide +kernel) (Nat.le_of_ble_eq_true rfl) mW_put0 dX1_mention_2 (fun H locs hP hD hS => ?_)
  refine lv_aload_n hx hb dX1_mention_5 rfl (lv_at hl 0 rfl) ?_
  refine lv_iload_n hx hb dX1_mention_6 rfl (lv_at hl 1 rfl) ?_
  refine zc_i (va_runV (As := [.int (iI (k : Int))]) (rest := []) ⟨hx, hb, hml, hown, hts⟩ (c_X1_isSlight l G x a σ 0 (k : Int) (by omega) (by omega)) (cwV 1 hts gX1_mention_X1_isSlight rfl rfl rfl (by decide +kernel) ⟨Nat.le_of_ble_eq_true rfl, Nat.le_of_ble_eq_true rfl⟩) (preVM hK hP) rfl rfl hl.1 rfl (lv_room (Nat.le_of_ble_eq_true rfl)) dX1_mention_7 ⟨Nat.le_of_ble_eq_true rfl, Nat.le_of_ble_eq_true rfl⟩) ?_
  have f_1 := inn_or (k : Int) 0 ((σ.1 1 : Nat) - 1)
  refine z_if_ne (tgt := 19) hx hb dX1_mention_10 (by decide) (by omega) (fun c_2 => ?_) (fun c_2 => ?_)
  ·
    refine lv_aload_n hx hb dX1_mention_19 rfl (lv_at hl 0 rfl) ?_
    refine lv_iload_n hx hb dX1_mention_20 rfl (lv_at hl 1 rfl) ?_
    refine zc_i (va_runV (As := [.int (iI (k : Int))]) (rest := []) ⟨hx, hb, hml, hown, hts⟩ (c_X1_isOpen l G x a σ 0 k (by omega) (by omega)) (cwV 1 hts gX1_mention_X1_isOpen rfl rfl rfl (by decide +kernel) ⟨Nat.le_of_ble_eq_true rfl, Nat.le_of_ble_eq_true rfl⟩) (preVM hK hP) rfl rfl hl.1 rfl (lv_room (Nat.le_of_ble_eq_true rfl)) dX1_mention_21 ⟨Nat.le_of_ble_eq_true rfl, Nat.le_of_ble_eq_true rfl⟩) ?_
    have f_3 := opn_or σ k
    refine z_if_ne (tgt := 33) hx hb dX1_mention_24 (by decide) (by omega) (fun c_4 => ?_) (fun c_4 => ?_)
    ·
      exfalso
      omega
    ·
      refine lv_aload_n hx hb dX1_mention_27 rfl (lv_at hl 0 rfl) ?_
      refine lv_iconst (v := iI 2) hx hb dX1_mention_28 rfl ?_
      refine z_re (v' := iI ((2 : Nat) : Int)) (congrArg iI (by omega)) ?_
      refine zc_wi (va_runV (As := [.int (iI ((2 : Nat) : Int))]) (rest := []) ⟨hx, hb, hml, hown, hts⟩ (c_X1_no l G x a _ σ 0 2) (cwV 1 hts gX1_mention_X1_no rfl rfl rfl (by decide +kernel) ⟨Nat.le_of_ble_eq_true rfl, Nat.le_of_ble_eq_true rfl⟩) (preWM hK hP hD) rfl rfl hl.1 rfl (lv_room (Nat.le_of_ble_eq_true rfl)) dX1_mention_29 ⟨Nat.le_of_ble_eq_true rfl, Nat.le_of_ble_eq_true rfl⟩) hS (fun q h => zA_mono hS.1 h) (fun H locs hP hS _ _ => ?_)
      have hD := mW_D (t' := 2) (σ' := σ) hD
      have hfin : σ = σ := by rfl
      rw [hfin] at hP
      have hfit : 2 = 2 := by rfl
      rw [hfit] at hP
      refine z_re (v' := iI 0) (congrArg iI (by first | rfl | omega)) ?_
      exact W.iret hx hb hr (fun t ht hW => ⟨⟨_, (), rfl, rfl, (by show va_P _ _ _ t.heap; rw [ht]; exact hP)⟩, hS.F ht⟩) hS.2.2 dX1_mention_32
  ·
    exfalso
    omega
set_option maxHeartbeats 4000000 in
set_option maxRecDepth 100000 in
theorem v_X1_setPride (l : Launch) (G : zG) (x : Nat) (a : Nat → Nat) (sz : Nat) (B : Nat) (σ : zS) (t : Nat) (p : Nat) (z : Int) (hI : zI B σ) (hp : p < σ.1 0) (hz : 0 ≤ z ∧ z ≤ 9) : Met l yX1_setPride wsX1_setPride ({ frames := 2, cells := 0, slots := 0, locals := 43 } : Room) (va_Pc [.ref x, .int (iI (p : Int)), .int (iI z)] (wM G x a t σ sz)) (va_Qi (fun r (_ : Unit) => r = iI (σ.2 0 p)) (fun _ t9 => va_P G.1 vwCl (mW G x a 0 (stA σ 0 p z)) t9.heap) (zA x a sz)) 0 0 (zA x a sz) := by
  refine Met.ofW (cc := cX1_setPride) (maxL := 4) (ret := (some .int)) (by decide) rfl ?_
  intro pp ee s m args below meth c s₁ B9 hml hv
  obtain ⟨rfl, hsz, hP, hK, hD0⟩ := hv
  subst hsz
  have hD := mW_zA (sz := s.heap.size) hD0
  have hS : va_S (zA x a s.heap.size) s.heap s.heap [] := va_S.rf
  have hx := B9.exec
  have hb := B9.bytes
  have hr := B9.returns
  have hts := atoms_spec (ws := wsX1_setPride) B9.pre
  have hown : s.vm.findClass RX1 = some m.cls := findClass_of_methodNamed B9.named
  have hlocks := B9.notSynchronized
  have hin0 : ∀ w ∈ wsX10, w ∈ wsX1_setPride := by decide +kernel
  have w_0 := hts (.fieldLink RX1 35 "ApologyLedgerModel" "thrown" "I") (by decide +kernel)
  have w_1 := hts (.fieldLink RX1 9 "ApologyLedgerModel" "pride" "[I") (by decide +kernel)
  have hl := lv_entry ([.ref x, .int (iI (p : Int)), .int (iI z)]) (n := 4) (Nat.le_of_ble_eq_true rfl)
  rw [lg_entry_eq]
  generalize (lg_sl ([.ref x, .int (iI (p : Int)), .int (iI z)]) ++ List.replicate (4 - (lg_sl ([.ref x, .int (iI (p : Int)), .int (iI z)])).length) Slot.unset).toArray = ls at hl ⊢
  have hl : lv_has ls 4 [(0, .ref x), (1, .int (iI (p : Int))), (2, .int (iI z))] := hl
  have hIn := hI.n
  have hIb := hI.b
  refine lv_aload_n hx hb dX1_setPride_0 rfl (lv_at hl 0 rfl) ?_
  refine lv_iconst (v := iI 0) hx hb dX1_setPride_1 rfl ?_
  refine z_re (v' := iI ((0 : Nat) : Int)) (congrArg iI (by omega)) ?_
  refine m_put hx hb hts hin0 hown hK hP hD hS 0 rfl 0 (by decide) w_0 rfl (by decide +kernel) (Nat.le_of_ble_eq_true rfl) mW_put0 dX1_setPride_2 (fun H locs hP hD hS => ?_)
  refine lv_aload_n hx hb dX1_setPride_5 rfl (lv_at hl 0 rfl) ?_
  refine lv_iload_n hx hb dX1_setPride_6 rfl (lv_at hl 1 rfl) ?_
  refine zc_i (va_runV (As := [.int (iI (p : Int))]) (rest := []) ⟨hx, hb, hml, hown, hts⟩ (c_X1_isPerson l G x a σ 0 (p : Int) (by omega) (by omega)) (cwV 1 hts gX1_setPride_X1_isPerson rfl rfl rfl (by decide +kernel) ⟨Nat.le_of_ble_eq_true rfl, Nat.le_of_ble_eq_true rfl⟩) (preVM hK hP) rfl rfl hl.1 rfl (lv_room (Nat.le_of_ble_eq_true rfl)) dX1_setPride_7 ⟨Nat.le_of_ble_eq_true rfl, Nat.le_of_ble_eq_true rfl⟩) ?_
  have f_1 := inn_or (p : Int) 0 ((σ.1 0 : Nat) - 1)
  refine z_if_ne (tgt := 19) hx hb dX1_setPride_10 (by decide) (by omega) (fun c_2 => ?_) (fun c_2 => ?_)
  ·
    refine lv_iload_n hx hb dX1_setPride_19 rfl (lv_at hl 2 rfl) ?_
    refine lv_iconst (v := iI 0) hx hb dX1_setPride_20 rfl ?_
    refine lv_bipush (v := iI 9) hx hb dX1_setPride_21 (by decide) ?_
    refine zc_i (va_runS (As := [.int (iI z), .int (iI 0), .int (iI 9)]) (rest := []) ⟨hx, hb, hml, hown, hts⟩ (c_X1_isIn l  z 0 9 (by omega) (by omega) (by omega)) (va_cwS 3 hts gX1_setPride_X1_isIn rfl rfl rfl (by decide +kernel) ⟨Nat.le_of_ble_eq_true rfl, Nat.le_of_ble_eq_true rfl⟩) preS0 rfl rfl hl.1 rfl (lv_room (Nat.le_of_ble_eq_true rfl)) dX1_setPride_23 ⟨Nat.le_of_ble_eq_true rfl, Nat.le_of_ble_eq_true rfl⟩) ?_
    have f_3 := inn_or z 0 9
    refine z_if_ne (tgt := 35) hx hb dX1_setPride_26 (by decide) (by omega) (fun c_4 => ?_) (fun c_4 => ?_)
    ·
      refine lv_aload_n hx hb dX1_setPride_35 rfl (lv_at hl 0 rfl) ?_
      refine m_get (v := .ref (a 0)) hx hb hts hin0 hown hK hP 0 rfl 4 (by decide) w_1 rfl dX1_setPride_36 ?_
      refine lv_iload_n hx hb dX1_setPride_39 rfl (lv_at hl 1 rfl) ?_
      refine z_iald (v := iI (σ.2 0 p)) hx hb hK hP 1 0 rfl rfl (k := p) (by omega) (by decide) rfl dX1_setPride_40 ?_
      have f_5 := hI.r0 p
      refine lv_istore_n (lv' := [(3, .int (iI (σ.2 0 p))), (0, .ref x), (1, .int (iI (p : Int))), (2, .int (iI z))]) hx hb dX1_setPride_41 rfl hl (by decide) rfl (fun ls hl => ?_)
      refine lv_aload_n hx hb dX1_setPride_42 rfl (lv_at hl 1 rfl) ?_
      refine m_get (v := .ref (a 0)) hx hb hts hin0 hown hK hP 0 rfl 4 (by decide) w_1 rfl dX1_setPride_43 ?_
      refine lv_iload_n hx hb dX1_setPride_46 rfl (lv_at hl 2 rfl) ?_
      refine lv_iload_n hx hb dX1_setPride_47 rfl (lv_at hl 3 rfl) ?_
      refine z_iast hx hb hK hP hD hS 1 0 rfl rfl (k := p) (by omega) (by decide) mW_set0 dX1_setPride_48 (fun H locs hP hD hS => ?_)
      refine lv_iload_n hx hb dX1_setPride_49 rfl (lv_at hl 0 rfl) ?_
      have hfin : (stA σ 0 p z) = stA σ 0 p z := by rfl
      rw [hfin] at hP
      have hfit : 0 = 0 := by rfl
      rw [hfit] at hP
      refine z_re (v' := iI (σ.2 0 p)) (congrArg iI (by rfl)) ?_
      exact W.iret hx hb hr (fun t ht hW => ⟨⟨_, (), rfl, rfl, (by show va_P _ _ _ t.heap; rw [ht]; exact hP)⟩, hS.F ht⟩) hS.2.2 dX1_setPride_50
    ·
      exfalso
      omega
  ·
    exfalso
    omega
set_option maxHeartbeats 4000000 in
set_option maxRecDepth 100000 in
theorem e1_X1_setPride (l : Launch) (G : zG) (x : Nat) (a : Nat → Nat) (sz : Nat) (B : Nat) (σ : zS) (t : Nat) (z : Int) (w : Int) (hI : zI B σ) (hzb : -2147483648 ≤ z ∧ z < 2147483648) (hbad : z < 0 ∨ (σ.1 0 : Int) ≤ z) : Met l yX1_setPride wsX1_setPride ({ frames := 2, cells := 0, slots := 0, locals := 43 } : Room) (va_Pc [.ref x, .int (iI z), .int (iI w)] (wM G x a t σ sz)) (va_Qi (fun r (_ : Unit) => r = iI 0) (fun _ t9 => va_P G.1 vwCl (mW G x a 1 σ) t9.heap) (zA x a sz)) 0 0 (zA x a sz) := by
  refine Met.ofW (cc := cX1_setPride) (maxL := 4) (ret := (some .int)) (by decide) rfl ?_
  intro pp ee s m args below meth c s₁ B9 hml hv
  obtain ⟨rfl, hsz, hP, hK, hD0⟩ := hv
  subst hsz
  have hD := mW_zA (sz := s.heap.size) hD0
  have hS : va_S (zA x a s.heap.size) s.heap s.heap [] := va_S.rf
  have hx := B9.exec
  have hb := B9.bytes
  have hr := B9.returns
  have hts := atoms_spec (ws := wsX1_setPride) B9.pre
  have hown : s.vm.findClass RX1 = some m.cls := findClass_of_methodNamed B9.named
  have hlocks := B9.notSynchronized
  have hin0 : ∀ w ∈ wsX10, w ∈ wsX1_setPride := by decide +kernel
  have w_0 := hts (.fieldLink RX1 35 "ApologyLedgerModel" "thrown" "I") (by decide +kernel)
  have hl := lv_entry ([.ref x, .int (iI z), .int (iI w)]) (n := 4) (Nat.le_of_ble_eq_true rfl)
  rw [lg_entry_eq]
  generalize (lg_sl ([.ref x, .int (iI z), .int (iI w)]) ++ List.replicate (4 - (lg_sl ([.ref x, .int (iI z), .int (iI w)])).length) Slot.unset).toArray = ls at hl ⊢
  have hl : lv_has ls 4 [(0, .ref x), (1, .int (iI z)), (2, .int (iI w))] := hl
  have hIn := hI.n
  have hIb := hI.b
  refine lv_aload_n hx hb dX1_setPride_0 rfl (lv_at hl 0 rfl) ?_
  refine lv_iconst (v := iI 0) hx hb dX1_setPride_1 rfl ?_
  refine z_re (v' := iI ((0 : Nat) : Int)) (congrArg iI (by omega)) ?_
  refine m_put hx hb hts hin0 hown hK hP hD hS 0 rfl 0 (by decide) w_0 rfl (by decide +kernel) (Nat.le_of_ble_eq_true rfl) mW_put0 dX1_setPride_2 (fun H locs hP hD hS => ?_)
  refine lv_aload_n hx hb dX1_setPride_5 rfl (lv_at hl 0 rfl) ?_
  refine lv_iload_n hx hb dX1_setPride_6 rfl (lv_at hl 1 rfl) ?_
  refine zc_i (va_runV (As := [.int (iI z)]) (rest := []) ⟨hx, hb, hml, hown, hts⟩ (c_X1_isPerson l G x a σ 0 z (by omega) (by omega)) (cwV 1 hts gX1_setPride_X1_isPerson rfl rfl rfl (by decide +kernel) ⟨Nat.le_of_ble_eq_true rfl, Nat.le_of_ble_eq_true rfl⟩) (preVM hK hP) rfl rfl hl.1 rfl (lv_room (Nat.le_of_ble_eq_true rfl)) dX1_setPride_7 ⟨Nat.le_of_ble_eq_true rfl, Nat.le_of_ble_eq_true rfl⟩) ?_
  have f_1 := inn_or z 0 ((σ.1 0 : Nat) - 1)
  refine z_if_ne (tgt := 19) hx hb dX1_setPride_10 (by decide) (by omega) (fun c_2 => ?_) (fun c_2 => ?_)
  ·
    exfalso
    omega
  ·
    refine lv_aload_n hx hb dX1_setPride_13 rfl (lv_at hl 0 rfl) ?_
    refine lv_iconst (v := iI 1) hx hb dX1_setPride_14 rfl ?_
    refine z_re (v' := iI ((1 : Nat) : Int)) (congrArg iI (by omega)) ?_
    refine zc_wi (va_runV (As := [.int (iI ((1 : Nat) : Int))]) (rest := []) ⟨hx, hb, hml, hown, hts⟩ (c_X1_no l G x a _ σ 0 1) (cwV 1 hts gX1_setPride_X1_no rfl rfl rfl (by decide +kernel) ⟨Nat.le_of_ble_eq_true rfl, Nat.le_of_ble_eq_true rfl⟩) (preWM hK hP hD) rfl rfl hl.1 rfl (lv_room (Nat.le_of_ble_eq_true rfl)) dX1_setPride_15 ⟨Nat.le_of_ble_eq_true rfl, Nat.le_of_ble_eq_true rfl⟩) hS (fun q h => zA_mono hS.1 h) (fun H locs hP hS _ _ => ?_)
    have hD := mW_D (t' := 1) (σ' := σ) hD
    have hfin : σ = σ := by rfl
    rw [hfin] at hP
    have hfit : 1 = 1 := by rfl
    rw [hfit] at hP
    refine z_re (v' := iI 0) (congrArg iI (by first | rfl | omega)) ?_
    exact W.iret hx hb hr (fun t ht hW => ⟨⟨_, (), rfl, rfl, (by show va_P _ _ _ t.heap; rw [ht]; exact hP)⟩, hS.F ht⟩) hS.2.2 dX1_setPride_18
set_option maxHeartbeats 4000000 in
set_option maxRecDepth 100000 in
theorem e2_X1_setPride (l : Launch) (G : zG) (x : Nat) (a : Nat → Nat) (sz : Nat) (B : Nat) (σ : zS) (t : Nat) (p : Nat) (z : Int) (hI : zI B σ) (hp : p < σ.1 0) (hzb : -2147483648 ≤ z ∧ z < 2147483648) (hbad : z < 0 ∨ 9 < z) : Met l yX1_setPride wsX1_setPride ({ frames := 2, cells := 0, slots := 0, locals := 43 } : Room) (va_Pc [.ref x, .int (iI (p : Int)), .int (iI z)] (wM G x a t σ sz)) (va_Qi (fun r (_ : Unit) => r = iI 0) (fun _ t9 => va_P G.1 vwCl (mW G x a 2 σ) t9.heap) (zA x a sz)) 0 0 (zA x a sz) := by
  refine Met.ofW (cc := cX1_setPride) (maxL := 4) (ret := (some .int)) (by decide) rfl ?_
  intro pp ee s m args below meth c s₁ B9 hml hv
  obtain ⟨rfl, hsz, hP, hK, hD0⟩ := hv
  subst hsz
  have hD := mW_zA (sz := s.heap.size) hD0
  have hS : va_S (zA x a s.heap.size) s.heap s.heap [] := va_S.rf
  have hx := B9.exec
  have hb := B9.bytes
  have hr := B9.returns
  have hts := atoms_spec (ws := wsX1_setPride) B9.pre
  have hown : s.vm.findClass RX1 = some m.cls := findClass_of_methodNamed B9.named
  have hlocks := B9.notSynchronized
  have hin0 : ∀ w ∈ wsX10, w ∈ wsX1_setPride := by decide +kernel
  have w_0 := hts (.fieldLink RX1 35 "ApologyLedgerModel" "thrown" "I") (by decide +kernel)
  have hl := lv_entry ([.ref x, .int (iI (p : Int)), .int (iI z)]) (n := 4) (Nat.le_of_ble_eq_true rfl)
  rw [lg_entry_eq]
  generalize (lg_sl ([.ref x, .int (iI (p : Int)), .int (iI z)]) ++ List.replicate (4 - (lg_sl ([.ref x, .int (iI (p : Int)), .int (iI z)])).length) Slot.unset).toArray = ls at hl ⊢
  have hl : lv_has ls 4 [(0, .ref x), (1, .int (iI (p : Int))), (2, .int (iI z))] := hl
  have hIn := hI.n
  have hIb := hI.b
  refine lv_aload_n hx hb dX1_setPride_0 rfl (lv_at hl 0 rfl) ?_
  refine lv_iconst (v := iI 0) hx hb dX1_setPride_1 rfl ?_
  refine z_re (v' := iI ((0 : Nat) : Int)) (congrArg iI (by omega)) ?_
  refine m_put hx hb hts hin0 hown hK hP hD hS 0 rfl 0 (by decide) w_0 rfl (by decide +kernel) (Nat.le_of_ble_eq_true rfl) mW_put0 dX1_setPride_2 (fun H locs hP hD hS => ?_)
  refine lv_aload_n hx hb dX1_setPride_5 rfl (lv_at hl 0 rfl) ?_
  refine lv_iload_n hx hb dX1_setPride_6 rfl (lv_at hl 1 rfl) ?_
  refine zc_i (va_runV (As := [.int (iI (p : Int))]) (rest := []) ⟨hx, hb, hml, hown, hts⟩ (c_X1_isPerson l G x a σ 0 (p : Int) (by omega) (by omega)) (cwV 1 hts gX1_setPride_X1_isPerson rfl rfl rfl (by decide +kernel) ⟨Nat.le_of_ble_eq_true rfl, Nat.le_of_ble_eq_true rfl⟩) (preVM hK hP) rfl rfl hl.1 rfl (lv_room (Nat.le_of_ble_eq_true rfl)) dX1_setPride_7 ⟨Nat.le_of_ble_eq_true rfl, Nat.le_of_ble_eq_true rfl⟩) ?_
  have f_1 := inn_or (p : Int) 0 ((σ.1 0 : Nat) - 1)
  refine z_if_ne (tgt := 19) hx hb dX1_setPride_10 (by decide) (by omega) (fun c_2 => ?_) (fun c_2 => ?_)
  ·
    refine lv_iload_n hx hb dX1_setPride_19 rfl (lv_at hl 2 rfl) ?_
    refine lv_iconst (v := iI 0) hx hb dX1_setPride_20 rfl ?_
    refine lv_bipush (v := iI 9) hx hb dX1_setPride_21 (by decide) ?_
    refine zc_i (va_runS (As := [.int (iI z), .int (iI 0), .int (iI 9)]) (rest := []) ⟨hx, hb, hml, hown, hts⟩ (c_X1_isIn l  z 0 9 (by omega) (by omega) (by omega)) (va_cwS 3 hts gX1_setPride_X1_isIn rfl rfl rfl (by decide +kernel) ⟨Nat.le_of_ble_eq_true rfl, Nat.le_of_ble_eq_true rfl⟩) preS0 rfl rfl hl.1 rfl (lv_room (Nat.le_of_ble_eq_true rfl)) dX1_setPride_23 ⟨Nat.le_of_ble_eq_true rfl, Nat.le_of_ble_eq_true rfl⟩) ?_
    have f_3 := inn_or z 0 9
    refine z_if_ne (tgt := 35) hx hb dX1_setPride_26 (by decide) (by omega) (fun c_4 => ?_) (fun c_4 => ?_)
    ·
      exfalso
      omega
    ·
      refine lv_aload_n hx hb dX1_setPride_29 rfl (lv_at hl 0 rfl) ?_
      refine lv_iconst (v := iI 2) hx hb dX1_setPride_30 rfl ?_
      refine z_re (v' := iI ((2 : Nat) : Int)) (congrArg iI (by omega)) ?_
      refine zc_wi (va_runV (As := [.int (iI ((2 : Nat) : Int))]) (rest := []) ⟨hx, hb, hml, hown, hts⟩ (c_X1_no l G x a _ σ 0 2) (cwV 1 hts gX1_setPride_X1_no rfl rfl rfl (by decide +kernel) ⟨Nat.le_of_ble_eq_true rfl, Nat.le_of_ble_eq_true rfl⟩) (preWM hK hP hD) rfl rfl hl.1 rfl (lv_room (Nat.le_of_ble_eq_true rfl)) dX1_setPride_31 ⟨Nat.le_of_ble_eq_true rfl, Nat.le_of_ble_eq_true rfl⟩) hS (fun q h => zA_mono hS.1 h) (fun H locs hP hS _ _ => ?_)
      have hD := mW_D (t' := 2) (σ' := σ) hD
      have hfin : σ = σ := by rfl
      rw [hfin] at hP
      have hfit : 2 = 2 := by rfl
      rw [hfit] at hP
      refine z_re (v' := iI 0) (congrArg iI (by first | rfl | omega)) ?_
      exact W.iret hx hb hr (fun t ht hW => ⟨⟨_, (), rfl, rfl, (by show va_P _ _ _ t.heap; rw [ht]; exact hP)⟩, hS.F ht⟩) hS.2.2 dX1_setPride_34
  ·
    exfalso
    omega
set_option maxHeartbeats 4000000 in
set_option maxRecDepth 100000 in
theorem v_X1_apologize (l : Launch) (G : zG) (x : Nat) (a : Nat → Nat) (sz : Nat) (B : Nat) (σ : zS) (t : Nat) (k : Nat) (w : Int) (hI : zI B σ) (hk : k < σ.1 1) (hw : 1 ≤ w ∧ w ≤ 20) (ho : σ.2 5 k = 0) : Met l yX1_apologize wsX1_apologize ({ frames := 2, cells := 0, slots := 0, locals := 46 } : Room) (va_Pc [.ref x, .int (iI (k : Int)), .int (iI w)] (wM G x a t σ sz)) (va_Qi (fun r (_ : Unit) => r = iI ((apo σ k w).2 4 k)) (fun _ t9 => va_P G.1 vwCl (mW G x a 0 (apo σ k w)) t9.heap) (zA x a sz)) 0 0 (zA x a sz) := by
  refine Met.ofW (cc := cX1_apologize) (maxL := 3) (ret := (some .int)) (by decide) rfl ?_
  intro pp ee s m args below meth c s₁ B9 hml hv
  obtain ⟨rfl, hsz, hP, hK, hD0⟩ := hv
  subst hsz
  have hD := mW_zA (sz := s.heap.size) hD0
  have hS : va_S (zA x a s.heap.size) s.heap s.heap [] := va_S.rf
  have hx := B9.exec
  have hb := B9.bytes
  have hr := B9.returns
  have hts := atoms_spec (ws := wsX1_apologize) B9.pre
  have hown : s.vm.findClass RX1 = some m.cls := findClass_of_methodNamed B9.named
  have hlocks := B9.notSynchronized
  have hin0 : ∀ w ∈ wsX10, w ∈ wsX1_apologize := by decide +kernel
  have w_0 := hts (.fieldLink RX1 35 "ApologyLedgerModel" "thrown" "I") (by decide +kernel)
  have w_1 := hts (.fieldLink RX1 23 "ApologyLedgerModel" "weight" "[I") (by decide +kernel)
  have w_2 := hts (.fieldLink RX1 89 "ApologyLedgerModel" "scorned" "I") (by decide +kernel)
  have hl := lv_entry ([.ref x, .int (iI (k : Int)), .int (iI w)]) (n := 3) (Nat.le_of_ble_eq_true rfl)
  rw [lg_entry_eq]
  generalize (lg_sl ([.ref x, .int (iI (k : Int)), .int (iI w)]) ++ List.replicate (3 - (lg_sl ([.ref x, .int (iI (k : Int)), .int (iI w)])).length) Slot.unset).toArray = ls at hl ⊢
  have hl : lv_has ls 3 [(0, .ref x), (1, .int (iI (k : Int))), (2, .int (iI w))] := hl
  have hIn := hI.n
  have hIb := hI.b
  have g4 := hI.r4 k
  have g5 := hI.r5 k
  refine lv_aload_n hx hb dX1_apologize_0 rfl (lv_at hl 0 rfl) ?_
  refine lv_iconst (v := iI 0) hx hb dX1_apologize_1 rfl ?_
  refine z_re (v' := iI ((0 : Nat) : Int)) (congrArg iI (by omega)) ?_
  refine m_put hx hb hts hin0 hown hK hP hD hS 0 rfl 0 (by decide) w_0 rfl (by decide +kernel) (Nat.le_of_ble_eq_true rfl) mW_put0 dX1_apologize_2 (fun H locs hP hD hS => ?_)
  refine lv_aload_n hx hb dX1_apologize_5 rfl (lv_at hl 0 rfl) ?_
  refine lv_iload_n hx hb dX1_apologize_6 rfl (lv_at hl 1 rfl) ?_
  refine zc_i (va_runV (As := [.int (iI (k : Int))]) (rest := []) ⟨hx, hb, hml, hown, hts⟩ (c_X1_isSlight l G x a σ 0 (k : Int) (by omega) (by omega)) (cwV 1 hts gX1_apologize_X1_isSlight rfl rfl rfl (by decide +kernel) ⟨Nat.le_of_ble_eq_true rfl, Nat.le_of_ble_eq_true rfl⟩) (preVM hK hP) rfl rfl hl.1 rfl (lv_room (Nat.le_of_ble_eq_true rfl)) dX1_apologize_7 ⟨Nat.le_of_ble_eq_true rfl, Nat.le_of_ble_eq_true rfl⟩) ?_
  have f_1 := inn_or (k : Int) 0 ((σ.1 1 : Nat) - 1)
  refine z_if_ne (tgt := 19) hx hb dX1_apologize_10 (by decide) (by omega) (fun c_2 => ?_) (fun c_2 => ?_)
  ·
    refine lv_iload_n hx hb dX1_apologize_19 rfl (lv_at hl 2 rfl) ?_
    refine lv_iconst (v := iI 1) hx hb dX1_apologize_20 rfl ?_
    refine lv_bipush (v := iI 20) hx hb dX1_apologize_21 (by decide) ?_
    refine zc_i (va_runS (As := [.int (iI w), .int (iI 1), .int (iI 20)]) (rest := []) ⟨hx, hb, hml, hown, hts⟩ (c_X1_isIn l  w 1 20 (by omega) (by omega) (by omega)) (va_cwS 3 hts gX1_apologize_X1_isIn rfl rfl rfl (by decide +kernel) ⟨Nat.le_of_ble_eq_true rfl, Nat.le_of_ble_eq_true rfl⟩) preS0 rfl rfl hl.1 rfl (lv_room (Nat.le_of_ble_eq_true rfl)) dX1_apologize_23 ⟨Nat.le_of_ble_eq_true rfl, Nat.le_of_ble_eq_true rfl⟩) ?_
    have f_3 := inn_or w 1 20
    refine z_if_ne (tgt := 35) hx hb dX1_apologize_26 (by decide) (by omega) (fun c_4 => ?_) (fun c_4 => ?_)
    ·
      refine lv_aload_n hx hb dX1_apologize_35 rfl (lv_at hl 0 rfl) ?_
      refine lv_iload_n hx hb dX1_apologize_36 rfl (lv_at hl 1 rfl) ?_
      refine zc_i (va_runV (As := [.int (iI (k : Int))]) (rest := []) ⟨hx, hb, hml, hown, hts⟩ (c_X1_isOpen l G x a σ 0 k (by omega) (by omega)) (cwV 1 hts gX1_apologize_X1_isOpen rfl rfl rfl (by decide +kernel) ⟨Nat.le_of_ble_eq_true rfl, Nat.le_of_ble_eq_true rfl⟩) (preVM hK hP) rfl rfl hl.1 rfl (lv_room (Nat.le_of_ble_eq_true rfl)) dX1_apologize_37 ⟨Nat.le_of_ble_eq_true rfl, Nat.le_of_ble_eq_true rfl⟩) ?_
      have f_5 := opn_or σ k
      refine z_if_ne (tgt := 49) hx hb dX1_apologize_40 (by decide) (by omega) (fun c_6 => ?_) (fun c_6 => ?_)
      ·
        refine lv_aload_n hx hb dX1_apologize_49 rfl (lv_at hl 0 rfl) ?_
        refine lv_iload_n hx hb dX1_apologize_50 rfl (lv_at hl 1 rfl) ?_
        refine lv_iload_n hx hb dX1_apologize_51 rfl (lv_at hl 2 rfl) ?_
        refine zc_i (va_runV (As := [.int (iI (k : Int)), .int (iI w)]) (rest := []) ⟨hx, hb, hml, hown, hts⟩ (c_X1_isScorned l G x a B σ 0 k w hI (by omega) (by omega)) (cwV 2 hts gX1_apologize_X1_isScorned rfl rfl rfl (by decide +kernel) ⟨Nat.le_of_ble_eq_true rfl, Nat.le_of_ble_eq_true rfl⟩) (preVM hK hP) rfl rfl hl.1 rfl (lv_room (Nat.le_of_ble_eq_true rfl)) dX1_apologize_52 ⟨Nat.le_of_ble_eq_true rfl, Nat.le_of_ble_eq_true rfl⟩) ?_
        have f_7 := scn_or σ k w
        refine z_if_eq (tgt := 80) hx hb dX1_apologize_55 (by decide) (by omega) (fun c_8 => ?_) (fun c_8 => ?_)
        ·
          refine lv_aload_n hx hb dX1_apologize_80 rfl (lv_at hl 0 rfl) ?_
          refine m_get (v := .ref (a 4)) hx hb hts hin0 hown hK hP 0 rfl 9 (by decide) w_1 rfl dX1_apologize_81 ?_
          refine lv_iload_n hx hb dX1_apologize_84 rfl (lv_at hl 1 rfl) ?_
          refine lv_dup2_11 hx hb dX1_apologize_85 rfl rfl ?_
          refine z_iald (v := iI (σ.2 4 k)) hx hb hK hP 5 0 rfl rfl (k := k) (by omega) (by decide) rfl dX1_apologize_86 ?_
          have f_9 := hI.r4 k
          refine lv_iload_n hx hb dX1_apologize_87 rfl (lv_at hl 2 rfl) ?_
          refine lv_iconst (v := iI 2) hx hb dX1_apologize_88 rfl ?_
          refine lv_aload_n hx hb dX1_apologize_89 rfl (lv_at hl 0 rfl) ?_
          refine lv_iload_n hx hb dX1_apologize_90 rfl (lv_at hl 1 rfl) ?_
          refine zc_i (va_runV (As := [.int (iI (k : Int))]) (rest := [.int (iI 2), .int (iI w), .int (iI (σ.2 4 k)), .int (iI (k : Int)), .ref (a 4)]) ⟨hx, hb, hml, hown, hts⟩ (c_X1_witnesses l G x a B σ 0 k hI (by omega)) (cwV 1 hts gX1_apologize_X1_witnesses rfl rfl rfl (by decide +kernel) ⟨Nat.le_of_ble_eq_true rfl, Nat.le_of_ble_eq_true rfl⟩) (preVM hK hP) rfl rfl hl.1 rfl (lv_room (Nat.le_of_ble_eq_true rfl)) dX1_apologize_91 ⟨Nat.le_of_ble_eq_true rfl, Nat.le_of_ble_eq_true rfl⟩) ?_
          have f_10 := wit_bd hI k
          refine z_imul hx hb dX1_apologize_94 ?_
          refine z_iadd hx hb dX1_apologize_95 ?_
          refine z_isub hx hb dX1_apologize_96 ?_
          refine z_iast hx hb hK hP hD hS 5 0 rfl rfl (k := k) (by omega) (by decide) mW_set4 dX1_apologize_97 (fun H locs hP hD hS => ?_)
          refine lv_aload_n hx hb dX1_apologize_98 rfl (lv_at hl 0 rfl) ?_
          refine m_get (v := .ref (a 4)) hx hb hts hin0 hown hK hP 0 rfl 9 (by decide) w_1 rfl dX1_apologize_99 ?_
          refine lv_iload_n hx hb dX1_apologize_102 rfl (lv_at hl 1 rfl) ?_
          refine z_iald (v := iI ((σ.2 4 k) - (w + (2 * (wit σ k))))) hx hb hK hP 5 0 rfl rfl (k := k) (by omega) (by decide) (congrArg iI (by simp [stA, stS])) dX1_apologize_103 ?_
          refine z_if_gt (tgt := 113) hx hb dX1_apologize_104 (by decide) (by omega) (fun c_11 => ?_) (fun c_11 => ?_)
          ·
            refine lv_aload_n hx hb dX1_apologize_113 rfl (lv_at hl 0 rfl) ?_
            refine m_get (v := .ref (a 4)) hx hb hts hin0 hown hK hP 0 rfl 9 (by decide) w_1 rfl dX1_apologize_114 ?_
            refine lv_iload_n hx hb dX1_apologize_117 rfl (lv_at hl 1 rfl) ?_
            refine z_iald (v := iI ((σ.2 4 k) - (w + (2 * (wit σ k))))) hx hb hK hP 5 0 rfl rfl (k := k) (by omega) (by decide) (congrArg iI (by simp [stA, stS])) dX1_apologize_118 ?_
            have hfin : (stA σ 4 k ((σ.2 4 k) - (w + (2 * (wit σ k))))) = apo σ k w := by first | exact (if_pos (by omega)).symm | (unfold apo; rw [if_neg (by omega)]; unfold lit; first | rw [if_pos (by omega)] | (rw [if_neg (by omega)]; exact clo_st))
            rw [hfin] at hP
            have hfit : 0 = 0 := by rfl
            rw [hfit] at hP
            refine z_re (v' := iI ((apo σ k w).2 4 k)) (congrArg iI (by rw [← hfin]; first | done | simp [stA, stS])) ?_
            exact W.iret hx hb hr (fun t ht hW => ⟨⟨_, (), rfl, rfl, (by show va_P _ _ _ t.heap; rw [ht]; exact hP)⟩, hS.F ht⟩) hS.2.2 dX1_apologize_119
          ·
            refine lv_aload_n hx hb dX1_apologize_107 rfl (lv_at hl 0 rfl) ?_
            refine lv_iload_n hx hb dX1_apologize_108 rfl (lv_at hl 1 rfl) ?_
            refine lv_iconst (v := iI 1) hx hb dX1_apologize_109 rfl ?_
            refine zc_wv (va_runV (As := [.int (iI (k : Int)), .int (iI 1)]) (rest := []) ⟨hx, hb, hml, hown, hts⟩ (c_X1_close l G x a _ (stA σ 4 k ((σ.2 4 k) - (w + (2 * (wit σ k))))) 0 k 1 (by omega)) (cwV 2 hts gX1_apologize_X1_close rfl rfl rfl (by decide +kernel) ⟨Nat.le_of_ble_eq_true rfl, Nat.le_of_ble_eq_true rfl⟩) (preWM hK hP hD) rfl rfl hl.1 rfl (lv_room (Nat.le_of_ble_eq_true rfl)) dX1_apologize_110 ⟨Nat.le_of_ble_eq_true rfl, Nat.le_of_ble_eq_true rfl⟩) hS (fun q h => zA_mono hS.1 h) (fun H locs hP hS _ _ => ?_)
            have hD := mW_D (t' := 0) (σ' := (clo (stA σ 4 k ((σ.2 4 k) - (w + (2 * (wit σ k))))) k 1)) hD
            refine lv_aload_n hx hb dX1_apologize_113 rfl (lv_at hl 0 rfl) ?_
            refine m_get (v := .ref (a 4)) hx hb hts hin0 hown hK hP 0 rfl 9 (by decide) w_1 rfl dX1_apologize_114 ?_
            refine lv_iload_n hx hb dX1_apologize_117 rfl (lv_at hl 1 rfl) ?_
            refine z_iald (v := iI ((clo (stA σ 4 k ((σ.2 4 k) - (w + (2 * (wit σ k))))) k 1).2 4 k)) hx hb hK hP 5 0 rfl rfl (k := k) (by omega) (by decide) rfl dX1_apologize_118 ?_
            have hfin : (clo (stA σ 4 k ((σ.2 4 k) - (w + (2 * (wit σ k))))) k 1) = apo σ k w := by first | exact (if_pos (by omega)).symm | (unfold apo; rw [if_neg (by omega)]; unfold lit; first | rw [if_pos (by omega)] | (rw [if_neg (by omega)]; exact clo_st))
            rw [hfin] at hP
            have hfit : 0 = 0 := by rfl
            rw [hfit] at hP
            refine z_re (v' := iI ((apo σ k w).2 4 k)) (congrArg iI (by rw [← hfin]; first | done | simp [stA, stS])) ?_
            exact W.iret hx hb hr (fun t ht hW => ⟨⟨_, (), rfl, rfl, (by show va_P _ _ _ t.heap; rw [ht]; exact hP)⟩, hS.F ht⟩) hS.2.2 dX1_apologize_119
        ·
          refine lv_aload_n hx hb dX1_apologize_58 rfl (lv_at hl 0 rfl) ?_
          refine lv_dup hx hb dX1_apologize_59 rfl ?_
          refine m_get (v := .int (iI (σ.1 3 : Nat))) hx hb hts hin0 hown hK hP 0 rfl 2 (by decide) w_2 rfl dX1_apologize_60 ?_
          refine lv_iconst (v := iI 1) hx hb dX1_apologize_63 rfl ?_
          refine z_iadd hx hb dX1_apologize_64 ?_
          refine z_re (v' := iI (((σ.1 3) + 1 : Nat) : Int)) (congrArg iI (by omega)) ?_
          refine m_put hx hb hts hin0 hown hK hP hD hS 0 rfl 2 (by decide) w_2 rfl (by decide +kernel) (Nat.le_of_ble_eq_true rfl) mW_put2 dX1_apologize_65 (fun H locs hP hD hS => ?_)
          refine lv_aload_n hx hb dX1_apologize_68 rfl (lv_at hl 0 rfl) ?_
          refine lv_iload_n hx hb dX1_apologize_69 rfl (lv_at hl 1 rfl) ?_
          refine zc_wv (va_runV (As := [.int (iI (k : Int))]) (rest := []) ⟨hx, hb, hml, hown, hts⟩ (c_X1_speak l G x a _ (stS σ 3 ((σ.1 3) + 1)) 0 k (by omega) g4) (cwV 1 hts gX1_apologize_X1_speak rfl rfl rfl (by decide +kernel) ⟨Nat.le_of_ble_eq_true rfl, Nat.le_of_ble_eq_true rfl⟩) (preWM hK hP hD) rfl rfl hl.1 rfl (lv_room (Nat.le_of_ble_eq_true rfl)) dX1_apologize_70 ⟨Nat.le_of_ble_eq_true rfl, Nat.le_of_ble_eq_true rfl⟩) hS (fun q h => zA_mono hS.1 h) (fun H locs hP hS _ _ => ?_)
          have hD := mW_D (t' := 0) (σ' := (spk (stS σ 3 ((σ.1 3) + 1)) k)) hD
          refine lv_aload_n hx hb dX1_apologize_73 rfl (lv_at hl 0 rfl) ?_
          refine m_get (v := .ref (a 4)) hx hb hts hin0 hown hK hP 0 rfl 9 (by decide) w_1 rfl dX1_apologize_74 ?_
          refine lv_iload_n hx hb dX1_apologize_77 rfl (lv_at hl 1 rfl) ?_
          refine z_iald (v := iI ((spk (stS σ 3 ((σ.1 3) + 1)) k).2 4 k)) hx hb hK hP 5 0 rfl rfl (k := k) (by omega) (by decide) rfl dX1_apologize_78 ?_
          have hfin : (spk (stS σ 3 ((σ.1 3) + 1)) k) = apo σ k w := by first | exact (if_pos (by omega)).symm | (unfold apo; rw [if_neg (by omega)]; unfold lit; first | rw [if_pos (by omega)] | (rw [if_neg (by omega)]; exact clo_st))
          rw [hfin] at hP
          have hfit : 0 = 0 := by rfl
          rw [hfit] at hP
          refine z_re (v' := iI ((apo σ k w).2 4 k)) (congrArg iI (by rw [← hfin]; first | done | simp [stA, stS])) ?_
          exact W.iret hx hb hr (fun t ht hW => ⟨⟨_, (), rfl, rfl, (by show va_P _ _ _ t.heap; rw [ht]; exact hP)⟩, hS.F ht⟩) hS.2.2 dX1_apologize_79
      ·
        exfalso
        omega
    ·
      exfalso
      omega
  ·
    exfalso
    omega
set_option maxHeartbeats 4000000 in
set_option maxRecDepth 100000 in
theorem e1_X1_apologize (l : Launch) (G : zG) (x : Nat) (a : Nat → Nat) (sz : Nat) (B : Nat) (σ : zS) (t : Nat) (z : Int) (w : Int) (hI : zI B σ) (hzb : -2147483648 ≤ z ∧ z < 2147483648) (hbad : z < 0 ∨ (σ.1 1 : Int) ≤ z) : Met l yX1_apologize wsX1_apologize ({ frames := 2, cells := 0, slots := 0, locals := 43 } : Room) (va_Pc [.ref x, .int (iI z), .int (iI w)] (wM G x a t σ sz)) (va_Qi (fun r (_ : Unit) => r = iI 0) (fun _ t9 => va_P G.1 vwCl (mW G x a 1 σ) t9.heap) (zA x a sz)) 0 0 (zA x a sz) := by
  refine Met.ofW (cc := cX1_apologize) (maxL := 3) (ret := (some .int)) (by decide) rfl ?_
  intro pp ee s m args below meth c s₁ B9 hml hv
  obtain ⟨rfl, hsz, hP, hK, hD0⟩ := hv
  subst hsz
  have hD := mW_zA (sz := s.heap.size) hD0
  have hS : va_S (zA x a s.heap.size) s.heap s.heap [] := va_S.rf
  have hx := B9.exec
  have hb := B9.bytes
  have hr := B9.returns
  have hts := atoms_spec (ws := wsX1_apologize) B9.pre
  have hown : s.vm.findClass RX1 = some m.cls := findClass_of_methodNamed B9.named
  have hlocks := B9.notSynchronized
  have hin0 : ∀ w ∈ wsX10, w ∈ wsX1_apologize := by decide +kernel
  have w_0 := hts (.fieldLink RX1 35 "ApologyLedgerModel" "thrown" "I") (by decide +kernel)
  have hl := lv_entry ([.ref x, .int (iI z), .int (iI w)]) (n := 3) (Nat.le_of_ble_eq_true rfl)
  rw [lg_entry_eq]
  generalize (lg_sl ([.ref x, .int (iI z), .int (iI w)]) ++ List.replicate (3 - (lg_sl ([.ref x, .int (iI z), .int (iI w)])).length) Slot.unset).toArray = ls at hl ⊢
  have hl : lv_has ls 3 [(0, .ref x), (1, .int (iI z)), (2, .int (iI w))] := hl
  have hIn := hI.n
  have hIb := hI.b
  refine lv_aload_n hx hb dX1_apologize_0 rfl (lv_at hl 0 rfl) ?_
  refine lv_iconst (v := iI 0) hx hb dX1_apologize_1 rfl ?_
  refine z_re (v' := iI ((0 : Nat) : Int)) (congrArg iI (by omega)) ?_
  refine m_put hx hb hts hin0 hown hK hP hD hS 0 rfl 0 (by decide) w_0 rfl (by decide +kernel) (Nat.le_of_ble_eq_true rfl) mW_put0 dX1_apologize_2 (fun H locs hP hD hS => ?_)
  refine lv_aload_n hx hb dX1_apologize_5 rfl (lv_at hl 0 rfl) ?_
  refine lv_iload_n hx hb dX1_apologize_6 rfl (lv_at hl 1 rfl) ?_
  refine zc_i (va_runV (As := [.int (iI z)]) (rest := []) ⟨hx, hb, hml, hown, hts⟩ (c_X1_isSlight l G x a σ 0 z (by omega) (by omega)) (cwV 1 hts gX1_apologize_X1_isSlight rfl rfl rfl (by decide +kernel) ⟨Nat.le_of_ble_eq_true rfl, Nat.le_of_ble_eq_true rfl⟩) (preVM hK hP) rfl rfl hl.1 rfl (lv_room (Nat.le_of_ble_eq_true rfl)) dX1_apologize_7 ⟨Nat.le_of_ble_eq_true rfl, Nat.le_of_ble_eq_true rfl⟩) ?_
  have f_1 := inn_or z 0 ((σ.1 1 : Nat) - 1)
  refine z_if_ne (tgt := 19) hx hb dX1_apologize_10 (by decide) (by omega) (fun c_2 => ?_) (fun c_2 => ?_)
  ·
    exfalso
    omega
  ·
    refine lv_aload_n hx hb dX1_apologize_13 rfl (lv_at hl 0 rfl) ?_
    refine lv_iconst (v := iI 1) hx hb dX1_apologize_14 rfl ?_
    refine z_re (v' := iI ((1 : Nat) : Int)) (congrArg iI (by omega)) ?_
    refine zc_wi (va_runV (As := [.int (iI ((1 : Nat) : Int))]) (rest := []) ⟨hx, hb, hml, hown, hts⟩ (c_X1_no l G x a _ σ 0 1) (cwV 1 hts gX1_apologize_X1_no rfl rfl rfl (by decide +kernel) ⟨Nat.le_of_ble_eq_true rfl, Nat.le_of_ble_eq_true rfl⟩) (preWM hK hP hD) rfl rfl hl.1 rfl (lv_room (Nat.le_of_ble_eq_true rfl)) dX1_apologize_15 ⟨Nat.le_of_ble_eq_true rfl, Nat.le_of_ble_eq_true rfl⟩) hS (fun q h => zA_mono hS.1 h) (fun H locs hP hS _ _ => ?_)
    have hD := mW_D (t' := 1) (σ' := σ) hD
    have hfin : σ = σ := by rfl
    rw [hfin] at hP
    have hfit : 1 = 1 := by rfl
    rw [hfit] at hP
    refine z_re (v' := iI 0) (congrArg iI (by first | rfl | omega)) ?_
    exact W.iret hx hb hr (fun t ht hW => ⟨⟨_, (), rfl, rfl, (by show va_P _ _ _ t.heap; rw [ht]; exact hP)⟩, hS.F ht⟩) hS.2.2 dX1_apologize_18
set_option maxHeartbeats 4000000 in
set_option maxRecDepth 100000 in
theorem e2_X1_apologize (l : Launch) (G : zG) (x : Nat) (a : Nat → Nat) (sz : Nat) (B : Nat) (σ : zS) (t : Nat) (k : Nat) (z : Int) (hI : zI B σ) (hk : k < σ.1 1) (hzb : -2147483648 ≤ z ∧ z < 2147483648) (hbad : z < 1 ∨ 20 < z) : Met l yX1_apologize wsX1_apologize ({ frames := 2, cells := 0, slots := 0, locals := 43 } : Room) (va_Pc [.ref x, .int (iI (k : Int)), .int (iI z)] (wM G x a t σ sz)) (va_Qi (fun r (_ : Unit) => r = iI 0) (fun _ t9 => va_P G.1 vwCl (mW G x a 2 σ) t9.heap) (zA x a sz)) 0 0 (zA x a sz) := by
  refine Met.ofW (cc := cX1_apologize) (maxL := 3) (ret := (some .int)) (by decide) rfl ?_
  intro pp ee s m args below meth c s₁ B9 hml hv
  obtain ⟨rfl, hsz, hP, hK, hD0⟩ := hv
  subst hsz
  have hD := mW_zA (sz := s.heap.size) hD0
  have hS : va_S (zA x a s.heap.size) s.heap s.heap [] := va_S.rf
  have hx := B9.exec
  have hb := B9.bytes
  have hr := B9.returns
  have hts := atoms_spec (ws := wsX1_apologize) B9.pre
  have hown : s.vm.findClass RX1 = some m.cls := findClass_of_methodNamed B9.named
  have hlocks := B9.notSynchronized
  have hin0 : ∀ w ∈ wsX10, w ∈ wsX1_apologize := by decide +kernel
  have w_0 := hts (.fieldLink RX1 35 "ApologyLedgerModel" "thrown" "I") (by decide +kernel)
  have hl := lv_entry ([.ref x, .int (iI (k : Int)), .int (iI z)]) (n := 3) (Nat.le_of_ble_eq_true rfl)
  rw [lg_entry_eq]
  generalize (lg_sl ([.ref x, .int (iI (k : Int)), .int (iI z)]) ++ List.replicate (3 - (lg_sl ([.ref x, .int (iI (k : Int)), .int (iI z)])).length) Slot.unset).toArray = ls at hl ⊢
  have hl : lv_has ls 3 [(0, .ref x), (1, .int (iI (k : Int))), (2, .int (iI z))] := hl
  have hIn := hI.n
  have hIb := hI.b
  refine lv_aload_n hx hb dX1_apologize_0 rfl (lv_at hl 0 rfl) ?_
  refine lv_iconst (v := iI 0) hx hb dX1_apologize_1 rfl ?_
  refine z_re (v' := iI ((0 : Nat) : Int)) (congrArg iI (by omega)) ?_
  refine m_put hx hb hts hin0 hown hK hP hD hS 0 rfl 0 (by decide) w_0 rfl (by decide +kernel) (Nat.le_of_ble_eq_true rfl) mW_put0 dX1_apologize_2 (fun H locs hP hD hS => ?_)
  refine lv_aload_n hx hb dX1_apologize_5 rfl (lv_at hl 0 rfl) ?_
  refine lv_iload_n hx hb dX1_apologize_6 rfl (lv_at hl 1 rfl) ?_
  refine zc_i (va_runV (As := [.int (iI (k : Int))]) (rest := []) ⟨hx, hb, hml, hown, hts⟩ (c_X1_isSlight l G x a σ 0 (k : Int) (by omega) (by omega)) (cwV 1 hts gX1_apologize_X1_isSlight rfl rfl rfl (by decide +kernel) ⟨Nat.le_of_ble_eq_true rfl, Nat.le_of_ble_eq_true rfl⟩) (preVM hK hP) rfl rfl hl.1 rfl (lv_room (Nat.le_of_ble_eq_true rfl)) dX1_apologize_7 ⟨Nat.le_of_ble_eq_true rfl, Nat.le_of_ble_eq_true rfl⟩) ?_
  have f_1 := inn_or (k : Int) 0 ((σ.1 1 : Nat) - 1)
  refine z_if_ne (tgt := 19) hx hb dX1_apologize_10 (by decide) (by omega) (fun c_2 => ?_) (fun c_2 => ?_)
  ·
    refine lv_iload_n hx hb dX1_apologize_19 rfl (lv_at hl 2 rfl) ?_
    refine lv_iconst (v := iI 1) hx hb dX1_apologize_20 rfl ?_
    refine lv_bipush (v := iI 20) hx hb dX1_apologize_21 (by decide) ?_
    refine zc_i (va_runS (As := [.int (iI z), .int (iI 1), .int (iI 20)]) (rest := []) ⟨hx, hb, hml, hown, hts⟩ (c_X1_isIn l  z 1 20 (by omega) (by omega) (by omega)) (va_cwS 3 hts gX1_apologize_X1_isIn rfl rfl rfl (by decide +kernel) ⟨Nat.le_of_ble_eq_true rfl, Nat.le_of_ble_eq_true rfl⟩) preS0 rfl rfl hl.1 rfl (lv_room (Nat.le_of_ble_eq_true rfl)) dX1_apologize_23 ⟨Nat.le_of_ble_eq_true rfl, Nat.le_of_ble_eq_true rfl⟩) ?_
    have f_3 := inn_or z 1 20
    refine z_if_ne (tgt := 35) hx hb dX1_apologize_26 (by decide) (by omega) (fun c_4 => ?_) (fun c_4 => ?_)
    ·
      exfalso
      omega
    ·
      refine lv_aload_n hx hb dX1_apologize_29 rfl (lv_at hl 0 rfl) ?_
      refine lv_iconst (v := iI 2) hx hb dX1_apologize_30 rfl ?_
      refine z_re (v' := iI ((2 : Nat) : Int)) (congrArg iI (by omega)) ?_
      refine zc_wi (va_runV (As := [.int (iI ((2 : Nat) : Int))]) (rest := []) ⟨hx, hb, hml, hown, hts⟩ (c_X1_no l G x a _ σ 0 2) (cwV 1 hts gX1_apologize_X1_no rfl rfl rfl (by decide +kernel) ⟨Nat.le_of_ble_eq_true rfl, Nat.le_of_ble_eq_true rfl⟩) (preWM hK hP hD) rfl rfl hl.1 rfl (lv_room (Nat.le_of_ble_eq_true rfl)) dX1_apologize_31 ⟨Nat.le_of_ble_eq_true rfl, Nat.le_of_ble_eq_true rfl⟩) hS (fun q h => zA_mono hS.1 h) (fun H locs hP hS _ _ => ?_)
      have hD := mW_D (t' := 2) (σ' := σ) hD
      have hfin : σ = σ := by rfl
      rw [hfin] at hP
      have hfit : 2 = 2 := by rfl
      rw [hfit] at hP
      refine z_re (v' := iI 0) (congrArg iI (by first | rfl | omega)) ?_
      exact W.iret hx hb hr (fun t ht hW => ⟨⟨_, (), rfl, rfl, (by show va_P _ _ _ t.heap; rw [ht]; exact hP)⟩, hS.F ht⟩) hS.2.2 dX1_apologize_34
  ·
    exfalso
    omega
set_option maxHeartbeats 4000000 in
set_option maxRecDepth 100000 in
theorem e3_X1_apologize (l : Launch) (G : zG) (x : Nat) (a : Nat → Nat) (sz : Nat) (B : Nat) (σ : zS) (t : Nat) (k : Nat) (w : Int) (hI : zI B σ) (hk : k < σ.1 1) (hw : 1 ≤ w ∧ w ≤ 20) (ho : σ.2 5 k ≠ 0) : Met l yX1_apologize wsX1_apologize ({ frames := 2, cells := 0, slots := 0, locals := 43 } : Room) (va_Pc [.ref x, .int (iI (k : Int)), .int (iI w)] (wM G x a t σ sz)) (va_Qi (fun r (_ : Unit) => r = iI 0) (fun _ t9 => va_P G.1 vwCl (mW G x a 3 σ) t9.heap) (zA x a sz)) 0 0 (zA x a sz) := by
  refine Met.ofW (cc := cX1_apologize) (maxL := 3) (ret := (some .int)) (by decide) rfl ?_
  intro pp ee s m args below meth c s₁ B9 hml hv
  obtain ⟨rfl, hsz, hP, hK, hD0⟩ := hv
  subst hsz
  have hD := mW_zA (sz := s.heap.size) hD0
  have hS : va_S (zA x a s.heap.size) s.heap s.heap [] := va_S.rf
  have hx := B9.exec
  have hb := B9.bytes
  have hr := B9.returns
  have hts := atoms_spec (ws := wsX1_apologize) B9.pre
  have hown : s.vm.findClass RX1 = some m.cls := findClass_of_methodNamed B9.named
  have hlocks := B9.notSynchronized
  have hin0 : ∀ w ∈ wsX10, w ∈ wsX1_apologize := by decide +kernel
  have w_0 := hts (.fieldLink RX1 35 "ApologyLedgerModel" "thrown" "I") (by decide +kernel)
  have hl := lv_entry ([.ref x, .int (iI (k : Int)), .int (iI w)]) (n := 3) (Nat.le_of_ble_eq_true rfl)
  rw [lg_entry_eq]
  generalize (lg_sl ([.ref x, .int (iI (k : Int)), .int (iI w)]) ++ List.replicate (3 - (lg_sl ([.ref x, .int (iI (k : Int)), .int (iI w)])).length) Slot.unset).toArray = ls at hl ⊢
  have hl : lv_has ls 3 [(0, .ref x), (1, .int (iI (k : Int))), (2, .int (iI w))] := hl
  have hIn := hI.n
  have hIb := hI.b
  have g4 := hI.r4 k
  have g5 := hI.r5 k
  refine lv_aload_n hx hb dX1_apologize_0 rfl (lv_at hl 0 rfl) ?_
  refine lv_iconst (v := iI 0) hx hb dX1_apologize_1 rfl ?_
  refine z_re (v' := iI ((0 : Nat) : Int)) (congrArg iI (by omega)) ?_
  refine m_put hx hb hts hin0 hown hK hP hD hS 0 rfl 0 (by decide) w_0 rfl (by decide +kernel) (Nat.le_of_ble_eq_true rfl) mW_put0 dX1_apologize_2 (fun H locs hP hD hS => ?_)
  refine lv_aload_n hx hb dX1_apologize_5 rfl (lv_at hl 0 rfl) ?_
  refine lv_iload_n hx hb dX1_apologize_6 rfl (lv_at hl 1 rfl) ?_
  refine zc_i (va_runV (As := [.int (iI (k : Int))]) (rest := []) ⟨hx, hb, hml, hown, hts⟩ (c_X1_isSlight l G x a σ 0 (k : Int) (by omega) (by omega)) (cwV 1 hts gX1_apologize_X1_isSlight rfl rfl rfl (by decide +kernel) ⟨Nat.le_of_ble_eq_true rfl, Nat.le_of_ble_eq_true rfl⟩) (preVM hK hP) rfl rfl hl.1 rfl (lv_room (Nat.le_of_ble_eq_true rfl)) dX1_apologize_7 ⟨Nat.le_of_ble_eq_true rfl, Nat.le_of_ble_eq_true rfl⟩) ?_
  have f_1 := inn_or (k : Int) 0 ((σ.1 1 : Nat) - 1)
  refine z_if_ne (tgt := 19) hx hb dX1_apologize_10 (by decide) (by omega) (fun c_2 => ?_) (fun c_2 => ?_)
  ·
    refine lv_iload_n hx hb dX1_apologize_19 rfl (lv_at hl 2 rfl) ?_
    refine lv_iconst (v := iI 1) hx hb dX1_apologize_20 rfl ?_
    refine lv_bipush (v := iI 20) hx hb dX1_apologize_21 (by decide) ?_
    refine zc_i (va_runS (As := [.int (iI w), .int (iI 1), .int (iI 20)]) (rest := []) ⟨hx, hb, hml, hown, hts⟩ (c_X1_isIn l  w 1 20 (by omega) (by omega) (by omega)) (va_cwS 3 hts gX1_apologize_X1_isIn rfl rfl rfl (by decide +kernel) ⟨Nat.le_of_ble_eq_true rfl, Nat.le_of_ble_eq_true rfl⟩) preS0 rfl rfl hl.1 rfl (lv_room (Nat.le_of_ble_eq_true rfl)) dX1_apologize_23 ⟨Nat.le_of_ble_eq_true rfl, Nat.le_of_ble_eq_true rfl⟩) ?_
    have f_3 := inn_or w 1 20
    refine z_if_ne (tgt := 35) hx hb dX1_apologize_26 (by decide) (by omega) (fun c_4 => ?_) (fun c_4 => ?_)
    ·
      refine lv_aload_n hx hb dX1_apologize_35 rfl (lv_at hl 0 rfl) ?_
      refine lv_iload_n hx hb dX1_apologize_36 rfl (lv_at hl 1 rfl) ?_
      refine zc_i (va_runV (As := [.int (iI (k : Int))]) (rest := []) ⟨hx, hb, hml, hown, hts⟩ (c_X1_isOpen l G x a σ 0 k (by omega) (by omega)) (cwV 1 hts gX1_apologize_X1_isOpen rfl rfl rfl (by decide +kernel) ⟨Nat.le_of_ble_eq_true rfl, Nat.le_of_ble_eq_true rfl⟩) (preVM hK hP) rfl rfl hl.1 rfl (lv_room (Nat.le_of_ble_eq_true rfl)) dX1_apologize_37 ⟨Nat.le_of_ble_eq_true rfl, Nat.le_of_ble_eq_true rfl⟩) ?_
      have f_5 := opn_or σ k
      refine z_if_ne (tgt := 49) hx hb dX1_apologize_40 (by decide) (by omega) (fun c_6 => ?_) (fun c_6 => ?_)
      ·
        exfalso
        omega
      ·
        refine lv_aload_n hx hb dX1_apologize_43 rfl (lv_at hl 0 rfl) ?_
        refine lv_iconst (v := iI 3) hx hb dX1_apologize_44 rfl ?_
        refine z_re (v' := iI ((3 : Nat) : Int)) (congrArg iI (by omega)) ?_
        refine zc_wi (va_runV (As := [.int (iI ((3 : Nat) : Int))]) (rest := []) ⟨hx, hb, hml, hown, hts⟩ (c_X1_no l G x a _ σ 0 3) (cwV 1 hts gX1_apologize_X1_no rfl rfl rfl (by decide +kernel) ⟨Nat.le_of_ble_eq_true rfl, Nat.le_of_ble_eq_true rfl⟩) (preWM hK hP hD) rfl rfl hl.1 rfl (lv_room (Nat.le_of_ble_eq_true rfl)) dX1_apologize_45 ⟨Nat.le_of_ble_eq_true rfl, Nat.le_of_ble_eq_true rfl⟩) hS (fun q h => zA_mono hS.1 h) (fun H locs hP hS _ _ => ?_)
        have hD := mW_D (t' := 3) (σ' := σ) hD
        have hfin : σ = σ := by rfl
        rw [hfin] at hP
        have hfit : 3 = 3 := by rfl
        rw [hfit] at hP
        refine z_re (v' := iI 0) (congrArg iI (by first | rfl | omega)) ?_
        exact W.iret hx hb hr (fun t ht hW => ⟨⟨_, (), rfl, rfl, (by show va_P _ _ _ t.heap; rw [ht]; exact hP)⟩, hS.F ht⟩) hS.2.2 dX1_apologize_48
    ·
      exfalso
      omega
  ·
    exfalso
    omega
set_option maxHeartbeats 4000000 in
set_option maxRecDepth 100000 in
theorem v_X1_setOff (l : Launch) (G : zG) (x : Nat) (a : Nat → Nat) (sz : Nat) (B : Nat) (σ : zS) (t : Nat) (i : Nat) (o : Nat) (hI : zI B σ) (hi : i < σ.1 1) (ho : o < σ.1 1) (hq : pq σ i o = 1) : Met l yX1_setOff wsX1_setOff ({ frames := 2, cells := 0, slots := 0, locals := 43 } : Room) (va_Pc [.ref x, .int (iI (i : Int)), .int (iI (o : Int))] (wM G x a t σ sz)) (va_Qi (fun r (_ : Unit) => r = iI (min (σ.2 4 i) (σ.2 4 o))) (fun _ t9 => va_P G.1 vwCl (mW G x a 0 (sof σ i o)) t9.heap) (zA x a sz)) 0 0 (zA x a sz) := by
  refine Met.ofW (cc := cX1_setOff) (maxL := 4) (ret := (some .int)) (by decide) rfl ?_
  intro pp ee s m args below meth c s₁ B9 hml hv
  obtain ⟨rfl, hsz, hP, hK, hD0⟩ := hv
  subst hsz
  have hD := mW_zA (sz := s.heap.size) hD0
  have hS : va_S (zA x a s.heap.size) s.heap s.heap [] := va_S.rf
  have hx := B9.exec
  have hb := B9.bytes
  have hr := B9.returns
  have hts := atoms_spec (ws := wsX1_setOff) B9.pre
  have hown : s.vm.findClass RX1 = some m.cls := findClass_of_methodNamed B9.named
  have hlocks := B9.notSynchronized
  have hin0 : ∀ w ∈ wsX10, w ∈ wsX1_setOff := by decide +kernel
  have w_0 := hts (.fieldLink RX1 35 "ApologyLedgerModel" "thrown" "I") (by decide +kernel)
  have w_1 := hts (.fieldLink RX1 23 "ApologyLedgerModel" "weight" "[I") (by decide +kernel)
  have w_2 := hts (.methodLink RX1 49 Lib.Math.min.name) (by decide +kernel)
  have w_3 := hts (.static Lib.Math.min.name) (by decide +kernel)
  have w_4 := hts (.initialized "java/lang/Math") (by decide +kernel)
  have w_5 := hts (.code Lib.Math.min.name Lib.Math.min.code 2 (some .int)) (by decide +kernel)
  have hl := lv_entry ([.ref x, .int (iI (i : Int)), .int (iI (o : Int))]) (n := 4) (Nat.le_of_ble_eq_true rfl)
  rw [lg_entry_eq]
  generalize (lg_sl ([.ref x, .int (iI (i : Int)), .int (iI (o : Int))]) ++ List.replicate (4 - (lg_sl ([.ref x, .int (iI (i : Int)), .int (iI (o : Int))])).length) Slot.unset).toArray = ls at hl ⊢
  have hl : lv_has ls 4 [(0, .ref x), (1, .int (iI (i : Int))), (2, .int (iI (o : Int)))] := hl
  have hIn := hI.n
  have hIb := hI.b
  have g4 := hI.r4 i
  have g5 := hI.r4 o
  have hne := pq_ne hI hi hq
  have hne2 : i ≠ o := fun q => hne q.symm
  refine lv_aload_n hx hb dX1_setOff_0 rfl (lv_at hl 0 rfl) ?_
  refine lv_iconst (v := iI 0) hx hb dX1_setOff_1 rfl ?_
  refine z_re (v' := iI ((0 : Nat) : Int)) (congrArg iI (by omega)) ?_
  refine m_put hx hb hts hin0 hown hK hP hD hS 0 rfl 0 (by decide) w_0 rfl (by decide +kernel) (Nat.le_of_ble_eq_true rfl) mW_put0 dX1_setOff_2 (fun H locs hP hD hS => ?_)
  refine lv_aload_n hx hb dX1_setOff_5 rfl (lv_at hl 0 rfl) ?_
  refine lv_iload_n hx hb dX1_setOff_6 rfl (lv_at hl 1 rfl) ?_
  refine zc_i (va_runV (As := [.int (iI (i : Int))]) (rest := []) ⟨hx, hb, hml, hown, hts⟩ (c_X1_isSlight l G x a σ 0 (i : Int) (by omega) (by omega)) (cwV 1 hts gX1_setOff_X1_isSlight rfl rfl rfl (by decide +kernel) ⟨Nat.le_of_ble_eq_true rfl, Nat.le_of_ble_eq_true rfl⟩) (preVM hK hP) rfl rfl hl.1 rfl (lv_room (Nat.le_of_ble_eq_true rfl)) dX1_setOff_7 ⟨Nat.le_of_ble_eq_true rfl, Nat.le_of_ble_eq_true rfl⟩) ?_
  have f_1 := inn_or (i : Int) 0 ((σ.1 1 : Nat) - 1)
  refine z_if_eq (tgt := 21) hx hb dX1_setOff_10 (by decide) (by omega) (fun c_2 => ?_) (fun c_2 => ?_)
  ·
    exfalso
    omega
  ·
    refine lv_aload_n hx hb dX1_setOff_13 rfl (lv_at hl 0 rfl) ?_
    refine lv_iload_n hx hb dX1_setOff_14 rfl (lv_at hl 2 rfl) ?_
    refine zc_i (va_runV (As := [.int (iI (o : Int))]) (rest := []) ⟨hx, hb, hml, hown, hts⟩ (c_X1_isSlight l G x a σ 0 (o : Int) (by omega) (by omega)) (cwV 1 hts gX1_setOff_X1_isSlight rfl rfl rfl (by decide +kernel) ⟨Nat.le_of_ble_eq_true rfl, Nat.le_of_ble_eq_true rfl⟩) (preVM hK hP) rfl rfl hl.1 rfl (lv_room (Nat.le_of_ble_eq_true rfl)) dX1_setOff_15 ⟨Nat.le_of_ble_eq_true rfl, Nat.le_of_ble_eq_true rfl⟩) ?_
    have f_3 := inn_or (o : Int) 0 ((σ.1 1 : Nat) - 1)
    refine z_if_ne (tgt := 27) hx hb dX1_setOff_18 (by decide) (by omega) (fun c_4 => ?_) (fun c_4 => ?_)
    ·
      refine lv_aload_n hx hb dX1_setOff_27 rfl (lv_at hl 0 rfl) ?_
      refine lv_iload_n hx hb dX1_setOff_28 rfl (lv_at hl 1 rfl) ?_
      refine lv_iload_n hx hb dX1_setOff_29 rfl (lv_at hl 2 rfl) ?_
      refine zc_i (va_runV (As := [.int (iI (i : Int)), .int (iI (o : Int))]) (rest := []) ⟨hx, hb, hml, hown, hts⟩ (c_X1_areOpposite l G x a B σ 0 i o hI (by omega) (by omega)) (cwV 2 hts gX1_setOff_X1_areOpposite rfl rfl rfl (by decide +kernel) ⟨Nat.le_of_ble_eq_true rfl, Nat.le_of_ble_eq_true rfl⟩) (preVM hK hP) rfl rfl hl.1 rfl (lv_room (Nat.le_of_ble_eq_true rfl)) dX1_setOff_30 ⟨Nat.le_of_ble_eq_true rfl, Nat.le_of_ble_eq_true rfl⟩) ?_
      have f_5 := pq_or σ i o
      refine z_if_ne (tgt := 42) hx hb dX1_setOff_33 (by decide) (by omega) (fun c_6 => ?_) (fun c_6 => ?_)
      ·
        refine lv_aload_n hx hb dX1_setOff_42 rfl (lv_at hl 0 rfl) ?_
        refine m_get (v := .ref (a 4)) hx hb hts hin0 hown hK hP 0 rfl 9 (by decide) w_1 rfl dX1_setOff_43 ?_
        refine lv_iload_n hx hb dX1_setOff_46 rfl (lv_at hl 1 rfl) ?_
        refine z_iald (v := iI (σ.2 4 i)) hx hb hK hP 5 0 rfl rfl (k := i) (by omega) (by decide) rfl dX1_setOff_47 ?_
        have f_7 := hI.r4 i
        refine lv_aload_n hx hb dX1_setOff_48 rfl (lv_at hl 0 rfl) ?_
        refine m_get (v := .ref (a 4)) hx hb hts hin0 hown hK hP 0 rfl 9 (by decide) w_1 rfl dX1_setOff_49 ?_
        refine lv_iload_n hx hb dX1_setOff_52 rfl (lv_at hl 2 rfl) ?_
        refine z_iald (v := iI (σ.2 4 o)) hx hb hK hP 5 0 rfl rfl (k := o) (by omega) (by decide) rfl dX1_setOff_53 ?_
        have f_8 := hI.r4 o
        refine z_min hx hb (by rw [hml]; exact hl.1.symm) hown w_2 w_3 w_4 w_5 (Nat.le_of_ble_eq_true rfl) (Nat.le_of_ble_eq_true rfl) (Nat.le_of_ble_eq_true rfl) (Nat.le_of_ble_eq_true rfl) (by omega) (by omega) dX1_setOff_54 ?_
        refine lv_istore_n (lv' := [(3, .int (iI (min (σ.2 4 i) (σ.2 4 o)))), (0, .ref x), (1, .int (iI (i : Int))), (2, .int (iI (o : Int)))]) hx hb dX1_setOff_57 rfl hl (by decide) rfl (fun ls hl => ?_)
        refine lv_aload_n hx hb dX1_setOff_58 rfl (lv_at hl 1 rfl) ?_
        refine m_get (v := .ref (a 4)) hx hb hts hin0 hown hK hP 0 rfl 9 (by decide) w_1 rfl dX1_setOff_59 ?_
        refine lv_iload_n hx hb dX1_setOff_62 rfl (lv_at hl 2 rfl) ?_
        refine lv_dup2_11 hx hb dX1_setOff_63 rfl rfl ?_
        refine z_iald (v := iI (σ.2 4 i)) hx hb hK hP 5 0 rfl rfl (k := i) (by omega) (by decide) rfl dX1_setOff_64 ?_
        have f_9 := hI.r4 i
        refine lv_iload_n hx hb dX1_setOff_65 rfl (lv_at hl 0 rfl) ?_
        refine z_isub hx hb dX1_setOff_66 ?_
        refine z_iast hx hb hK hP hD hS 5 0 rfl rfl (k := i) (by omega) (by decide) mW_set4 dX1_setOff_67 (fun H locs hP hD hS => ?_)
        refine lv_aload_n hx hb dX1_setOff_68 rfl (lv_at hl 1 rfl) ?_
        refine m_get (v := .ref (a 4)) hx hb hts hin0 hown hK hP 0 rfl 9 (by decide) w_1 rfl dX1_setOff_69 ?_
        refine lv_iload_n hx hb dX1_setOff_72 rfl (lv_at hl 3 rfl) ?_
        refine lv_dup2_11 hx hb dX1_setOff_73 rfl rfl ?_
        refine z_iald (v := iI ((stA σ 4 i ((σ.2 4 i) - (min (σ.2 4 i) (σ.2 4 o)))).2 4 o)) hx hb hK hP 5 0 rfl rfl (k := o) (by omega) (by decide) rfl dX1_setOff_74 ?_
        refine lv_iload_n hx hb dX1_setOff_75 rfl (lv_at hl 0 rfl) ?_
        refine z_isub hx hb dX1_setOff_76 ?_
        refine z_iast hx hb hK hP hD hS 5 0 rfl rfl (k := o) (by omega) (by decide) mW_set4 dX1_setOff_77 (fun H locs hP hD hS => ?_)
        refine lv_aload_n hx hb dX1_setOff_78 rfl (lv_at hl 1 rfl) ?_
        refine m_get (v := .ref (a 4)) hx hb hts hin0 hown hK hP 0 rfl 9 (by decide) w_1 rfl dX1_setOff_79 ?_
        refine lv_iload_n hx hb dX1_setOff_82 rfl (lv_at hl 2 rfl) ?_
        refine z_iald (v := iI ((stA (stA σ 4 i ((σ.2 4 i) - (min (σ.2 4 i) (σ.2 4 o)))) 4 o (((stA σ 4 i ((σ.2 4 i) - (min (σ.2 4 i) (σ.2 4 o)))).2 4 o) - (min (σ.2 4 i) (σ.2 4 o)))).2 4 i)) hx hb hK hP 5 0 rfl rfl (k := i) (by omega) (by decide) rfl dX1_setOff_83 ?_
        have g6 : (stA (stA σ 4 i ((σ.2 4 i) - (min (σ.2 4 i) (σ.2 4 o)))) 4 o (((stA σ 4 i ((σ.2 4 i) - (min (σ.2 4 i) (σ.2 4 o)))).2 4 o) - (min (σ.2 4 i) (σ.2 4 o)))).2 4 i = σ.2 4 i - min (σ.2 4 i) (σ.2 4 o) := by rw [stA_nk hne2, stA_eq]
        have g7 : (stA σ 4 i ((σ.2 4 i) - (min (σ.2 4 i) (σ.2 4 o)))).2 4 o = σ.2 4 o := by rw [stA_nk hne]
        refine z_if_ne (tgt := 93) hx hb dX1_setOff_84 (by decide) (by omega) (fun c_10 => ?_) (fun c_10 => ?_)
        ·
          refine lv_aload_n hx hb dX1_setOff_93 rfl (lv_at hl 1 rfl) ?_
          refine m_get (v := .ref (a 4)) hx hb hts hin0 hown hK hP 0 rfl 9 (by decide) w_1 rfl dX1_setOff_94 ?_
          refine lv_iload_n hx hb dX1_setOff_97 rfl (lv_at hl 3 rfl) ?_
          refine z_iald (v := iI (((stA σ 4 i ((σ.2 4 i) - (min (σ.2 4 i) (σ.2 4 o)))).2 4 o) - (min (σ.2 4 i) (σ.2 4 o)))) hx hb hK hP 5 0 rfl rfl (k := o) (by omega) (by decide) (congrArg iI (by simp [stA, stS])) dX1_setOff_98 ?_
          refine z_if_ne (tgt := 108) hx hb dX1_setOff_99 (by decide) (by omega) (fun c_11 => ?_) (fun c_11 => ?_)
          ·
            refine lv_iload_n hx hb dX1_setOff_108 rfl (lv_at hl 0 rfl) ?_
            have hfin : (stA (stA σ 4 i ((σ.2 4 i) - (min (σ.2 4 i) (σ.2 4 o)))) 4 o (((stA σ 4 i ((σ.2 4 i) - (min (σ.2 4 i) (σ.2 4 o)))).2 4 o) - (min (σ.2 4 i) (σ.2 4 o)))) = sof σ i o := by first | (exfalso; omega; done) | skip; rw [g7, sof_m hne _ rfl]; first | rw [if_pos (by omega), if_pos (by omega)] | rw [if_pos (by omega), if_neg (by omega)] | rw [if_neg (by omega), if_pos (by omega)] | rw [if_neg (by omega), if_neg (by omega)]
            rw [hfin] at hP
            have hfit : 0 = 0 := by rfl
            rw [hfit] at hP
            refine z_re (v' := iI (min (σ.2 4 i) (σ.2 4 o))) (congrArg iI (by rfl)) ?_
            exact W.iret hx hb hr (fun t ht hW => ⟨⟨_, (), rfl, rfl, (by show va_P _ _ _ t.heap; rw [ht]; exact hP)⟩, hS.F ht⟩) hS.2.2 dX1_setOff_109
          ·
            refine lv_aload_n hx hb dX1_setOff_102 rfl (lv_at hl 1 rfl) ?_
            refine lv_iload_n hx hb dX1_setOff_103 rfl (lv_at hl 3 rfl) ?_
            refine lv_iconst (v := iI 3) hx hb dX1_setOff_104 rfl ?_
            refine zc_wv (va_runV (As := [.int (iI (o : Int)), .int (iI 3)]) (rest := []) ⟨hx, hb, hml, hown, hts⟩ (c_X1_close l G x a _ (stA (stA σ 4 i ((σ.2 4 i) - (min (σ.2 4 i) (σ.2 4 o)))) 4 o (((stA σ 4 i ((σ.2 4 i) - (min (σ.2 4 i) (σ.2 4 o)))).2 4 o) - (min (σ.2 4 i) (σ.2 4 o)))) 0 o 3 (by omega)) (cwV 2 hts gX1_setOff_X1_close rfl rfl rfl (by decide +kernel) ⟨Nat.le_of_ble_eq_true rfl, Nat.le_of_ble_eq_true rfl⟩) (preWM hK hP hD) rfl rfl hl.1 rfl (lv_room (Nat.le_of_ble_eq_true rfl)) dX1_setOff_105 ⟨Nat.le_of_ble_eq_true rfl, Nat.le_of_ble_eq_true rfl⟩) hS (fun q h => zA_mono hS.1 h) (fun H locs hP hS _ _ => ?_)
            have hD := mW_D (t' := 0) (σ' := (clo (stA (stA σ 4 i ((σ.2 4 i) - (min (σ.2 4 i) (σ.2 4 o)))) 4 o (((stA σ 4 i ((σ.2 4 i) - (min (σ.2 4 i) (σ.2 4 o)))).2 4 o) - (min (σ.2 4 i) (σ.2 4 o)))) o 3)) hD
            refine lv_iload_n hx hb dX1_setOff_108 rfl (lv_at hl 0 rfl) ?_
            have hfin : (clo (stA (stA σ 4 i ((σ.2 4 i) - (min (σ.2 4 i) (σ.2 4 o)))) 4 o (((stA σ 4 i ((σ.2 4 i) - (min (σ.2 4 i) (σ.2 4 o)))).2 4 o) - (min (σ.2 4 i) (σ.2 4 o)))) o 3) = sof σ i o := by first | (exfalso; omega; done) | skip; rw [g7, sof_m hne _ rfl]; first | rw [if_pos (by omega), if_pos (by omega)] | rw [if_pos (by omega), if_neg (by omega)] | rw [if_neg (by omega), if_pos (by omega)] | rw [if_neg (by omega), if_neg (by omega)]
            rw [hfin] at hP
            have hfit : 0 = 0 := by rfl
            rw [hfit] at hP
            refine z_re (v' := iI (min (σ.2 4 i) (σ.2 4 o))) (congrArg iI (by rfl)) ?_
            exact W.iret hx hb hr (fun t ht hW => ⟨⟨_, (), rfl, rfl, (by show va_P _ _ _ t.heap; rw [ht]; exact hP)⟩, hS.F ht⟩) hS.2.2 dX1_setOff_109
        ·
          refine lv_aload_n hx hb dX1_setOff_87 rfl (lv_at hl 1 rfl) ?_
          refine lv_iload_n hx hb dX1_setOff_88 rfl (lv_at hl 2 rfl) ?_
          refine lv_iconst (v := iI 3) hx hb dX1_setOff_89 rfl ?_
          refine zc_wv (va_runV (As := [.int (iI (i : Int)), .int (iI 3)]) (rest := []) ⟨hx, hb, hml, hown, hts⟩ (c_X1_close l G x a _ (stA (stA σ 4 i ((σ.2 4 i) - (min (σ.2 4 i) (σ.2 4 o)))) 4 o (((stA σ 4 i ((σ.2 4 i) - (min (σ.2 4 i) (σ.2 4 o)))).2 4 o) - (min (σ.2 4 i) (σ.2 4 o)))) 0 i 3 (by omega)) (cwV 2 hts gX1_setOff_X1_close rfl rfl rfl (by decide +kernel) ⟨Nat.le_of_ble_eq_true rfl, Nat.le_of_ble_eq_true rfl⟩) (preWM hK hP hD) rfl rfl hl.1 rfl (lv_room (Nat.le_of_ble_eq_true rfl)) dX1_setOff_90 ⟨Nat.le_of_ble_eq_true rfl, Nat.le_of_ble_eq_true rfl⟩) hS (fun q h => zA_mono hS.1 h) (fun H locs hP hS _ _ => ?_)
          have hD := mW_D (t' := 0) (σ' := (clo (stA (stA σ 4 i ((σ.2 4 i) - (min (σ.2 4 i) (σ.2 4 o)))) 4 o (((stA σ 4 i ((σ.2 4 i) - (min (σ.2 4 i) (σ.2 4 o)))).2 4 o) - (min (σ.2 4 i) (σ.2 4 o)))) i 3)) hD
          refine lv_aload_n hx hb dX1_setOff_93 rfl (lv_at hl 1 rfl) ?_
          refine m_get (v := .ref (a 4)) hx hb hts hin0 hown hK hP 0 rfl 9 (by decide) w_1 rfl dX1_setOff_94 ?_
          refine lv_iload_n hx hb dX1_setOff_97 rfl (lv_at hl 3 rfl) ?_
          refine z_iald (v := iI ((clo (stA (stA σ 4 i ((σ.2 4 i) - (min (σ.2 4 i) (σ.2 4 o)))) 4 o (((stA σ 4 i ((σ.2 4 i) - (min (σ.2 4 i) (σ.2 4 o)))).2 4 o) - (min (σ.2 4 i) (σ.2 4 o)))) i 3).2 4 o)) hx hb hK hP 5 0 rfl rfl (k := o) (by omega) (by decide) rfl dX1_setOff_98 ?_
          have g8 : (clo (stA (stA σ 4 i ((σ.2 4 i) - (min (σ.2 4 i) (σ.2 4 o)))) 4 o (((stA σ 4 i ((σ.2 4 i) - (min (σ.2 4 i) (σ.2 4 o)))).2 4 o) - (min (σ.2 4 i) (σ.2 4 o)))) i 3).2 4 o = σ.2 4 o - min (σ.2 4 i) (σ.2 4 o) := by rw [clo_ne hne, stA_eq, g7]
          refine z_if_ne (tgt := 108) hx hb dX1_setOff_99 (by decide) (by omega) (fun c_12 => ?_) (fun c_12 => ?_)
          ·
            refine lv_iload_n hx hb dX1_setOff_108 rfl (lv_at hl 0 rfl) ?_
            have hfin : (clo (stA (stA σ 4 i ((σ.2 4 i) - (min (σ.2 4 i) (σ.2 4 o)))) 4 o (((stA σ 4 i ((σ.2 4 i) - (min (σ.2 4 i) (σ.2 4 o)))).2 4 o) - (min (σ.2 4 i) (σ.2 4 o)))) i 3) = sof σ i o := by first | (exfalso; omega; done) | skip; rw [g7, sof_m hne _ rfl]; first | rw [if_pos (by omega), if_pos (by omega)] | rw [if_pos (by omega), if_neg (by omega)] | rw [if_neg (by omega), if_pos (by omega)] | rw [if_neg (by omega), if_neg (by omega)]
            rw [hfin] at hP
            have hfit : 0 = 0 := by rfl
            rw [hfit] at hP
            refine z_re (v' := iI (min (σ.2 4 i) (σ.2 4 o))) (congrArg iI (by rfl)) ?_
            exact W.iret hx hb hr (fun t ht hW => ⟨⟨_, (), rfl, rfl, (by show va_P _ _ _ t.heap; rw [ht]; exact hP)⟩, hS.F ht⟩) hS.2.2 dX1_setOff_109
          ·
            refine lv_aload_n hx hb dX1_setOff_102 rfl (lv_at hl 1 rfl) ?_
            refine lv_iload_n hx hb dX1_setOff_103 rfl (lv_at hl 3 rfl) ?_
            refine lv_iconst (v := iI 3) hx hb dX1_setOff_104 rfl ?_
            refine zc_wv (va_runV (As := [.int (iI (o : Int)), .int (iI 3)]) (rest := []) ⟨hx, hb, hml, hown, hts⟩ (c_X1_close l G x a _ (clo (stA (stA σ 4 i ((σ.2 4 i) - (min (σ.2 4 i) (σ.2 4 o)))) 4 o (((stA σ 4 i ((σ.2 4 i) - (min (σ.2 4 i) (σ.2 4 o)))).2 4 o) - (min (σ.2 4 i) (σ.2 4 o)))) i 3) 0 o 3 (by omega)) (cwV 2 hts gX1_setOff_X1_close rfl rfl rfl (by decide +kernel) ⟨Nat.le_of_ble_eq_true rfl, Nat.le_of_ble_eq_true rfl⟩) (preWM hK hP hD) rfl rfl hl.1 rfl (lv_room (Nat.le_of_ble_eq_true rfl)) dX1_setOff_105 ⟨Nat.le_of_ble_eq_true rfl, Nat.le_of_ble_eq_true rfl⟩) hS (fun q h => zA_mono hS.1 h) (fun H locs hP hS _ _ => ?_)
            have hD := mW_D (t' := 0) (σ' := (clo (clo (stA (stA σ 4 i ((σ.2 4 i) - (min (σ.2 4 i) (σ.2 4 o)))) 4 o (((stA σ 4 i ((σ.2 4 i) - (min (σ.2 4 i) (σ.2 4 o)))).2 4 o) - (min (σ.2 4 i) (σ.2 4 o)))) i 3) o 3)) hD
            refine lv_iload_n hx hb dX1_setOff_108 rfl (lv_at hl 0 rfl) ?_
            have hfin : (clo (clo (stA (stA σ 4 i ((σ.2 4 i) - (min (σ.2 4 i) (σ.2 4 o)))) 4 o (((stA σ 4 i ((σ.2 4 i) - (min (σ.2 4 i) (σ.2 4 o)))).2 4 o) - (min (σ.2 4 i) (σ.2 4 o)))) i 3) o 3) = sof σ i o := by first | (exfalso; omega; done) | skip; rw [g7, sof_m hne _ rfl]; first | rw [if_pos (by omega), if_pos (by omega)] | rw [if_pos (by omega), if_neg (by omega)] | rw [if_neg (by omega), if_pos (by omega)] | rw [if_neg (by omega), if_neg (by omega)]
            rw [hfin] at hP
            have hfit : 0 = 0 := by rfl
            rw [hfit] at hP
            refine z_re (v' := iI (min (σ.2 4 i) (σ.2 4 o))) (congrArg iI (by rfl)) ?_
            exact W.iret hx hb hr (fun t ht hW => ⟨⟨_, (), rfl, rfl, (by show va_P _ _ _ t.heap; rw [ht]; exact hP)⟩, hS.F ht⟩) hS.2.2 dX1_setOff_109
      ·
        exfalso
        omega
    ·
      exfalso
      omega
set_option maxHeartbeats 4000000 in
set_option maxRecDepth 100000 in
theorem e1_X1_setOff (l : Launch) (G : zG) (x : Nat) (a : Nat → Nat) (sz : Nat) (B : Nat) (σ : zS) (t : Nat) (z : Int) (y : Int) (hI : zI B σ) (hzb : -2147483648 ≤ z ∧ z < 2147483648) (hbad : z < 0 ∨ (σ.1 1 : Int) ≤ z) : Met l yX1_setOff wsX1_setOff ({ frames := 2, cells := 0, slots := 0, locals := 43 } : Room) (va_Pc [.ref x, .int (iI z), .int (iI y)] (wM G x a t σ sz)) (va_Qi (fun r (_ : Unit) => r = iI 0) (fun _ t9 => va_P G.1 vwCl (mW G x a 1 σ) t9.heap) (zA x a sz)) 0 0 (zA x a sz) := by
  refine Met.ofW (cc := cX1_setOff) (maxL := 4) (ret := (some .int)) (by decide) rfl ?_
  intro pp ee s m args below meth c s₁ B9 hml hv
  obtain ⟨rfl, hsz, hP, hK, hD0⟩ := hv
  subst hsz
  have hD := mW_zA (sz := s.heap.size) hD0
  have hS : va_S (zA x a s.heap.size) s.heap s.heap [] := va_S.rf
  have hx := B9.exec
  have hb := B9.bytes
  have hr := B9.returns
  have hts := atoms_spec (ws := wsX1_setOff) B9.pre
  have hown : s.vm.findClass RX1 = some m.cls := findClass_of_methodNamed B9.named
  have hlocks := B9.notSynchronized
  have hin0 : ∀ w ∈ wsX10, w ∈ wsX1_setOff := by decide +kernel
  have w_0 := hts (.fieldLink RX1 35 "ApologyLedgerModel" "thrown" "I") (by decide +kernel)
  have hl := lv_entry ([.ref x, .int (iI z), .int (iI y)]) (n := 4) (Nat.le_of_ble_eq_true rfl)
  rw [lg_entry_eq]
  generalize (lg_sl ([.ref x, .int (iI z), .int (iI y)]) ++ List.replicate (4 - (lg_sl ([.ref x, .int (iI z), .int (iI y)])).length) Slot.unset).toArray = ls at hl ⊢
  have hl : lv_has ls 4 [(0, .ref x), (1, .int (iI z)), (2, .int (iI y))] := hl
  have hIn := hI.n
  have hIb := hI.b
  refine lv_aload_n hx hb dX1_setOff_0 rfl (lv_at hl 0 rfl) ?_
  refine lv_iconst (v := iI 0) hx hb dX1_setOff_1 rfl ?_
  refine z_re (v' := iI ((0 : Nat) : Int)) (congrArg iI (by omega)) ?_
  refine m_put hx hb hts hin0 hown hK hP hD hS 0 rfl 0 (by decide) w_0 rfl (by decide +kernel) (Nat.le_of_ble_eq_true rfl) mW_put0 dX1_setOff_2 (fun H locs hP hD hS => ?_)
  refine lv_aload_n hx hb dX1_setOff_5 rfl (lv_at hl 0 rfl) ?_
  refine lv_iload_n hx hb dX1_setOff_6 rfl (lv_at hl 1 rfl) ?_
  refine zc_i (va_runV (As := [.int (iI z)]) (rest := []) ⟨hx, hb, hml, hown, hts⟩ (c_X1_isSlight l G x a σ 0 z (by omega) (by omega)) (cwV 1 hts gX1_setOff_X1_isSlight rfl rfl rfl (by decide +kernel) ⟨Nat.le_of_ble_eq_true rfl, Nat.le_of_ble_eq_true rfl⟩) (preVM hK hP) rfl rfl hl.1 rfl (lv_room (Nat.le_of_ble_eq_true rfl)) dX1_setOff_7 ⟨Nat.le_of_ble_eq_true rfl, Nat.le_of_ble_eq_true rfl⟩) ?_
  have f_1 := inn_or z 0 ((σ.1 1 : Nat) - 1)
  refine z_if_eq (tgt := 21) hx hb dX1_setOff_10 (by decide) (by omega) (fun c_2 => ?_) (fun c_2 => ?_)
  ·
    refine lv_aload_n hx hb dX1_setOff_21 rfl (lv_at hl 0 rfl) ?_
    refine lv_iconst (v := iI 1) hx hb dX1_setOff_22 rfl ?_
    refine z_re (v' := iI ((1 : Nat) : Int)) (congrArg iI (by omega)) ?_
    refine zc_wi (va_runV (As := [.int (iI ((1 : Nat) : Int))]) (rest := []) ⟨hx, hb, hml, hown, hts⟩ (c_X1_no l G x a _ σ 0 1) (cwV 1 hts gX1_setOff_X1_no rfl rfl rfl (by decide +kernel) ⟨Nat.le_of_ble_eq_true rfl, Nat.le_of_ble_eq_true rfl⟩) (preWM hK hP hD) rfl rfl hl.1 rfl (lv_room (Nat.le_of_ble_eq_true rfl)) dX1_setOff_23 ⟨Nat.le_of_ble_eq_true rfl, Nat.le_of_ble_eq_true rfl⟩) hS (fun q h => zA_mono hS.1 h) (fun H locs hP hS _ _ => ?_)
    have hD := mW_D (t' := 1) (σ' := σ) hD
    have hfin : σ = σ := by rfl
    rw [hfin] at hP
    have hfit : 1 = 1 := by rfl
    rw [hfit] at hP
    refine z_re (v' := iI 0) (congrArg iI (by first | rfl | omega)) ?_
    exact W.iret hx hb hr (fun t ht hW => ⟨⟨_, (), rfl, rfl, (by show va_P _ _ _ t.heap; rw [ht]; exact hP)⟩, hS.F ht⟩) hS.2.2 dX1_setOff_26
  ·
    exfalso
    omega
set_option maxHeartbeats 4000000 in
set_option maxRecDepth 100000 in
theorem e2_X1_setOff (l : Launch) (G : zG) (x : Nat) (a : Nat → Nat) (sz : Nat) (B : Nat) (σ : zS) (t : Nat) (i : Nat) (z : Int) (hI : zI B σ) (hi : i < σ.1 1) (hzb : -2147483648 ≤ z ∧ z < 2147483648) (hbad : z < 0 ∨ (σ.1 1 : Int) ≤ z) : Met l yX1_setOff wsX1_setOff ({ frames := 2, cells := 0, slots := 0, locals := 43 } : Room) (va_Pc [.ref x, .int (iI (i : Int)), .int (iI z)] (wM G x a t σ sz)) (va_Qi (fun r (_ : Unit) => r = iI 0) (fun _ t9 => va_P G.1 vwCl (mW G x a 1 σ) t9.heap) (zA x a sz)) 0 0 (zA x a sz) := by
  refine Met.ofW (cc := cX1_setOff) (maxL := 4) (ret := (some .int)) (by decide) rfl ?_
  intro pp ee s m args below meth c s₁ B9 hml hv
  obtain ⟨rfl, hsz, hP, hK, hD0⟩ := hv
  subst hsz
  have hD := mW_zA (sz := s.heap.size) hD0
  have hS : va_S (zA x a s.heap.size) s.heap s.heap [] := va_S.rf
  have hx := B9.exec
  have hb := B9.bytes
  have hr := B9.returns
  have hts := atoms_spec (ws := wsX1_setOff) B9.pre
  have hown : s.vm.findClass RX1 = some m.cls := findClass_of_methodNamed B9.named
  have hlocks := B9.notSynchronized
  have hin0 : ∀ w ∈ wsX10, w ∈ wsX1_setOff := by decide +kernel
  have w_0 := hts (.fieldLink RX1 35 "ApologyLedgerModel" "thrown" "I") (by decide +kernel)
  have hl := lv_entry ([.ref x, .int (iI (i : Int)), .int (iI z)]) (n := 4) (Nat.le_of_ble_eq_true rfl)
  rw [lg_entry_eq]
  generalize (lg_sl ([.ref x, .int (iI (i : Int)), .int (iI z)]) ++ List.replicate (4 - (lg_sl ([.ref x, .int (iI (i : Int)), .int (iI z)])).length) Slot.unset).toArray = ls at hl ⊢
  have hl : lv_has ls 4 [(0, .ref x), (1, .int (iI (i : Int))), (2, .int (iI z))] := hl
  have hIn := hI.n
  have hIb := hI.b
  refine lv_aload_n hx hb dX1_setOff_0 rfl (lv_at hl 0 rfl) ?_
  refine lv_iconst (v := iI 0) hx hb dX1_setOff_1 rfl ?_
  refine z_re (v' := iI ((0 : Nat) : Int)) (congrArg iI (by omega)) ?_
  refine m_put hx hb hts hin0 hown hK hP hD hS 0 rfl 0 (by decide) w_0 rfl (by decide +kernel) (Nat.le_of_ble_eq_true rfl) mW_put0 dX1_setOff_2 (fun H locs hP hD hS => ?_)
  refine lv_aload_n hx hb dX1_setOff_5 rfl (lv_at hl 0 rfl) ?_
  refine lv_iload_n hx hb dX1_setOff_6 rfl (lv_at hl 1 rfl) ?_
  refine zc_i (va_runV (As := [.int (iI (i : Int))]) (rest := []) ⟨hx, hb, hml, hown, hts⟩ (c_X1_isSlight l G x a σ 0 (i : Int) (by omega) (by omega)) (cwV 1 hts gX1_setOff_X1_isSlight rfl rfl rfl (by decide +kernel) ⟨Nat.le_of_ble_eq_true rfl, Nat.le_of_ble_eq_true rfl⟩) (preVM hK hP) rfl rfl hl.1 rfl (lv_room (Nat.le_of_ble_eq_true rfl)) dX1_setOff_7 ⟨Nat.le_of_ble_eq_true rfl, Nat.le_of_ble_eq_true rfl⟩) ?_
  have f_1 := inn_or (i : Int) 0 ((σ.1 1 : Nat) - 1)
  refine z_if_eq (tgt := 21) hx hb dX1_setOff_10 (by decide) (by omega) (fun c_2 => ?_) (fun c_2 => ?_)
  ·
    exfalso
    omega
  ·
    refine lv_aload_n hx hb dX1_setOff_13 rfl (lv_at hl 0 rfl) ?_
    refine lv_iload_n hx hb dX1_setOff_14 rfl (lv_at hl 2 rfl) ?_
    refine zc_i (va_runV (As := [.int (iI z)]) (rest := []) ⟨hx, hb, hml, hown, hts⟩ (c_X1_isSlight l G x a σ 0 z (by omega) (by omega)) (cwV 1 hts gX1_setOff_X1_isSlight rfl rfl rfl (by decide +kernel) ⟨Nat.le_of_ble_eq_true rfl, Nat.le_of_ble_eq_true rfl⟩) (preVM hK hP) rfl rfl hl.1 rfl (lv_room (Nat.le_of_ble_eq_true rfl)) dX1_setOff_15 ⟨Nat.le_of_ble_eq_true rfl, Nat.le_of_ble_eq_true rfl⟩) ?_
    have f_3 := inn_or z 0 ((σ.1 1 : Nat) - 1)
    refine z_if_ne (tgt := 27) hx hb dX1_setOff_18 (by decide) (by omega) (fun c_4 => ?_) (fun c_4 => ?_)
    ·
      exfalso
      omega
    ·
      refine lv_aload_n hx hb dX1_setOff_21 rfl (lv_at hl 0 rfl) ?_
      refine lv_iconst (v := iI 1) hx hb dX1_setOff_22 rfl ?_
      refine z_re (v' := iI ((1 : Nat) : Int)) (congrArg iI (by omega)) ?_
      refine zc_wi (va_runV (As := [.int (iI ((1 : Nat) : Int))]) (rest := []) ⟨hx, hb, hml, hown, hts⟩ (c_X1_no l G x a _ σ 0 1) (cwV 1 hts gX1_setOff_X1_no rfl rfl rfl (by decide +kernel) ⟨Nat.le_of_ble_eq_true rfl, Nat.le_of_ble_eq_true rfl⟩) (preWM hK hP hD) rfl rfl hl.1 rfl (lv_room (Nat.le_of_ble_eq_true rfl)) dX1_setOff_23 ⟨Nat.le_of_ble_eq_true rfl, Nat.le_of_ble_eq_true rfl⟩) hS (fun q h => zA_mono hS.1 h) (fun H locs hP hS _ _ => ?_)
      have hD := mW_D (t' := 1) (σ' := σ) hD
      have hfin : σ = σ := by rfl
      rw [hfin] at hP
      have hfit : 1 = 1 := by rfl
      rw [hfit] at hP
      refine z_re (v' := iI 0) (congrArg iI (by first | rfl | omega)) ?_
      exact W.iret hx hb hr (fun t ht hW => ⟨⟨_, (), rfl, rfl, (by show va_P _ _ _ t.heap; rw [ht]; exact hP)⟩, hS.F ht⟩) hS.2.2 dX1_setOff_26
set_option maxHeartbeats 4000000 in
set_option maxRecDepth 100000 in
theorem e3_X1_setOff (l : Launch) (G : zG) (x : Nat) (a : Nat → Nat) (sz : Nat) (B : Nat) (σ : zS) (t : Nat) (i : Nat) (o : Nat) (hI : zI B σ) (hi : i < σ.1 1) (ho : o < σ.1 1) (hq : pq σ i o = 0) : Met l yX1_setOff wsX1_setOff ({ frames := 2, cells := 0, slots := 0, locals := 43 } : Room) (va_Pc [.ref x, .int (iI (i : Int)), .int (iI (o : Int))] (wM G x a t σ sz)) (va_Qi (fun r (_ : Unit) => r = iI 0) (fun _ t9 => va_P G.1 vwCl (mW G x a 2 σ) t9.heap) (zA x a sz)) 0 0 (zA x a sz) := by
  refine Met.ofW (cc := cX1_setOff) (maxL := 4) (ret := (some .int)) (by decide) rfl ?_
  intro pp ee s m args below meth c s₁ B9 hml hv
  obtain ⟨rfl, hsz, hP, hK, hD0⟩ := hv
  subst hsz
  have hD := mW_zA (sz := s.heap.size) hD0
  have hS : va_S (zA x a s.heap.size) s.heap s.heap [] := va_S.rf
  have hx := B9.exec
  have hb := B9.bytes
  have hr := B9.returns
  have hts := atoms_spec (ws := wsX1_setOff) B9.pre
  have hown : s.vm.findClass RX1 = some m.cls := findClass_of_methodNamed B9.named
  have hlocks := B9.notSynchronized
  have hin0 : ∀ w ∈ wsX10, w ∈ wsX1_setOff := by decide +kernel
  have w_0 := hts (.fieldLink RX1 35 "ApologyLedgerModel" "thrown" "I") (by decide +kernel)
  have hl := lv_entry ([.ref x, .int (iI (i : Int)), .int (iI (o : Int))]) (n := 4) (Nat.le_of_ble_eq_true rfl)
  rw [lg_entry_eq]
  generalize (lg_sl ([.ref x, .int (iI (i : Int)), .int (iI (o : Int))]) ++ List.replicate (4 - (lg_sl ([.ref x, .int (iI (i : Int)), .int (iI (o : Int))])).length) Slot.unset).toArray = ls at hl ⊢
  have hl : lv_has ls 4 [(0, .ref x), (1, .int (iI (i : Int))), (2, .int (iI (o : Int)))] := hl
  have hIn := hI.n
  have hIb := hI.b
  refine lv_aload_n hx hb dX1_setOff_0 rfl (lv_at hl 0 rfl) ?_
  refine lv_iconst (v := iI 0) hx hb dX1_setOff_1 rfl ?_
  refine z_re (v' := iI ((0 : Nat) : Int)) (congrArg iI (by omega)) ?_
  refine m_put hx hb hts hin0 hown hK hP hD hS 0 rfl 0 (by decide) w_0 rfl (by decide +kernel) (Nat.le_of_ble_eq_true rfl) mW_put0 dX1_setOff_2 (fun H locs hP hD hS => ?_)
  refine lv_aload_n hx hb dX1_setOff_5 rfl (lv_at hl 0 rfl) ?_
  refine lv_iload_n hx hb dX1_setOff_6 rfl (lv_at hl 1 rfl) ?_
  refine zc_i (va_runV (As := [.int (iI (i : Int))]) (rest := []) ⟨hx, hb, hml, hown, hts⟩ (c_X1_isSlight l G x a σ 0 (i : Int) (by omega) (by omega)) (cwV 1 hts gX1_setOff_X1_isSlight rfl rfl rfl (by decide +kernel) ⟨Nat.le_of_ble_eq_true rfl, Nat.le_of_ble_eq_true rfl⟩) (preVM hK hP) rfl rfl hl.1 rfl (lv_room (Nat.le_of_ble_eq_true rfl)) dX1_setOff_7 ⟨Nat.le_of_ble_eq_true rfl, Nat.le_of_ble_eq_true rfl⟩) ?_
  have f_1 := inn_or (i : Int) 0 ((σ.1 1 : Nat) - 1)
  refine z_if_eq (tgt := 21) hx hb dX1_setOff_10 (by decide) (by omega) (fun c_2 => ?_) (fun c_2 => ?_)
  ·
    exfalso
    omega
  ·
    refine lv_aload_n hx hb dX1_setOff_13 rfl (lv_at hl 0 rfl) ?_
    refine lv_iload_n hx hb dX1_setOff_14 rfl (lv_at hl 2 rfl) ?_
    refine zc_i (va_runV (As := [.int (iI (o : Int))]) (rest := []) ⟨hx, hb, hml, hown, hts⟩ (c_X1_isSlight l G x a σ 0 (o : Int) (by omega) (by omega)) (cwV 1 hts gX1_setOff_X1_isSlight rfl rfl rfl (by decide +kernel) ⟨Nat.le_of_ble_eq_true rfl, Nat.le_of_ble_eq_true rfl⟩) (preVM hK hP) rfl rfl hl.1 rfl (lv_room (Nat.le_of_ble_eq_true rfl)) dX1_setOff_15 ⟨Nat.le_of_ble_eq_true rfl, Nat.le_of_ble_eq_true rfl⟩) ?_
    have f_3 := inn_or (o : Int) 0 ((σ.1 1 : Nat) - 1)
    refine z_if_ne (tgt := 27) hx hb dX1_setOff_18 (by decide) (by omega) (fun c_4 => ?_) (fun c_4 => ?_)
    ·
      refine lv_aload_n hx hb dX1_setOff_27 rfl (lv_at hl 0 rfl) ?_
      refine lv_iload_n hx hb dX1_setOff_28 rfl (lv_at hl 1 rfl) ?_
      refine lv_iload_n hx hb dX1_setOff_29 rfl (lv_at hl 2 rfl) ?_
      refine zc_i (va_runV (As := [.int (iI (i : Int)), .int (iI (o : Int))]) (rest := []) ⟨hx, hb, hml, hown, hts⟩ (c_X1_areOpposite l G x a B σ 0 i o hI (by omega) (by omega)) (cwV 2 hts gX1_setOff_X1_areOpposite rfl rfl rfl (by decide +kernel) ⟨Nat.le_of_ble_eq_true rfl, Nat.le_of_ble_eq_true rfl⟩) (preVM hK hP) rfl rfl hl.1 rfl (lv_room (Nat.le_of_ble_eq_true rfl)) dX1_setOff_30 ⟨Nat.le_of_ble_eq_true rfl, Nat.le_of_ble_eq_true rfl⟩) ?_
      have f_5 := pq_or σ i o
      refine z_if_ne (tgt := 42) hx hb dX1_setOff_33 (by decide) (by omega) (fun c_6 => ?_) (fun c_6 => ?_)
      ·
        exfalso
        omega
      ·
        refine lv_aload_n hx hb dX1_setOff_36 rfl (lv_at hl 0 rfl) ?_
        refine lv_iconst (v := iI 2) hx hb dX1_setOff_37 rfl ?_
        refine z_re (v' := iI ((2 : Nat) : Int)) (congrArg iI (by omega)) ?_
        refine zc_wi (va_runV (As := [.int (iI ((2 : Nat) : Int))]) (rest := []) ⟨hx, hb, hml, hown, hts⟩ (c_X1_no l G x a _ σ 0 2) (cwV 1 hts gX1_setOff_X1_no rfl rfl rfl (by decide +kernel) ⟨Nat.le_of_ble_eq_true rfl, Nat.le_of_ble_eq_true rfl⟩) (preWM hK hP hD) rfl rfl hl.1 rfl (lv_room (Nat.le_of_ble_eq_true rfl)) dX1_setOff_38 ⟨Nat.le_of_ble_eq_true rfl, Nat.le_of_ble_eq_true rfl⟩) hS (fun q h => zA_mono hS.1 h) (fun H locs hP hS _ _ => ?_)
        have hD := mW_D (t' := 2) (σ' := σ) hD
        have hfin : σ = σ := by rfl
        rw [hfin] at hP
        have hfit : 2 = 2 := by rfl
        rw [hfit] at hP
        refine z_re (v' := iI 0) (congrArg iI (by first | rfl | omega)) ?_
        exact W.iret hx hb hr (fun t ht hW => ⟨⟨_, (), rfl, rfl, (by show va_P _ _ _ t.heap; rw [ht]; exact hP)⟩, hS.F ht⟩) hS.2.2 dX1_setOff_41
    ·
      exfalso
      omega
set_option maxHeartbeats 4000000 in
set_option maxRecDepth 100000 in
theorem v_X1_pass (l : Launch) (G : zG) (x : Nat) (a : Nat → Nat) (sz : Nat) (B : Nat) (σ : zS) (t : Nat) (d : Nat) (hI : zI B σ) (hd : 1 ≤ d ∧ d ≤ 60) : Met l yX1_pass wsX1_pass ({ frames := 3, cells := 0, slots := 0, locals := 68 } : Room) (va_Pc [.ref x, .int (iI (d : Int))] (wM G x a t σ sz)) (va_Qi (fun r (_ : Unit) => r = iI ((dyn σ d).2)) (fun _ t9 => va_P G.1 vwCl (mW G x a 0 ((dyn σ d).1)) t9.heap) (zA x a sz)) 0 0 (zA x a sz) := by
  refine Met.ofW (cc := cX1_pass) (maxL := 6) (ret := (some .int)) (by decide) rfl ?_
  intro pp ee s m args below meth c s₁ B9 hml hv
  obtain ⟨rfl, hsz, hP, hK, hD0⟩ := hv
  subst hsz
  have hD := mW_zA (sz := s.heap.size) hD0
  have hS : va_S (zA x a s.heap.size) s.heap s.heap [] := va_S.rf
  have hx := B9.exec
  have hb := B9.bytes
  have hr := B9.returns
  have hts := atoms_spec (ws := wsX1_pass) B9.pre
  have hown : s.vm.findClass RX1 = some m.cls := findClass_of_methodNamed B9.named
  have hlocks := B9.notSynchronized
  have hin0 : ∀ w ∈ wsX10, w ∈ wsX1_pass := by decide +kernel
  have w_0 := hts (.fieldLink RX1 35 "ApologyLedgerModel" "thrown" "I") (by decide +kernel)
  have w_1 := hts (.fieldLink RX1 46 "ApologyLedgerModel" "slights" "I") (by decide +kernel)
  have w_2 := hts (.fieldLink RX1 102 "ApologyLedgerModel" "day" "I") (by decide +kernel)
  have w_3 := hts (.fieldLink RX1 32 "ApologyLedgerModel" "quiet" "[I") (by decide +kernel)
  have w_4 := hts (.methodLink RX1 49 Lib.Math.min.name) (by decide +kernel)
  have w_5 := hts (.static Lib.Math.min.name) (by decide +kernel)
  have w_6 := hts (.initialized "java/lang/Math") (by decide +kernel)
  have w_7 := hts (.code Lib.Math.min.name Lib.Math.min.code 2 (some .int)) (by decide +kernel)
  have w_8 := hts (.fieldLink RX1 29 "ApologyLedgerModel" "borne" "[I") (by decide +kernel)
  have w_9 := hts (.fieldLink RX1 23 "ApologyLedgerModel" "weight" "[I") (by decide +kernel)
  have hl := lv_entry ([.ref x, .int (iI (d : Int))]) (n := 6) (Nat.le_of_ble_eq_true rfl)
  rw [lg_entry_eq]
  generalize (lg_sl ([.ref x, .int (iI (d : Int))]) ++ List.replicate (6 - (lg_sl ([.ref x, .int (iI (d : Int))])).length) Slot.unset).toArray = ls at hl ⊢
  have hl : lv_has ls 6 [(0, .ref x), (1, .int (iI (d : Int)))] := hl
  have hIn := hI.n
  have hIb := hI.b
  refine lv_aload_n hx hb dX1_pass_0 rfl (lv_at hl 0 rfl) ?_
  refine lv_iconst (v := iI 0) hx hb dX1_pass_1 rfl ?_
  refine z_re (v' := iI ((0 : Nat) : Int)) (congrArg iI (by omega)) ?_
  refine m_put hx hb hts hin0 hown hK hP hD hS 0 rfl 0 (by decide) w_0 rfl (by decide +kernel) (Nat.le_of_ble_eq_true rfl) mW_put0 dX1_pass_2 (fun H locs hP hD hS => ?_)
  refine lv_iload_n hx hb dX1_pass_5 rfl (lv_at hl 1 rfl) ?_
  refine lv_iconst (v := iI 1) hx hb dX1_pass_6 rfl ?_
  refine lv_bipush (v := iI 60) hx hb dX1_pass_7 (by decide) ?_
  refine zc_i (va_runS (As := [.int (iI (d : Int)), .int (iI 1), .int (iI 60)]) (rest := []) ⟨hx, hb, hml, hown, hts⟩ (c_X1_isIn l  (d : Int) 1 60 (by omega) (by omega) (by omega)) (va_cwS 3 hts gX1_pass_X1_isIn rfl rfl rfl (by decide +kernel) ⟨Nat.le_of_ble_eq_true rfl, Nat.le_of_ble_eq_true rfl⟩) preS0 rfl rfl hl.1 rfl (lv_room (Nat.le_of_ble_eq_true rfl)) dX1_pass_9 ⟨Nat.le_of_ble_eq_true rfl, Nat.le_of_ble_eq_true rfl⟩) ?_
  have f_1 := inn_or (d : Int) 1 60
  refine z_if_ne (tgt := 21) hx hb dX1_pass_12 (by decide) (by omega) (fun c_2 => ?_) (fun c_2 => ?_)
  ·
    refine lv_iconst (v := iI 0) hx hb dX1_pass_21 rfl ?_
    refine lv_istore_n (lv' := [(2, .int (iI 0)), (0, .ref x), (1, .int (iI (d : Int)))]) hx hb dX1_pass_22 rfl hl (by decide) rfl (fun ls hl => ?_)
    refine lv_iconst (v := iI 0) hx hb dX1_pass_23 rfl ?_
    refine lv_istore_n (lv' := [(3, .int (iI 0)), (2, .int (iI 0)), (0, .ref x), (1, .int (iI (d : Int)))]) hx hb dX1_pass_24 rfl hl (by decide) rfl (fun ls hl => ?_)
    have LP25 : ∀ (r25 : Nat) (j : Nat) (s1 : Int), j ≤ σ.1 1 → σ.1 1 - j < r25 → s1 = (mpf σ (d : Int) j).2 → ∀ (H : Heap) (locs : List Loc) (ls : Array Slot), va_P G.1 vwCl (mW G x a 0 (mpf σ (d : Int) j).1) H → va_D (zA x a s.heap.size) (mW G x a 0 (mpf σ (d : Int) j).1) → va_S (zA x a s.heap.size) s.heap H locs → lv_has ls 6 [(3, .int (iI (j : Int))), (2, .int (iI s1)), (0, .ref x), (1, .int (iI (d : Int)))] → W pp l ee (headSpec wsX1_pass ({ frames := 3, cells := 0, slots := 0, locals := 68 } : Room)).room s m ([.ref x, .int (iI (d : Int))] : List Value).toArray below meth c H locs 0 0 (MQ below (va_Qi (fun r (_ : Unit) => r = iI ((dyn σ d).2)) (fun _ t9 => va_P G.1 vwCl (mW G x a 0 ((dyn σ d).1)) t9.heap) (zA x a s.heap.size)) ([.ref x, .int (iI (d : Int))] : List Value).toArray s 0 0 (zA x a s.heap.size)) (F0 m 25 ls []) := by
      intro r25
      induction r25 with
      | zero => intro j s1 hv25_0 hv25_1; exfalso; omega
      | succ r25 ih25 =>
        intro j s1 hv25_0 hv25_1 hv25_2 H locs ls hP hD hS hl
        have f_3 := mpf_n σ (d : Int) j
        have f_4 := mpf_k σ (d : Int) j 4 j (Nat.le_refl j)
        have f_5 := mpf_k σ (d : Int) j 5 j (Nat.le_refl j)
        have f_6 := mpf_k σ (d : Int) j 6 j (Nat.le_refl j)
        have f_7 := mpf_k σ (d : Int) j 7 j (Nat.le_refl j)
        have f_8 := hI.r4 j
        have f_9 := hI.r5 j
        have f_10 := hI.r6 j
        have f_11 := hI.r7 j
        have f_12 := hI.o7 j
        refine lv_iload_n hx hb dX1_pass_25 rfl (lv_at hl 0 rfl) ?_
        refine lv_aload_n hx hb dX1_pass_26 rfl (lv_at hl 2 rfl) ?_
        refine m_get (v := .int (iI ((mpf σ (d : Int) j).1.1 1 : Nat))) hx hb hts hin0 hown hK hP 0 rfl 6 (by decide) w_1 rfl dX1_pass_27 ?_
        refine z_icmp_ge (tgt := 127) hx hb dX1_pass_30 (by decide) (by omega) (by omega) (fun c_13 => ?_) (fun c_13 => ?_)
        ·
          refine lv_aload_n hx hb dX1_pass_127 rfl (lv_at hl 2 rfl) ?_
          refine lv_dup hx hb dX1_pass_128 rfl ?_
          refine m_get (v := .int (iI ((mpf σ (d : Int) j).1.1 2 : Nat))) hx hb hts hin0 hown hK hP 0 rfl 1 (by decide) w_2 rfl dX1_pass_129 ?_
          refine lv_iload_n hx hb dX1_pass_132 rfl (lv_at hl 3 rfl) ?_
          refine z_iadd hx hb dX1_pass_133 ?_
          refine z_re (v' := iI ((((mpf σ (d : Int) j).1.1 2) + d : Nat) : Int)) (congrArg iI (by omega)) ?_
          refine m_put hx hb hts hin0 hown hK hP hD hS 0 rfl 1 (by decide) w_2 rfl (by decide +kernel) (Nat.le_of_ble_eq_true rfl) mW_put1 dX1_pass_134 (fun H locs hP hD hS => ?_)
          refine lv_iload_n hx hb dX1_pass_137 rfl (lv_at hl 1 rfl) ?_
          have hfin : (stS (mpf σ (d : Int) j).1 2 (((mpf σ (d : Int) j).1.1 2) + d)) = (dyn σ d).1 := by rw [show j = σ.1 1 from by omega]; exact (pass_1 hI d).symm
          rw [hfin] at hP
          have hfit : 0 = 0 := by rfl
          rw [hfit] at hP
          refine z_re (v' := iI ((dyn σ d).2)) (congrArg iI (by rw [hv25_2, show j = σ.1 1 from by omega]; exact (pass_2 hI d).symm)) ?_
          exact W.iret hx hb hr (fun t ht hW => ⟨⟨_, (), rfl, rfl, (by show va_P _ _ _ t.heap; rw [ht]; exact hP)⟩, hS.F ht⟩) hS.2.2 dX1_pass_138
        ·
          refine lv_aload_n hx hb dX1_pass_33 rfl (lv_at hl 2 rfl) ?_
          refine lv_iload_n hx hb dX1_pass_34 rfl (lv_at hl 0 rfl) ?_
          refine zc_i (va_runV (As := [.int (iI (j : Int))]) (rest := []) ⟨hx, hb, hml, hown, hts⟩ (c_X1_isOpen l G x a (mpf σ (d : Int) j).1 0 j (by omega) (by omega)) (cwV 1 hts gX1_pass_X1_isOpen rfl rfl rfl (by decide +kernel) ⟨Nat.le_of_ble_eq_true rfl, Nat.le_of_ble_eq_true rfl⟩) (preVM hK hP) rfl rfl hl.1 rfl (lv_room (Nat.le_of_ble_eq_true rfl)) dX1_pass_35 ⟨Nat.le_of_ble_eq_true rfl, Nat.le_of_ble_eq_true rfl⟩) ?_
          have f_14 := opn_or (mpf σ (d : Int) j).1 j
          refine z_if_ne (tgt := 44) hx hb dX1_pass_38 (by decide) (by omega) (fun c_15 => ?_) (fun c_15 => ?_)
          ·
            refine lv_iload_n hx hb dX1_pass_44 rfl (lv_at hl 3 rfl) ?_
            refine lv_bipush (v := iI 30) hx hb dX1_pass_45 (by decide) ?_
            refine lv_aload_n hx hb dX1_pass_47 rfl (lv_at hl 2 rfl) ?_
            refine m_get (v := .ref (a 7)) hx hb hts hin0 hown hK hP 0 rfl 12 (by decide) w_3 rfl dX1_pass_48 ?_
            refine lv_iload_n hx hb dX1_pass_51 rfl (lv_at hl 0 rfl) ?_
            refine z_iald (v := iI ((mpf σ (d : Int) j).1.2 7 j)) hx hb hK hP 8 0 rfl rfl (k := j) (by omega) (by decide) rfl dX1_pass_52 ?_
            refine z_isub hx hb dX1_pass_53 ?_
            refine z_min hx hb (by rw [hml]; exact hl.1.symm) hown w_4 w_5 w_6 w_7 (Nat.le_of_ble_eq_true rfl) (Nat.le_of_ble_eq_true rfl) (Nat.le_of_ble_eq_true rfl) (Nat.le_of_ble_eq_true rfl) (by omega) (by omega) dX1_pass_54 ?_
            refine lv_istore (lv' := [(4, .int (iI (min (d : Int) (30 - ((mpf σ (d : Int) j).1.2 7 j))))), (3, .int (iI (j : Int))), (2, .int (iI s1)), (0, .ref x), (1, .int (iI (d : Int)))]) hx hb dX1_pass_57 hl (by decide) rfl (fun ls hl => ?_)
            refine lv_aload_n hx hb dX1_pass_59 rfl (lv_at hl 3 rfl) ?_
            refine lv_iload_n hx hb dX1_pass_60 rfl (lv_at hl 1 rfl) ?_
            refine lv_iload hx hb dX1_pass_61 (lv_at hl 0 rfl) ?_
            refine zc_i (va_runV (As := [.int (iI (j : Int)), .int (iI (min (d : Int) (30 - ((mpf σ (d : Int) j).1.2 7 j))))]) (rest := []) ⟨hx, hb, hml, hown, hts⟩ (c_X1_later l G x a (mpf σ (d : Int) j).1 0 j (min (d : Int) (30 - ((mpf σ (d : Int) j).1.2 7 j))) (by omega) (by omega) (by omega) (by omega) (by omega) (by omega)) (cwV 2 hts gX1_pass_X1_later rfl rfl rfl (by decide +kernel) ⟨Nat.le_of_ble_eq_true rfl, Nat.le_of_ble_eq_true rfl⟩) (preVM hK hP) rfl rfl hl.1 rfl (lv_room (Nat.le_of_ble_eq_true rfl)) dX1_pass_63 ⟨Nat.le_of_ble_eq_true rfl, Nat.le_of_ble_eq_true rfl⟩) ?_
            have f_16 := @lat_b0 (mpf σ (d : Int) j).1 j (min (d : Int) (30 - ((mpf σ (d : Int) j).1.2 7 j))) (by omega)
            refine lv_istore (lv' := [(5, .int (iI (lat (mpf σ (d : Int) j).1 j (min (d : Int) (30 - ((mpf σ (d : Int) j).1.2 7 j)))))), (4, .int (iI (min (d : Int) (30 - ((mpf σ (d : Int) j).1.2 7 j))))), (3, .int (iI (j : Int))), (2, .int (iI s1)), (0, .ref x), (1, .int (iI (d : Int)))]) hx hb dX1_pass_66 hl (by decide) rfl (fun ls hl => ?_)
            refine lv_aload_n hx hb dX1_pass_68 rfl (lv_at hl 4 rfl) ?_
            refine m_get (v := .ref (a 6)) hx hb hts hin0 hown hK hP 0 rfl 11 (by decide) w_8 rfl dX1_pass_69 ?_
            refine lv_iload_n hx hb dX1_pass_72 rfl (lv_at hl 2 rfl) ?_
            refine lv_dup2_11 hx hb dX1_pass_73 rfl rfl ?_
            refine z_iald (v := iI ((mpf σ (d : Int) j).1.2 6 j)) hx hb hK hP 7 0 rfl rfl (k := j) (by omega) (by decide) rfl dX1_pass_74 ?_
            refine lv_iload hx hb dX1_pass_75 (lv_at hl 1 rfl) ?_
            refine z_iadd hx hb dX1_pass_77 ?_
            refine z_iast hx hb hK hP hD hS 7 0 rfl rfl (k := j) (by omega) (by decide) mW_set6 dX1_pass_78 (fun H locs hP hD hS => ?_)
            refine lv_aload_n hx hb dX1_pass_79 rfl (lv_at hl 4 rfl) ?_
            refine m_get (v := .ref (a 7)) hx hb hts hin0 hown hK hP 0 rfl 12 (by decide) w_3 rfl dX1_pass_80 ?_
            refine lv_iload_n hx hb dX1_pass_83 rfl (lv_at hl 2 rfl) ?_
            refine lv_dup2_11 hx hb dX1_pass_84 rfl rfl ?_
            refine z_iald (v := iI ((mpf σ (d : Int) j).1.2 7 j)) hx hb hK hP 8 0 rfl rfl (k := j) (by omega) (by decide) (congrArg iI (by simp [stA, stS])) dX1_pass_85 ?_
            refine lv_iload hx hb dX1_pass_86 (lv_at hl 1 rfl) ?_
            refine z_iadd hx hb dX1_pass_88 ?_
            refine z_iast hx hb hK hP hD hS 8 0 rfl rfl (k := j) (by omega) (by decide) mW_set7 dX1_pass_89 (fun H locs hP hD hS => ?_)
            refine lv_aload_n hx hb dX1_pass_90 rfl (lv_at hl 4 rfl) ?_
            refine m_get (v := .ref (a 4)) hx hb hts hin0 hown hK hP 0 rfl 9 (by decide) w_9 rfl dX1_pass_91 ?_
            refine lv_iload_n hx hb dX1_pass_94 rfl (lv_at hl 2 rfl) ?_
            refine lv_iload hx hb dX1_pass_95 (lv_at hl 0 rfl) ?_
            refine z_iast hx hb hK hP hD hS 5 0 rfl rfl (k := j) (by omega) (by decide) mW_set4 dX1_pass_97 (fun H locs hP hD hS => ?_)
            refine lv_aload_n hx hb dX1_pass_98 rfl (lv_at hl 4 rfl) ?_
            refine m_get (v := .ref (a 7)) hx hb hts hin0 hown hK hP 0 rfl 12 (by decide) w_3 rfl dX1_pass_99 ?_
            refine lv_iload_n hx hb dX1_pass_102 rfl (lv_at hl 2 rfl) ?_
            refine z_iald (v := iI (((mpf σ (d : Int) j).1.2 7 j) + (min (d : Int) (30 - ((mpf σ (d : Int) j).1.2 7 j))))) hx hb hK hP 8 0 rfl rfl (k := j) (by omega) (by decide) (congrArg iI (by simp [stA, stS])) dX1_pass_103 ?_
            refine lv_bipush (v := iI 30) hx hb dX1_pass_104 (by decide) ?_
            refine z_icmp_ge (tgt := 112) hx hb dX1_pass_106 (by decide) (by omega) (by omega) (fun c_17 => ?_) (fun c_17 => ?_)
            ·
              refine lv_aload_n hx hb dX1_pass_112 rfl (lv_at hl 4 rfl) ?_
              refine lv_iload_n hx hb dX1_pass_113 rfl (lv_at hl 2 rfl) ?_
              refine lv_iconst (v := iI 2) hx hb dX1_pass_114 rfl ?_
              refine zc_wv (va_runV (As := [.int (iI (j : Int)), .int (iI 2)]) (rest := []) ⟨hx, hb, hml, hown, hts⟩ (c_X1_close l G x a _ (stA (stA (stA (mpf σ (d : Int) j).1 6 j (((mpf σ (d : Int) j).1.2 6 j) + (min (d : Int) (30 - ((mpf σ (d : Int) j).1.2 7 j))))) 7 j (((mpf σ (d : Int) j).1.2 7 j) + (min (d : Int) (30 - ((mpf σ (d : Int) j).1.2 7 j))))) 4 j (lat (mpf σ (d : Int) j).1 j (min (d : Int) (30 - ((mpf σ (d : Int) j).1.2 7 j))))) 0 j 2 (by omega)) (cwV 2 hts gX1_pass_X1_close rfl rfl rfl (by decide +kernel) ⟨Nat.le_of_ble_eq_true rfl, Nat.le_of_ble_eq_true rfl⟩) (preWM hK hP hD) rfl rfl hl.1 rfl (lv_room (Nat.le_of_ble_eq_true rfl)) dX1_pass_115 ⟨Nat.le_of_ble_eq_true rfl, Nat.le_of_ble_eq_true rfl⟩) hS (fun q h => zA_mono hS.1 h) (fun H locs hP hS _ _ => ?_)
              have hD := mW_D (t' := 0) (σ' := (clo (stA (stA (stA (mpf σ (d : Int) j).1 6 j (((mpf σ (d : Int) j).1.2 6 j) + (min (d : Int) (30 - ((mpf σ (d : Int) j).1.2 7 j))))) 7 j (((mpf σ (d : Int) j).1.2 7 j) + (min (d : Int) (30 - ((mpf σ (d : Int) j).1.2 7 j))))) 4 j (lat (mpf σ (d : Int) j).1 j (min (d : Int) (30 - ((mpf σ (d : Int) j).1.2 7 j))))) j 2)) hD
              refine lv_iinc (v := iI (s1 + 1)) (lv' := [(2, .int (iI (s1 + 1))), (5, .int (iI (lat (mpf σ (d : Int) j).1 j (min (d : Int) (30 - ((mpf σ (d : Int) j).1.2 7 j)))))), (4, .int (iI (min (d : Int) (30 - ((mpf σ (d : Int) j).1.2 7 j))))), (3, .int (iI (j : Int))), (0, .ref x), (1, .int (iI (d : Int)))]) hx hb dX1_pass_118 hl (k := 3) rfl (iI_add _ _) (by decide) rfl (fun ls hl => ?_)
              refine lv_iinc (v := iI ((j : Int) + 1)) (lv' := [(3, .int (iI ((j : Int) + 1))), (2, .int (iI (s1 + 1))), (5, .int (iI (lat (mpf σ (d : Int) j).1 j (min (d : Int) (30 - ((mpf σ (d : Int) j).1.2 7 j)))))), (4, .int (iI (min (d : Int) (30 - ((mpf σ (d : Int) j).1.2 7 j))))), (0, .ref x), (1, .int (iI (d : Int)))]) hx hb dX1_pass_121 hl (k := 3) rfl (iI_add _ _) (by decide) rfl (fun ls hl => ?_)
              refine lv_goto (tgt := 25) hx hb dX1_pass_124 (by decide) ?_
              have hfs : (clo (stA (stA (stA (mpf σ (d : Int) j).1 6 j (((mpf σ (d : Int) j).1.2 6 j) + (min (d : Int) (30 - ((mpf σ (d : Int) j).1.2 7 j))))) 7 j (((mpf σ (d : Int) j).1.2 7 j) + (min (d : Int) (30 - ((mpf σ (d : Int) j).1.2 7 j))))) 4 j (lat (mpf σ (d : Int) j).1 j (min (d : Int) (30 - ((mpf σ (d : Int) j).1.2 7 j))))) j 2) = (mpf σ (d : Int) (j + 1)).1 := by
                rw [mpf_s, if_pos (by omega)]; unfold mpc; first | (rw [if_pos (by omega)]; done) | (rw [if_neg (by omega)])
              rw [hfs] at hP hD
              exact ih25 (j + 1) (s1 + 1) (by omega) (by omega) (by rw [mpf_s, if_pos (by omega)]; (try dsimp only); rw [← hv25_2]; split <;> omega) H locs ls hP hD hS (lv_sub hl [0, 1, 4, 5] rfl)
            ·
              refine lv_goto (tgt := 121) hx hb dX1_pass_109 (by decide) ?_
              refine lv_iinc (v := iI ((j : Int) + 1)) (lv' := [(3, .int (iI ((j : Int) + 1))), (5, .int (iI (lat (mpf σ (d : Int) j).1 j (min (d : Int) (30 - ((mpf σ (d : Int) j).1.2 7 j)))))), (4, .int (iI (min (d : Int) (30 - ((mpf σ (d : Int) j).1.2 7 j))))), (2, .int (iI s1)), (0, .ref x), (1, .int (iI (d : Int)))]) hx hb dX1_pass_121 hl (k := 2) rfl (iI_add _ _) (by decide) rfl (fun ls hl => ?_)
              refine lv_goto (tgt := 25) hx hb dX1_pass_124 (by decide) ?_
              have hfs : (stA (stA (stA (mpf σ (d : Int) j).1 6 j (((mpf σ (d : Int) j).1.2 6 j) + (min (d : Int) (30 - ((mpf σ (d : Int) j).1.2 7 j))))) 7 j (((mpf σ (d : Int) j).1.2 7 j) + (min (d : Int) (30 - ((mpf σ (d : Int) j).1.2 7 j))))) 4 j (lat (mpf σ (d : Int) j).1 j (min (d : Int) (30 - ((mpf σ (d : Int) j).1.2 7 j))))) = (mpf σ (d : Int) (j + 1)).1 := by
                rw [mpf_s, if_pos (by omega)]; unfold mpc; first | (rw [if_pos (by omega)]; done) | (rw [if_neg (by omega)])
              rw [hfs] at hP hD
              exact ih25 (j + 1) s1 (by omega) (by omega) (by rw [mpf_s, if_pos (by omega)]; (try dsimp only); rw [← hv25_2]; split <;> omega) H locs ls hP hD hS (lv_sub hl [0, 3, 4, 5] rfl)
          ·
            refine lv_goto (tgt := 121) hx hb dX1_pass_41 (by decide) ?_
            refine lv_iinc (v := iI ((j : Int) + 1)) (lv' := [(3, .int (iI ((j : Int) + 1))), (2, .int (iI s1)), (0, .ref x), (1, .int (iI (d : Int)))]) hx hb dX1_pass_121 hl (k := 0) rfl (iI_add _ _) (by decide) rfl (fun ls hl => ?_)
            refine lv_goto (tgt := 25) hx hb dX1_pass_124 (by decide) ?_
            have hfs : (mpf σ (d : Int) j).1 = (mpf σ (d : Int) (j + 1)).1 := by
              rw [mpf_s, if_neg (by omega)]
            rw [hfs] at hP hD
            exact ih25 (j + 1) s1 (by omega) (by omega) (by rw [mpf_s, if_neg (by omega)]; exact hv25_2) H locs ls hP hD hS (lv_sub hl [0, 1, 2, 3] rfl)
    exact LP25 (σ.1 1 - (0) + 1) 0 0 (by omega) (by omega) (by rfl) H locs ls hP hD hS (lv_sub hl [0, 1, 2, 3] rfl)
  ·
    exfalso
    omega
set_option maxHeartbeats 4000000 in
set_option maxRecDepth 100000 in
theorem e1_X1_pass (l : Launch) (G : zG) (x : Nat) (a : Nat → Nat) (sz : Nat) (B : Nat) (σ : zS) (t : Nat) (z : Int) (hI : zI B σ) (hzb : -2147483648 ≤ z ∧ z < 2147483648) (hbad : z < 1 ∨ 60 < z) : Met l yX1_pass wsX1_pass ({ frames := 1, cells := 0, slots := 0, locals := 22 } : Room) (va_Pc [.ref x, .int (iI z)] (wM G x a t σ sz)) (va_Qi (fun r (_ : Unit) => r = iI 0) (fun _ t9 => va_P G.1 vwCl (mW G x a 1 σ) t9.heap) (zA x a sz)) 0 0 (zA x a sz) := by
  refine Met.ofW (cc := cX1_pass) (maxL := 6) (ret := (some .int)) (by decide) rfl ?_
  intro pp ee s m args below meth c s₁ B9 hml hv
  obtain ⟨rfl, hsz, hP, hK, hD0⟩ := hv
  subst hsz
  have hD := mW_zA (sz := s.heap.size) hD0
  have hS : va_S (zA x a s.heap.size) s.heap s.heap [] := va_S.rf
  have hx := B9.exec
  have hb := B9.bytes
  have hr := B9.returns
  have hts := atoms_spec (ws := wsX1_pass) B9.pre
  have hown : s.vm.findClass RX1 = some m.cls := findClass_of_methodNamed B9.named
  have hlocks := B9.notSynchronized
  have hin0 : ∀ w ∈ wsX10, w ∈ wsX1_pass := by decide +kernel
  have w_0 := hts (.fieldLink RX1 35 "ApologyLedgerModel" "thrown" "I") (by decide +kernel)
  have hl := lv_entry ([.ref x, .int (iI z)]) (n := 6) (Nat.le_of_ble_eq_true rfl)
  rw [lg_entry_eq]
  generalize (lg_sl ([.ref x, .int (iI z)]) ++ List.replicate (6 - (lg_sl ([.ref x, .int (iI z)])).length) Slot.unset).toArray = ls at hl ⊢
  have hl : lv_has ls 6 [(0, .ref x), (1, .int (iI z))] := hl
  have hIn := hI.n
  have hIb := hI.b
  refine lv_aload_n hx hb dX1_pass_0 rfl (lv_at hl 0 rfl) ?_
  refine lv_iconst (v := iI 0) hx hb dX1_pass_1 rfl ?_
  refine z_re (v' := iI ((0 : Nat) : Int)) (congrArg iI (by omega)) ?_
  refine m_put hx hb hts hin0 hown hK hP hD hS 0 rfl 0 (by decide) w_0 rfl (by decide +kernel) (Nat.le_of_ble_eq_true rfl) mW_put0 dX1_pass_2 (fun H locs hP hD hS => ?_)
  refine lv_iload_n hx hb dX1_pass_5 rfl (lv_at hl 1 rfl) ?_
  refine lv_iconst (v := iI 1) hx hb dX1_pass_6 rfl ?_
  refine lv_bipush (v := iI 60) hx hb dX1_pass_7 (by decide) ?_
  refine zc_i (va_runS (As := [.int (iI z), .int (iI 1), .int (iI 60)]) (rest := []) ⟨hx, hb, hml, hown, hts⟩ (c_X1_isIn l  z 1 60 (by omega) (by omega) (by omega)) (va_cwS 3 hts gX1_pass_X1_isIn rfl rfl rfl (by decide +kernel) ⟨Nat.le_of_ble_eq_true rfl, Nat.le_of_ble_eq_true rfl⟩) preS0 rfl rfl hl.1 rfl (lv_room (Nat.le_of_ble_eq_true rfl)) dX1_pass_9 ⟨Nat.le_of_ble_eq_true rfl, Nat.le_of_ble_eq_true rfl⟩) ?_
  have f_1 := inn_or z 1 60
  refine z_if_ne (tgt := 21) hx hb dX1_pass_12 (by decide) (by omega) (fun c_2 => ?_) (fun c_2 => ?_)
  ·
    exfalso
    omega
  ·
    refine lv_aload_n hx hb dX1_pass_15 rfl (lv_at hl 0 rfl) ?_
    refine lv_iconst (v := iI 1) hx hb dX1_pass_16 rfl ?_
    refine z_re (v' := iI ((1 : Nat) : Int)) (congrArg iI (by omega)) ?_
    refine zc_wi (va_runV (As := [.int (iI ((1 : Nat) : Int))]) (rest := []) ⟨hx, hb, hml, hown, hts⟩ (c_X1_no l G x a _ σ 0 1) (cwV 1 hts gX1_pass_X1_no rfl rfl rfl (by decide +kernel) ⟨Nat.le_of_ble_eq_true rfl, Nat.le_of_ble_eq_true rfl⟩) (preWM hK hP hD) rfl rfl hl.1 rfl (lv_room (Nat.le_of_ble_eq_true rfl)) dX1_pass_17 ⟨Nat.le_of_ble_eq_true rfl, Nat.le_of_ble_eq_true rfl⟩) hS (fun q h => zA_mono hS.1 h) (fun H locs hP hS _ _ => ?_)
    have hD := mW_D (t' := 1) (σ' := σ) hD
    have hfin : σ = σ := by rfl
    rw [hfin] at hP
    have hfit : 1 = 1 := by rfl
    rw [hfit] at hP
    refine z_re (v' := iI 0) (congrArg iI (by first | rfl | omega)) ?_
    exact W.iret hx hb hr (fun t ht hW => ⟨⟨_, (), rfl, rfl, (by show va_P _ _ _ t.heap; rw [ht]; exact hP)⟩, hS.F ht⟩) hS.2.2 dX1_pass_20
set_option maxHeartbeats 4000000 in
set_option maxRecDepth 100000 in
theorem v_X1_meanWeight (l : Launch) (G : zG) (x : Nat) (a : Nat → Nat) (sz : Nat) (B : Nat) (σ : zS) (t : Nat) (hI : zI B σ) : Met l yX1_meanWeight wsX1_meanWeight ({ frames := 1, cells := 0, slots := 0, locals := 24 } : Room) (va_Pc [.ref x] (wM G x a t σ sz)) (va_Qd (fun r (_ : Unit) => r = (mea σ)) (fun _ t9 => va_P G.1 vwCl (mW G x a 0 σ) t9.heap) (zA x a sz)) 0 0 (zA x a sz) := by
  refine Met.ofW (cc := cX1_meanWeight) (maxL := 1) (ret := (some .double)) (by decide) rfl ?_
  intro pp ee s m args below meth c s₁ B9 hml hv
  obtain ⟨rfl, hsz, hP, hK, hD0⟩ := hv
  subst hsz
  have hD := mW_zA (sz := s.heap.size) hD0
  have hS : va_S (zA x a s.heap.size) s.heap s.heap [] := va_S.rf
  have hx := B9.exec
  have hb := B9.bytes
  have hr := B9.returns
  have hts := atoms_spec (ws := wsX1_meanWeight) B9.pre
  have hown : s.vm.findClass RX1 = some m.cls := findClass_of_methodNamed B9.named
  have hlocks := B9.notSynchronized
  have hin0 : ∀ w ∈ wsX10, w ∈ wsX1_meanWeight := by decide +kernel
  have w_0 := hts (.fieldLink RX1 35 "ApologyLedgerModel" "thrown" "I") (by decide +kernel)
  have hl := lv_entry ([.ref x]) (n := 1) (Nat.le_of_ble_eq_true rfl)
  rw [lg_entry_eq]
  generalize (lg_sl ([.ref x]) ++ List.replicate (1 - (lg_sl ([.ref x])).length) Slot.unset).toArray = ls at hl ⊢
  have hl : lv_has ls 1 [(0, .ref x)] := hl
  have hIn := hI.n
  have hIb := hI.b
  refine lv_aload_n hx hb dX1_meanWeight_0 rfl (lv_at hl 0 rfl) ?_
  refine lv_iconst (v := iI 0) hx hb dX1_meanWeight_1 rfl ?_
  refine z_re (v' := iI ((0 : Nat) : Int)) (congrArg iI (by omega)) ?_
  refine m_put hx hb hts hin0 hown hK hP hD hS 0 rfl 0 (by decide) w_0 rfl (by decide +kernel) (Nat.le_of_ble_eq_true rfl) mW_put0 dX1_meanWeight_2 (fun H locs hP hD hS => ?_)
  refine lv_aload_n hx hb dX1_meanWeight_5 rfl (lv_at hl 0 rfl) ?_
  refine lv_iconst (v := iI 0) hx hb dX1_meanWeight_6 rfl ?_
  refine zc_i (va_runV (As := [.int (iI 0)]) (rest := []) ⟨hx, hb, hml, hown, hts⟩ (c_X1_count l G x a B σ 0 0 hI (by omega)) (cwV 1 hts gX1_meanWeight_X1_count rfl rfl rfl (by decide +kernel) ⟨Nat.le_of_ble_eq_true rfl, Nat.le_of_ble_eq_true rfl⟩) (preVM hK hP) rfl rfl hl.1 rfl (lv_room (Nat.le_of_ble_eq_true rfl)) dX1_meanWeight_7 ⟨Nat.le_of_ble_eq_true rfl, Nat.le_of_ble_eq_true rfl⟩) ?_
  have f_1 := cnt_bd hI 0
  refine z_if_ne (tgt := 17) hx hb dX1_meanWeight_10 (by decide) (by omega) (fun c_2 => ?_) (fun c_2 => ?_)
  ·
    refine lv_aload_n hx hb dX1_meanWeight_17 rfl (lv_at hl 0 rfl) ?_
    refine lv_iconst (v := iI (-1)) hx hb dX1_meanWeight_18 rfl ?_
    refine lv_iconst (v := iI (-1)) hx hb dX1_meanWeight_19 rfl ?_
    refine zc_i (va_runV (As := [.int (iI (-1)), .int (iI (-1))]) (rest := []) ⟨hx, hb, hml, hown, hts⟩ (c_done_t l G x a B σ 0 hI) (cwV 2 hts gX1_meanWeight_X1_done rfl rfl rfl (by decide +kernel) ⟨Nat.le_of_ble_eq_true rfl, Nat.le_of_ble_eq_true rfl⟩) (preVM hK hP) rfl rfl hl.1 rfl (lv_room (Nat.le_of_ble_eq_true rfl)) dX1_meanWeight_20 ⟨Nat.le_of_ble_eq_true rfl, Nat.le_of_ble_eq_true rfl⟩) ?_
    have f_3 := tot_bj hI (Nat.le_refl (σ.1 1))
    refine lv_i2d hx hb dX1_meanWeight_23 ?_
    refine lv_aload_n hx hb dX1_meanWeight_24 rfl (lv_at hl 0 rfl) ?_
    refine lv_iconst (v := iI 0) hx hb dX1_meanWeight_25 rfl ?_
    refine zc_i (va_runV (As := [.int (iI 0)]) (rest := [.double (FP.i2d (iI (tot σ)))]) ⟨hx, hb, hml, hown, hts⟩ (c_X1_count l G x a B σ 0 0 hI (by omega)) (cwV 1 hts gX1_meanWeight_X1_count rfl rfl rfl (by decide +kernel) ⟨Nat.le_of_ble_eq_true rfl, Nat.le_of_ble_eq_true rfl⟩) (preVM hK hP) rfl rfl hl.1 rfl (lv_room (Nat.le_of_ble_eq_true rfl)) dX1_meanWeight_26 ⟨Nat.le_of_ble_eq_true rfl, Nat.le_of_ble_eq_true rfl⟩) ?_
    have f_4 := cnt_bd hI 0
    refine lv_i2d hx hb dX1_meanWeight_29 ?_
    refine lv_ddiv hx hb dX1_meanWeight_30 (mea_n2 hI (by omega)) ?_
    have hfin : σ = σ := by rfl
    rw [hfin] at hP
    have hfit : 0 = 0 := by rfl
    rw [hfit] at hP
    exact W.dret hx hb hr (fun t ht hW => ⟨⟨_, (), rfl, (by rw [mea, if_neg (by omega)]), (by show va_P _ _ _ t.heap; rw [ht]; exact hP)⟩, hS.F ht⟩) hS.2.2 dX1_meanWeight_31
  ·
    refine lv_dconst0 hx hb dX1_meanWeight_13 ?_
    refine lv_goto (tgt := 31) hx hb dX1_meanWeight_14 (by decide) ?_
    have hfin : σ = σ := by rfl
    rw [hfin] at hP
    have hfit : 0 = 0 := by rfl
    rw [hfit] at hP
    exact W.dret hx hb hr (fun t ht hW => ⟨⟨_, (), rfl, (by rw [mea, if_pos (by omega)]), (by show va_P _ _ _ t.heap; rw [ht]; exact hP)⟩, hS.F ht⟩) hS.2.2 dX1_meanWeight_31
