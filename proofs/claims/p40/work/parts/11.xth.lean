/-! THROWS of ApologyLedger: what it may not be asked. -/
set_option maxHeartbeats 4000000 in
set_option maxRecDepth 100000 in
theorem t_X0_requirePride (l : Launch) (hfl : l.stackTraces = false)  (sz : Nat) (z : Int) (hzb : -2147483648 ≤ z ∧ z < 2147483648) (hbad : z < 0 ∨ 9 < z) : vx_Met l yX0_requirePride wsX0_requirePride ({ frames := 6, cells := 1, slots := 6, locals := 90 } : Room) (va_Pc [.int (iI z)] (pTS sz)) (QvT sz) (XT zIAE sz) 1 6 (nA sz) := by
  refine vx_ofW (cc := cX0_requirePride) (maxL := 1) (ret := none) (by decide) rfl ?_
  intro pp ee s m args below meth c s₁ B9 hml ht hv
  obtain ⟨rfl, hsz, hE⟩ := hv
  subst hsz
  have hx := B9.exec
  have hb := B9.bytes
  have hr := B9.returns
  have hts := atoms_spec (ws := wsX0_requirePride) B9.pre
  have hown : s.vm.findClass RX0 = some m.cls := findClass_of_methodNamed B9.named
  have hlocks := B9.notSynchronized
  have w_0 : (.classLink RX0 53 zIAE : Cond) ∈ wsX0_requirePride := by decide +kernel
  have w_1 : (.initialized zIAE : Cond) ∈ wsX0_requirePride := by decide +kernel
  have w_2 : ∀ w ∈ (vx_atS RX0 57 zIAE zXN).filter goodWord, w ∈ wsX0_requirePride := by decide +kernel
  have hl := lv_entry ([.int (iI z)]) (n := 1) (Nat.le_of_ble_eq_true rfl)
  rw [lg_entry_eq]
  generalize (lg_sl ([.int (iI z)]) ++ List.replicate (1 - (lg_sl ([.int (iI z)])).length) Slot.unset).toArray = ls at hl ⊢
  have hl : lv_has ls 1 [(0, .int (iI z))] := hl
  refine lv_iload_n hx hb dX0_requirePride_0 rfl (lv_at hl 0 rfl) ?_
  refine z_if_lt (tgt := 10) hx hb dX0_requirePride_1 (by decide) (by omega) (fun c_1 => ?_) (fun c_1 => ?_)
  ·
    exact zt_new hx hb hfl hown hts w_0 w_1 w_2 zB_IAE (by decide +kernel) zO_IAE hE (List.mem_of_getElem? (i := 4) rfl) (by rw [hml]; exact hl.1) dX0_requirePride_10 dX0_requirePride_13 dX0_requirePride_14 dX0_requirePride_16 dX0_requirePride_19 ht (Nat.le_of_ble_eq_true rfl) (Nat.le_of_ble_eq_true rfl) (Nat.le_of_ble_eq_true rfl) (Nat.le_of_ble_eq_true rfl) hlocks
  ·
    refine lv_iload_n hx hb dX0_requirePride_4 rfl (lv_at hl 0 rfl) ?_
    refine lv_bipush (v := iI 9) hx hb dX0_requirePride_5 (by decide) ?_
    refine z_icmp_le (tgt := 20) hx hb dX0_requirePride_7 (by decide) (by omega) (by omega) (fun c_2 => ?_) (fun c_2 => ?_)
    ·
      exfalso
      omega
    ·
      exact zt_new hx hb hfl hown hts w_0 w_1 w_2 zB_IAE (by decide +kernel) zO_IAE hE (List.mem_of_getElem? (i := 4) rfl) (by rw [hml]; exact hl.1) dX0_requirePride_10 dX0_requirePride_13 dX0_requirePride_14 dX0_requirePride_16 dX0_requirePride_19 ht (Nat.le_of_ble_eq_true rfl) (Nat.le_of_ble_eq_true rfl) (Nat.le_of_ble_eq_true rfl) (Nat.le_of_ble_eq_true rfl) hlocks
set_option maxHeartbeats 4000000 in
set_option maxRecDepth 100000 in
theorem t_X0_requireWords (l : Launch) (hfl : l.stackTraces = false)  (sz : Nat) (z : Int) (hzb : -2147483648 ≤ z ∧ z < 2147483648) (hbad : z < 1 ∨ 20 < z) : vx_Met l yX0_requireWords wsX0_requireWords ({ frames := 6, cells := 1, slots := 6, locals := 90 } : Room) (va_Pc [.int (iI z)] (pTS sz)) (QvT sz) (XT zIAE sz) 1 6 (nA sz) := by
  refine vx_ofW (cc := cX0_requireWords) (maxL := 1) (ret := none) (by decide) rfl ?_
  intro pp ee s m args below meth c s₁ B9 hml ht hv
  obtain ⟨rfl, hsz, hE⟩ := hv
  subst hsz
  have hx := B9.exec
  have hb := B9.bytes
  have hr := B9.returns
  have hts := atoms_spec (ws := wsX0_requireWords) B9.pre
  have hown : s.vm.findClass RX0 = some m.cls := findClass_of_methodNamed B9.named
  have hlocks := B9.notSynchronized
  have w_0 : (.classLink RX0 53 zIAE : Cond) ∈ wsX0_requireWords := by decide +kernel
  have w_1 : (.initialized zIAE : Cond) ∈ wsX0_requireWords := by decide +kernel
  have w_2 : ∀ w ∈ (vx_atS RX0 57 zIAE zXN).filter goodWord, w ∈ wsX0_requireWords := by decide +kernel
  have hl := lv_entry ([.int (iI z)]) (n := 1) (Nat.le_of_ble_eq_true rfl)
  rw [lg_entry_eq]
  generalize (lg_sl ([.int (iI z)]) ++ List.replicate (1 - (lg_sl ([.int (iI z)])).length) Slot.unset).toArray = ls at hl ⊢
  have hl : lv_has ls 1 [(0, .int (iI z))] := hl
  refine lv_iload_n hx hb dX0_requireWords_0 rfl (lv_at hl 0 rfl) ?_
  refine lv_iconst (v := iI 1) hx hb dX0_requireWords_1 rfl ?_
  refine z_icmp_lt (tgt := 11) hx hb dX0_requireWords_2 (by decide) (by omega) (by omega) (fun c_1 => ?_) (fun c_1 => ?_)
  ·
    exact zt_new hx hb hfl hown hts w_0 w_1 w_2 zB_IAE (by decide +kernel) zO_IAE hE (List.mem_of_getElem? (i := 5) rfl) (by rw [hml]; exact hl.1) dX0_requireWords_11 dX0_requireWords_14 dX0_requireWords_15 dX0_requireWords_17 dX0_requireWords_20 ht (Nat.le_of_ble_eq_true rfl) (Nat.le_of_ble_eq_true rfl) (Nat.le_of_ble_eq_true rfl) (Nat.le_of_ble_eq_true rfl) hlocks
  ·
    refine lv_iload_n hx hb dX0_requireWords_5 rfl (lv_at hl 0 rfl) ?_
    refine lv_bipush (v := iI 20) hx hb dX0_requireWords_6 (by decide) ?_
    refine z_icmp_le (tgt := 21) hx hb dX0_requireWords_8 (by decide) (by omega) (by omega) (fun c_2 => ?_) (fun c_2 => ?_)
    ·
      exfalso
      omega
    ·
      exact zt_new hx hb hfl hown hts w_0 w_1 w_2 zB_IAE (by decide +kernel) zO_IAE hE (List.mem_of_getElem? (i := 5) rfl) (by rw [hml]; exact hl.1) dX0_requireWords_11 dX0_requireWords_14 dX0_requireWords_15 dX0_requireWords_17 dX0_requireWords_20 ht (Nat.le_of_ble_eq_true rfl) (Nat.le_of_ble_eq_true rfl) (Nat.le_of_ble_eq_true rfl) (Nat.le_of_ble_eq_true rfl) hlocks
set_option maxHeartbeats 4000000 in
set_option maxRecDepth 100000 in
theorem t_X0_requireDays (l : Launch) (hfl : l.stackTraces = false)  (sz : Nat) (z : Int) (hzb : -2147483648 ≤ z ∧ z < 2147483648) (hbad : z < 1 ∨ 60 < z) : vx_Met l yX0_requireDays wsX0_requireDays ({ frames := 6, cells := 1, slots := 6, locals := 90 } : Room) (va_Pc [.int (iI z)] (pTS sz)) (QvT sz) (XT zIAE sz) 1 6 (nA sz) := by
  refine vx_ofW (cc := cX0_requireDays) (maxL := 1) (ret := none) (by decide) rfl ?_
  intro pp ee s m args below meth c s₁ B9 hml ht hv
  obtain ⟨rfl, hsz, hE⟩ := hv
  subst hsz
  have hx := B9.exec
  have hb := B9.bytes
  have hr := B9.returns
  have hts := atoms_spec (ws := wsX0_requireDays) B9.pre
  have hown : s.vm.findClass RX0 = some m.cls := findClass_of_methodNamed B9.named
  have hlocks := B9.notSynchronized
  have w_0 : (.classLink RX0 53 zIAE : Cond) ∈ wsX0_requireDays := by decide +kernel
  have w_1 : (.initialized zIAE : Cond) ∈ wsX0_requireDays := by decide +kernel
  have w_2 : ∀ w ∈ (vx_atS RX0 57 zIAE zXN).filter goodWord, w ∈ wsX0_requireDays := by decide +kernel
  have hl := lv_entry ([.int (iI z)]) (n := 1) (Nat.le_of_ble_eq_true rfl)
  rw [lg_entry_eq]
  generalize (lg_sl ([.int (iI z)]) ++ List.replicate (1 - (lg_sl ([.int (iI z)])).length) Slot.unset).toArray = ls at hl ⊢
  have hl : lv_has ls 1 [(0, .int (iI z))] := hl
  refine lv_iload_n hx hb dX0_requireDays_0 rfl (lv_at hl 0 rfl) ?_
  refine lv_iconst (v := iI 1) hx hb dX0_requireDays_1 rfl ?_
  refine z_icmp_lt (tgt := 11) hx hb dX0_requireDays_2 (by decide) (by omega) (by omega) (fun c_1 => ?_) (fun c_1 => ?_)
  ·
    exact zt_new hx hb hfl hown hts w_0 w_1 w_2 zB_IAE (by decide +kernel) zO_IAE hE (List.mem_of_getElem? (i := 6) rfl) (by rw [hml]; exact hl.1) dX0_requireDays_11 dX0_requireDays_14 dX0_requireDays_15 dX0_requireDays_17 dX0_requireDays_20 ht (Nat.le_of_ble_eq_true rfl) (Nat.le_of_ble_eq_true rfl) (Nat.le_of_ble_eq_true rfl) (Nat.le_of_ble_eq_true rfl) hlocks
  ·
    refine lv_iload_n hx hb dX0_requireDays_5 rfl (lv_at hl 0 rfl) ?_
    refine lv_bipush (v := iI 60) hx hb dX0_requireDays_6 (by decide) ?_
    refine z_icmp_le (tgt := 21) hx hb dX0_requireDays_8 (by decide) (by omega) (by omega) (fun c_2 => ?_) (fun c_2 => ?_)
    ·
      exfalso
      omega
    ·
      exact zt_new hx hb hfl hown hts w_0 w_1 w_2 zB_IAE (by decide +kernel) zO_IAE hE (List.mem_of_getElem? (i := 6) rfl) (by rw [hml]; exact hl.1) dX0_requireDays_11 dX0_requireDays_14 dX0_requireDays_15 dX0_requireDays_17 dX0_requireDays_20 ht (Nat.le_of_ble_eq_true rfl) (Nat.le_of_ble_eq_true rfl) (Nat.le_of_ble_eq_true rfl) (Nat.le_of_ble_eq_true rfl) hlocks
set_option maxHeartbeats 4000000 in
set_option maxRecDepth 100000 in
theorem t_X0_requirePerson (l : Launch) (hfl : l.stackTraces = false) (G : zG) (x : Nat) (a : Nat → Nat) (sz : Nat) (B : Nat) (σ : zS) (z : Int) (hI : zI B σ) (hzb : -2147483648 ≤ z ∧ z < 2147483648) (hbad : z < 0 ∨ (σ.1 0 : Int) ≤ z) : vx_Met l yX0_requirePerson wsX0_requirePerson ({ frames := 6, cells := 1, slots := 6, locals := 90 } : Room) (va_Pc [.ref x, .int (iI z)] (pT G x a σ sz)) (QvT sz) (XT zIOE sz) 1 6 (nA sz) := by
  refine vx_ofW (cc := cX0_requirePerson) (maxL := 2) (ret := none) (by decide) rfl ?_
  intro pp ee s m args below meth c s₁ B9 hml ht hv
  obtain ⟨rfl, hsz, hP, hK, hE⟩ := hv
  subst hsz
  have hx := B9.exec
  have hb := B9.bytes
  have hr := B9.returns
  have hts := atoms_spec (ws := wsX0_requirePerson) B9.pre
  have hown : s.vm.findClass RX0 = some m.cls := findClass_of_methodNamed B9.named
  have hlocks := B9.notSynchronized
  have hin0 : ∀ w ∈ wsX00, w ∈ wsX0_requirePerson := by decide +kernel
  have w_0 : (.classLink RX0 143 zIOE : Cond) ∈ wsX0_requirePerson := by decide +kernel
  have w_1 : (.initialized zIOE : Cond) ∈ wsX0_requirePerson := by decide +kernel
  have w_2 : ∀ w ∈ (vx_atS RX0 147 zIOE zXN).filter goodWord, w ∈ wsX0_requirePerson := by decide +kernel
  have w_3 := hts (.fieldLink RX0 39 "ApologyLedger" "personCount" "I") (by decide +kernel)
  have hl := lv_entry ([.ref x, .int (iI z)]) (n := 2) (Nat.le_of_ble_eq_true rfl)
  rw [lg_entry_eq]
  generalize (lg_sl ([.ref x, .int (iI z)]) ++ List.replicate (2 - (lg_sl ([.ref x, .int (iI z)])).length) Slot.unset).toArray = ls at hl ⊢
  have hl : lv_has ls 2 [(0, .ref x), (1, .int (iI z))] := hl
  have hIn := hI.n
  have hIb := hI.b
  refine lv_iload_n hx hb dX0_requirePerson_0 rfl (lv_at hl 1 rfl) ?_
  refine z_if_lt (tgt := 12) hx hb dX0_requirePerson_1 (by decide) (by omega) (fun c_1 => ?_) (fun c_1 => ?_)
  ·
    exact zt_new hx hb hfl hown hts w_0 w_1 w_2 zB_IOE (by decide +kernel) zO_IOE hE (List.mem_of_getElem? (i := 1) rfl) (by rw [hml]; exact hl.1) dX0_requirePerson_12 dX0_requirePerson_15 dX0_requirePerson_16 dX0_requirePerson_18 dX0_requirePerson_21 ht (Nat.le_of_ble_eq_true rfl) (Nat.le_of_ble_eq_true rfl) (Nat.le_of_ble_eq_true rfl) (Nat.le_of_ble_eq_true rfl) hlocks
  ·
    refine lv_iload_n hx hb dX0_requirePerson_4 rfl (lv_at hl 1 rfl) ?_
    refine lv_aload_n hx hb dX0_requirePerson_5 rfl (lv_at hl 0 rfl) ?_
    refine x_get (v := .int (iI (σ.1 0 : Nat))) hx hb hts hin0 hown hK hP 0 rfl 2 (by decide) w_3 rfl dX0_requirePerson_6 ?_
    refine z_icmp_lt (tgt := 22) hx hb dX0_requirePerson_9 (by decide) (by omega) (by omega) (fun c_2 => ?_) (fun c_2 => ?_)
    ·
      exfalso
      omega
    ·
      exact zt_new hx hb hfl hown hts w_0 w_1 w_2 zB_IOE (by decide +kernel) zO_IOE hE (List.mem_of_getElem? (i := 1) rfl) (by rw [hml]; exact hl.1) dX0_requirePerson_12 dX0_requirePerson_15 dX0_requirePerson_16 dX0_requirePerson_18 dX0_requirePerson_21 ht (Nat.le_of_ble_eq_true rfl) (Nat.le_of_ble_eq_true rfl) (Nat.le_of_ble_eq_true rfl) (Nat.le_of_ble_eq_true rfl) hlocks
set_option maxHeartbeats 4000000 in
set_option maxRecDepth 100000 in
theorem t_X0_requireSlight (l : Launch) (hfl : l.stackTraces = false) (G : zG) (x : Nat) (a : Nat → Nat) (sz : Nat) (B : Nat) (σ : zS) (z : Int) (hI : zI B σ) (hzb : -2147483648 ≤ z ∧ z < 2147483648) (hbad : z < 0 ∨ (σ.1 1 : Int) ≤ z) : vx_Met l yX0_requireSlight wsX0_requireSlight ({ frames := 6, cells := 1, slots := 6, locals := 90 } : Room) (va_Pc [.ref x, .int (iI z)] (pT G x a σ sz)) (QvT sz) (XT zIOE sz) 1 6 (nA sz) := by
  refine vx_ofW (cc := cX0_requireSlight) (maxL := 2) (ret := none) (by decide) rfl ?_
  intro pp ee s m args below meth c s₁ B9 hml ht hv
  obtain ⟨rfl, hsz, hP, hK, hE⟩ := hv
  subst hsz
  have hx := B9.exec
  have hb := B9.bytes
  have hr := B9.returns
  have hts := atoms_spec (ws := wsX0_requireSlight) B9.pre
  have hown : s.vm.findClass RX0 = some m.cls := findClass_of_methodNamed B9.named
  have hlocks := B9.notSynchronized
  have hin0 : ∀ w ∈ wsX00, w ∈ wsX0_requireSlight := by decide +kernel
  have w_0 : (.classLink RX0 143 zIOE : Cond) ∈ wsX0_requireSlight := by decide +kernel
  have w_1 : (.initialized zIOE : Cond) ∈ wsX0_requireSlight := by decide +kernel
  have w_2 : ∀ w ∈ (vx_atS RX0 147 zIOE zXN).filter goodWord, w ∈ wsX0_requireSlight := by decide +kernel
  have w_3 := hts (.fieldLink RX0 60 "ApologyLedger" "slightCount" "I") (by decide +kernel)
  have hl := lv_entry ([.ref x, .int (iI z)]) (n := 2) (Nat.le_of_ble_eq_true rfl)
  rw [lg_entry_eq]
  generalize (lg_sl ([.ref x, .int (iI z)]) ++ List.replicate (2 - (lg_sl ([.ref x, .int (iI z)])).length) Slot.unset).toArray = ls at hl ⊢
  have hl : lv_has ls 2 [(0, .ref x), (1, .int (iI z))] := hl
  have hIn := hI.n
  have hIb := hI.b
  refine lv_iload_n hx hb dX0_requireSlight_0 rfl (lv_at hl 1 rfl) ?_
  refine z_if_lt (tgt := 12) hx hb dX0_requireSlight_1 (by decide) (by omega) (fun c_1 => ?_) (fun c_1 => ?_)
  ·
    exact zt_new hx hb hfl hown hts w_0 w_1 w_2 zB_IOE (by decide +kernel) zO_IOE hE (List.mem_of_getElem? (i := 2) rfl) (by rw [hml]; exact hl.1) dX0_requireSlight_12 dX0_requireSlight_15 dX0_requireSlight_16 dX0_requireSlight_18 dX0_requireSlight_21 ht (Nat.le_of_ble_eq_true rfl) (Nat.le_of_ble_eq_true rfl) (Nat.le_of_ble_eq_true rfl) (Nat.le_of_ble_eq_true rfl) hlocks
  ·
    refine lv_iload_n hx hb dX0_requireSlight_4 rfl (lv_at hl 1 rfl) ?_
    refine lv_aload_n hx hb dX0_requireSlight_5 rfl (lv_at hl 0 rfl) ?_
    refine x_get (v := .int (iI (σ.1 1 : Nat))) hx hb hts hin0 hown hK hP 0 rfl 9 (by decide) w_3 rfl dX0_requireSlight_6 ?_
    refine z_icmp_lt (tgt := 22) hx hb dX0_requireSlight_9 (by decide) (by omega) (by omega) (fun c_2 => ?_) (fun c_2 => ?_)
    ·
      exfalso
      omega
    ·
      exact zt_new hx hb hfl hown hts w_0 w_1 w_2 zB_IOE (by decide +kernel) zO_IOE hE (List.mem_of_getElem? (i := 2) rfl) (by rw [hml]; exact hl.1) dX0_requireSlight_12 dX0_requireSlight_15 dX0_requireSlight_16 dX0_requireSlight_18 dX0_requireSlight_21 ht (Nat.le_of_ble_eq_true rfl) (Nat.le_of_ble_eq_true rfl) (Nat.le_of_ble_eq_true rfl) (Nat.le_of_ble_eq_true rfl) hlocks
set_option maxHeartbeats 4000000 in
set_option maxRecDepth 100000 in
theorem t_X0_requireOpen (l : Launch) (hfl : l.stackTraces = false) (G : zG) (x : Nat) (a : Nat → Nat) (sz : Nat) (B : Nat) (σ : zS) (k : Nat) (hI : zI B σ) (hk : k < σ.1 1) (ho : σ.2 5 k ≠ 0) : vx_Met l yX0_requireOpen wsX0_requireOpen ({ frames := 6, cells := 1, slots := 6, locals := 90 } : Room) (va_Pc [.ref x, .int (iI (k : Int))] (pT G x a σ sz)) (QvT sz) (XT zISE sz) 1 6 (nA sz) := by
  refine vx_ofW (cc := cX0_requireOpen) (maxL := 2) (ret := none) (by decide) rfl ?_
  intro pp ee s m args below meth c s₁ B9 hml ht hv
  obtain ⟨rfl, hsz, hP, hK, hE⟩ := hv
  subst hsz
  have hx := B9.exec
  have hb := B9.bytes
  have hr := B9.returns
  have hts := atoms_spec (ws := wsX0_requireOpen) B9.pre
  have hown : s.vm.findClass RX0 = some m.cls := findClass_of_methodNamed B9.named
  have hlocks := B9.notSynchronized
  have hin0 : ∀ w ∈ wsX00, w ∈ wsX0_requireOpen := by decide +kernel
  have w_0 : (.classLink RX0 43 zISE : Cond) ∈ wsX0_requireOpen := by decide +kernel
  have w_1 : (.initialized zISE : Cond) ∈ wsX0_requireOpen := by decide +kernel
  have w_2 : ∀ w ∈ (vx_atS RX0 47 zISE zXN).filter goodWord, w ∈ wsX0_requireOpen := by decide +kernel
  have hl := lv_entry ([.ref x, .int (iI (k : Int))]) (n := 2) (Nat.le_of_ble_eq_true rfl)
  rw [lg_entry_eq]
  generalize (lg_sl ([.ref x, .int (iI (k : Int))]) ++ List.replicate (2 - (lg_sl ([.ref x, .int (iI (k : Int))])).length) Slot.unset).toArray = ls at hl ⊢
  have hl : lv_has ls 2 [(0, .ref x), (1, .int (iI (k : Int)))] := hl
  have hIn := hI.n
  have hIb := hI.b
  refine lv_aload_n hx hb dX0_requireOpen_0 rfl (lv_at hl 0 rfl) ?_
  refine lv_iload_n hx hb dX0_requireOpen_1 rfl (lv_at hl 1 rfl) ?_
  refine zc_i (va_runV (As := [.int (iI (k : Int))]) (rest := []) ⟨hx, hb, hml, hown, hts⟩ (c_X0_stateOf l G x a B σ k hI (by omega)) (cwV 1 hts gX0_requireOpen_X0_stateOf rfl rfl rfl (by decide +kernel) ⟨Nat.le_of_ble_eq_true rfl, Nat.le_of_ble_eq_true rfl⟩) (preVX hK hP) rfl rfl hl.1 rfl (lv_room (Nat.le_of_ble_eq_true rfl)) dX0_requireOpen_2 ⟨Nat.le_of_ble_eq_true rfl, Nat.le_of_ble_eq_true rfl⟩) ?_
  have f_1 := hI.r5 k
  refine z_if_eq (tgt := 18) hx hb dX0_requireOpen_5 (by decide) (by omega) (fun c_2 => ?_) (fun c_2 => ?_)
  ·
    exfalso
    omega
  ·
    exact zt_new hx hb hfl hown hts w_0 w_1 w_2 zB_ISE (by decide +kernel) zO_ISE hE (List.mem_of_getElem? (i := 3) rfl) (by rw [hml]; exact hl.1) dX0_requireOpen_8 dX0_requireOpen_11 dX0_requireOpen_12 dX0_requireOpen_14 dX0_requireOpen_17 ht (Nat.le_of_ble_eq_true rfl) (Nat.le_of_ble_eq_true rfl) (Nat.le_of_ble_eq_true rfl) (Nat.le_of_ble_eq_true rfl) hlocks
set_option maxHeartbeats 4000000 in
set_option maxRecDepth 100000 in
theorem t1_X0_enter (l : Launch) (hfl : l.stackTraces = false) (G : zG) (x : Nat) (a : Nat → Nat) (sz : Nat) (B : Nat) (σ : zS) (z : Int) (hI : zI B σ) (hzb : -2147483648 ≤ z ∧ z < 2147483648) (hbad : z < 0 ∨ (σ.1 0 : Int) ≤ z) : vx_Met l yX0_enter wsX0_enter ({ frames := 7, cells := 1, slots := 6, locals := 111 } : Room) (va_Pc [.ref x, .int (iI z)] (pT G x a σ sz)) (QiT sz) (XT zIOE sz) 1 6 (nA sz) := by
  refine vx_ofW (cc := cX0_enter) (maxL := 2) (ret := (some .boolean)) (by decide) rfl ?_
  intro pp ee s m args below meth c s₁ B9 hml ht hv
  obtain ⟨rfl, hsz, hP, hK, hE⟩ := hv
  subst hsz
  have hx := B9.exec
  have hb := B9.bytes
  have hr := B9.returns
  have hts := atoms_spec (ws := wsX0_enter) B9.pre
  have hown : s.vm.findClass RX0 = some m.cls := findClass_of_methodNamed B9.named
  have hlocks := B9.notSynchronized
  have hin0 : ∀ w ∈ wsX00, w ∈ wsX0_enter := by decide +kernel
  have hl := lv_entry ([.ref x, .int (iI z)]) (n := 2) (Nat.le_of_ble_eq_true rfl)
  rw [lg_entry_eq]
  generalize (lg_sl ([.ref x, .int (iI z)]) ++ List.replicate (2 - (lg_sl ([.ref x, .int (iI z)])).length) Slot.unset).toArray = ls at hl ⊢
  have hl : lv_has ls 2 [(0, .ref x), (1, .int (iI z))] := hl
  have hIn := hI.n
  have hIb := hI.b
  refine lv_aload_n hx hb dX0_enter_0 rfl (lv_at hl 0 rfl) ?_
  refine lv_iload_n hx hb dX0_enter_1 rfl (lv_at hl 1 rfl) ?_
  exact zt_pass (vx_runV (As := [.int (iI z)]) (rest := []) ⟨hx, hb, hml, hown, hts⟩ (t_X0_requirePerson l hfl G x a s.heap.size B σ z hI (by omega) (by omega)) (cwV 1 hts gX0_enter_X0_requirePerson rfl rfl rfl (by decide +kernel) ⟨Nat.le_of_ble_eq_true rfl, Nat.le_of_ble_eq_true rfl⟩) (preTX hK hP hE) rfl rfl hl.1 rfl (lv_room (Nat.le_of_ble_eq_true rfl)) dX0_enter_2 ⟨Nat.le_of_ble_eq_true rfl, Nat.le_of_ble_eq_true rfl⟩) ht hlocks
set_option maxHeartbeats 4000000 in
set_option maxRecDepth 100000 in
theorem t1_X0_isInHall (l : Launch) (hfl : l.stackTraces = false) (G : zG) (x : Nat) (a : Nat → Nat) (sz : Nat) (B : Nat) (σ : zS) (z : Int) (hI : zI B σ) (hzb : -2147483648 ≤ z ∧ z < 2147483648) (hbad : z < 0 ∨ (σ.1 0 : Int) ≤ z) : vx_Met l yX0_isInHall wsX0_isInHall ({ frames := 7, cells := 1, slots := 6, locals := 111 } : Room) (va_Pc [.ref x, .int (iI z)] (pT G x a σ sz)) (QiT sz) (XT zIOE sz) 1 6 (nA sz) := by
  refine vx_ofW (cc := cX0_isInHall) (maxL := 2) (ret := (some .boolean)) (by decide) rfl ?_
  intro pp ee s m args below meth c s₁ B9 hml ht hv
  obtain ⟨rfl, hsz, hP, hK, hE⟩ := hv
  subst hsz
  have hx := B9.exec
  have hb := B9.bytes
  have hr := B9.returns
  have hts := atoms_spec (ws := wsX0_isInHall) B9.pre
  have hown : s.vm.findClass RX0 = some m.cls := findClass_of_methodNamed B9.named
  have hlocks := B9.notSynchronized
  have hin0 : ∀ w ∈ wsX00, w ∈ wsX0_isInHall := by decide +kernel
  have hl := lv_entry ([.ref x, .int (iI z)]) (n := 2) (Nat.le_of_ble_eq_true rfl)
  rw [lg_entry_eq]
  generalize (lg_sl ([.ref x, .int (iI z)]) ++ List.replicate (2 - (lg_sl ([.ref x, .int (iI z)])).length) Slot.unset).toArray = ls at hl ⊢
  have hl : lv_has ls 2 [(0, .ref x), (1, .int (iI z))] := hl
  have hIn := hI.n
  have hIb := hI.b
  refine lv_aload_n hx hb dX0_isInHall_0 rfl (lv_at hl 0 rfl) ?_
  refine lv_iload_n hx hb dX0_isInHall_1 rfl (lv_at hl 1 rfl) ?_
  exact zt_pass (vx_runV (As := [.int (iI z)]) (rest := []) ⟨hx, hb, hml, hown, hts⟩ (t_X0_requirePerson l hfl G x a s.heap.size B σ z hI (by omega) (by omega)) (cwV 1 hts gX0_isInHall_X0_requirePerson rfl rfl rfl (by decide +kernel) ⟨Nat.le_of_ble_eq_true rfl, Nat.le_of_ble_eq_true rfl⟩) (preTX hK hP hE) rfl rfl hl.1 rfl (lv_room (Nat.le_of_ble_eq_true rfl)) dX0_isInHall_2 ⟨Nat.le_of_ble_eq_true rfl, Nat.le_of_ble_eq_true rfl⟩) ht hlocks
set_option maxHeartbeats 4000000 in
set_option maxRecDepth 100000 in
theorem t1_X0_prideOf (l : Launch) (hfl : l.stackTraces = false) (G : zG) (x : Nat) (a : Nat → Nat) (sz : Nat) (B : Nat) (σ : zS) (z : Int) (hI : zI B σ) (hzb : -2147483648 ≤ z ∧ z < 2147483648) (hbad : z < 0 ∨ (σ.1 0 : Int) ≤ z) : vx_Met l yX0_prideOf wsX0_prideOf ({ frames := 7, cells := 1, slots := 6, locals := 111 } : Room) (va_Pc [.ref x, .int (iI z)] (pT G x a σ sz)) (QiT sz) (XT zIOE sz) 1 6 (nA sz) := by
  refine vx_ofW (cc := cX0_prideOf) (maxL := 2) (ret := (some .int)) (by decide) rfl ?_
  intro pp ee s m args below meth c s₁ B9 hml ht hv
  obtain ⟨rfl, hsz, hP, hK, hE⟩ := hv
  subst hsz
  have hx := B9.exec
  have hb := B9.bytes
  have hr := B9.returns
  have hts := atoms_spec (ws := wsX0_prideOf) B9.pre
  have hown : s.vm.findClass RX0 = some m.cls := findClass_of_methodNamed B9.named
  have hlocks := B9.notSynchronized
  have hin0 : ∀ w ∈ wsX00, w ∈ wsX0_prideOf := by decide +kernel
  have hl := lv_entry ([.ref x, .int (iI z)]) (n := 2) (Nat.le_of_ble_eq_true rfl)
  rw [lg_entry_eq]
  generalize (lg_sl ([.ref x, .int (iI z)]) ++ List.replicate (2 - (lg_sl ([.ref x, .int (iI z)])).length) Slot.unset).toArray = ls at hl ⊢
  have hl : lv_has ls 2 [(0, .ref x), (1, .int (iI z))] := hl
  have hIn := hI.n
  have hIb := hI.b
  refine lv_aload_n hx hb dX0_prideOf_0 rfl (lv_at hl 0 rfl) ?_
  refine lv_iload_n hx hb dX0_prideOf_1 rfl (lv_at hl 1 rfl) ?_
  exact zt_pass (vx_runV (As := [.int (iI z)]) (rest := []) ⟨hx, hb, hml, hown, hts⟩ (t_X0_requirePerson l hfl G x a s.heap.size B σ z hI (by omega) (by omega)) (cwV 1 hts gX0_prideOf_X0_requirePerson rfl rfl rfl (by decide +kernel) ⟨Nat.le_of_ble_eq_true rfl, Nat.le_of_ble_eq_true rfl⟩) (preTX hK hP hE) rfl rfl hl.1 rfl (lv_room (Nat.le_of_ble_eq_true rfl)) dX0_prideOf_2 ⟨Nat.le_of_ble_eq_true rfl, Nat.le_of_ble_eq_true rfl⟩) ht hlocks
set_option maxHeartbeats 4000000 in
set_option maxRecDepth 100000 in
theorem t1_X0_borneBy (l : Launch) (hfl : l.stackTraces = false) (G : zG) (x : Nat) (a : Nat → Nat) (sz : Nat) (B : Nat) (σ : zS) (z : Int) (hI : zI B σ) (hzb : -2147483648 ≤ z ∧ z < 2147483648) (hbad : z < 0 ∨ (σ.1 0 : Int) ≤ z) : vx_Met l yX0_borneBy wsX0_borneBy ({ frames := 7, cells := 1, slots := 6, locals := 111 } : Room) (va_Pc [.ref x, .int (iI z)] (pT G x a σ sz)) (QiT sz) (XT zIOE sz) 1 6 (nA sz) := by
  refine vx_ofW (cc := cX0_borneBy) (maxL := 4) (ret := (some .int)) (by decide) rfl ?_
  intro pp ee s m args below meth c s₁ B9 hml ht hv
  obtain ⟨rfl, hsz, hP, hK, hE⟩ := hv
  subst hsz
  have hx := B9.exec
  have hb := B9.bytes
  have hr := B9.returns
  have hts := atoms_spec (ws := wsX0_borneBy) B9.pre
  have hown : s.vm.findClass RX0 = some m.cls := findClass_of_methodNamed B9.named
  have hlocks := B9.notSynchronized
  have hin0 : ∀ w ∈ wsX00, w ∈ wsX0_borneBy := by decide +kernel
  have hl := lv_entry ([.ref x, .int (iI z)]) (n := 4) (Nat.le_of_ble_eq_true rfl)
  rw [lg_entry_eq]
  generalize (lg_sl ([.ref x, .int (iI z)]) ++ List.replicate (4 - (lg_sl ([.ref x, .int (iI z)])).length) Slot.unset).toArray = ls at hl ⊢
  have hl : lv_has ls 4 [(0, .ref x), (1, .int (iI z))] := hl
  have hIn := hI.n
  have hIb := hI.b
  refine lv_aload_n hx hb dX0_borneBy_0 rfl (lv_at hl 0 rfl) ?_
  refine lv_iload_n hx hb dX0_borneBy_1 rfl (lv_at hl 1 rfl) ?_
  exact zt_pass (vx_runV (As := [.int (iI z)]) (rest := []) ⟨hx, hb, hml, hown, hts⟩ (t_X0_requirePerson l hfl G x a s.heap.size B σ z hI (by omega) (by omega)) (cwV 1 hts gX0_borneBy_X0_requirePerson rfl rfl rfl (by decide +kernel) ⟨Nat.le_of_ble_eq_true rfl, Nat.le_of_ble_eq_true rfl⟩) (preTX hK hP hE) rfl rfl hl.1 rfl (lv_room (Nat.le_of_ble_eq_true rfl)) dX0_borneBy_2 ⟨Nat.le_of_ble_eq_true rfl, Nat.le_of_ble_eq_true rfl⟩) ht hlocks
set_option maxHeartbeats 4000000 in
set_option maxRecDepth 100000 in
theorem t1_X0_owedBy (l : Launch) (hfl : l.stackTraces = false) (G : zG) (x : Nat) (a : Nat → Nat) (sz : Nat) (B : Nat) (σ : zS) (z : Int) (hI : zI B σ) (hzb : -2147483648 ≤ z ∧ z < 2147483648) (hbad : z < 0 ∨ (σ.1 0 : Int) ≤ z) : vx_Met l yX0_owedBy wsX0_owedBy ({ frames := 7, cells := 1, slots := 6, locals := 111 } : Room) (va_Pc [.ref x, .int (iI z)] (pT G x a σ sz)) (QiT sz) (XT zIOE sz) 1 6 (nA sz) := by
  refine vx_ofW (cc := cX0_owedBy) (maxL := 4) (ret := (some .int)) (by decide) rfl ?_
  intro pp ee s m args below meth c s₁ B9 hml ht hv
  obtain ⟨rfl, hsz, hP, hK, hE⟩ := hv
  subst hsz
  have hx := B9.exec
  have hb := B9.bytes
  have hr := B9.returns
  have hts := atoms_spec (ws := wsX0_owedBy) B9.pre
  have hown : s.vm.findClass RX0 = some m.cls := findClass_of_methodNamed B9.named
  have hlocks := B9.notSynchronized
  have hin0 : ∀ w ∈ wsX00, w ∈ wsX0_owedBy := by decide +kernel
  have hl := lv_entry ([.ref x, .int (iI z)]) (n := 4) (Nat.le_of_ble_eq_true rfl)
  rw [lg_entry_eq]
  generalize (lg_sl ([.ref x, .int (iI z)]) ++ List.replicate (4 - (lg_sl ([.ref x, .int (iI z)])).length) Slot.unset).toArray = ls at hl ⊢
  have hl : lv_has ls 4 [(0, .ref x), (1, .int (iI z))] := hl
  have hIn := hI.n
  have hIb := hI.b
  refine lv_aload_n hx hb dX0_owedBy_0 rfl (lv_at hl 0 rfl) ?_
  refine lv_iload_n hx hb dX0_owedBy_1 rfl (lv_at hl 1 rfl) ?_
  exact zt_pass (vx_runV (As := [.int (iI z)]) (rest := []) ⟨hx, hb, hml, hown, hts⟩ (t_X0_requirePerson l hfl G x a s.heap.size B σ z hI (by omega) (by omega)) (cwV 1 hts gX0_owedBy_X0_requirePerson rfl rfl rfl (by decide +kernel) ⟨Nat.le_of_ble_eq_true rfl, Nat.le_of_ble_eq_true rfl⟩) (preTX hK hP hE) rfl rfl hl.1 rfl (lv_room (Nat.le_of_ble_eq_true rfl)) dX0_owedBy_2 ⟨Nat.le_of_ble_eq_true rfl, Nat.le_of_ble_eq_true rfl⟩) ht hlocks
set_option maxHeartbeats 4000000 in
set_option maxRecDepth 100000 in
theorem t1_X0_worstToKeep (l : Launch) (hfl : l.stackTraces = false) (G : zG) (x : Nat) (a : Nat → Nat) (sz : Nat) (B : Nat) (σ : zS) (z : Int) (hI : zI B σ) (hzb : -2147483648 ≤ z ∧ z < 2147483648) (hbad : z < 0 ∨ (σ.1 0 : Int) ≤ z) : vx_Met l yX0_worstToKeep wsX0_worstToKeep ({ frames := 7, cells := 1, slots := 6, locals := 111 } : Room) (va_Pc [.ref x, .int (iI z)] (pT G x a σ sz)) (QiT sz) (XT zIOE sz) 1 6 (nA sz) := by
  refine vx_ofW (cc := cX0_worstToKeep) (maxL := 6) (ret := (some .int)) (by decide) rfl ?_
  intro pp ee s m args below meth c s₁ B9 hml ht hv
  obtain ⟨rfl, hsz, hP, hK, hE⟩ := hv
  subst hsz
  have hx := B9.exec
  have hb := B9.bytes
  have hr := B9.returns
  have hts := atoms_spec (ws := wsX0_worstToKeep) B9.pre
  have hown : s.vm.findClass RX0 = some m.cls := findClass_of_methodNamed B9.named
  have hlocks := B9.notSynchronized
  have hin0 : ∀ w ∈ wsX00, w ∈ wsX0_worstToKeep := by decide +kernel
  have hl := lv_entry ([.ref x, .int (iI z)]) (n := 6) (Nat.le_of_ble_eq_true rfl)
  rw [lg_entry_eq]
  generalize (lg_sl ([.ref x, .int (iI z)]) ++ List.replicate (6 - (lg_sl ([.ref x, .int (iI z)])).length) Slot.unset).toArray = ls at hl ⊢
  have hl : lv_has ls 6 [(0, .ref x), (1, .int (iI z))] := hl
  have hIn := hI.n
  have hIb := hI.b
  refine lv_aload_n hx hb dX0_worstToKeep_0 rfl (lv_at hl 0 rfl) ?_
  refine lv_iload_n hx hb dX0_worstToKeep_1 rfl (lv_at hl 1 rfl) ?_
  exact zt_pass (vx_runV (As := [.int (iI z)]) (rest := []) ⟨hx, hb, hml, hown, hts⟩ (t_X0_requirePerson l hfl G x a s.heap.size B σ z hI (by omega) (by omega)) (cwV 1 hts gX0_worstToKeep_X0_requirePerson rfl rfl rfl (by decide +kernel) ⟨Nat.le_of_ble_eq_true rfl, Nat.le_of_ble_eq_true rfl⟩) (preTX hK hP hE) rfl rfl hl.1 rfl (lv_room (Nat.le_of_ble_eq_true rfl)) dX0_worstToKeep_2 ⟨Nat.le_of_ble_eq_true rfl, Nat.le_of_ble_eq_true rfl⟩) ht hlocks
set_option maxHeartbeats 4000000 in
set_option maxRecDepth 100000 in
theorem t1_X0_mention (l : Launch) (hfl : l.stackTraces = false) (G : zG) (x : Nat) (a : Nat → Nat) (sz : Nat) (B : Nat) (σ : zS) (z : Int) (hI : zI B σ) (hzb : -2147483648 ≤ z ∧ z < 2147483648) (hbad : z < 0 ∨ (σ.1 1 : Int) ≤ z) : vx_Met l yX0_mention wsX0_mention ({ frames := 7, cells := 1, slots := 6, locals := 111 } : Room) (va_Pc [.ref x, .int (iI z)] (pT G x a σ sz)) (QiT sz) (XT zIOE sz) 1 6 (nA sz) := by
  refine vx_ofW (cc := cX0_mention) (maxL := 2) (ret := (some .int)) (by decide) rfl ?_
  intro pp ee s m args below meth c s₁ B9 hml ht hv
  obtain ⟨rfl, hsz, hP, hK, hE⟩ := hv
  subst hsz
  have hx := B9.exec
  have hb := B9.bytes
  have hr := B9.returns
  have hts := atoms_spec (ws := wsX0_mention) B9.pre
  have hown : s.vm.findClass RX0 = some m.cls := findClass_of_methodNamed B9.named
  have hlocks := B9.notSynchronized
  have hin0 : ∀ w ∈ wsX00, w ∈ wsX0_mention := by decide +kernel
  have hl := lv_entry ([.ref x, .int (iI z)]) (n := 2) (Nat.le_of_ble_eq_true rfl)
  rw [lg_entry_eq]
  generalize (lg_sl ([.ref x, .int (iI z)]) ++ List.replicate (2 - (lg_sl ([.ref x, .int (iI z)])).length) Slot.unset).toArray = ls at hl ⊢
  have hl : lv_has ls 2 [(0, .ref x), (1, .int (iI z))] := hl
  have hIn := hI.n
  have hIb := hI.b
  refine lv_aload_n hx hb dX0_mention_0 rfl (lv_at hl 0 rfl) ?_
  refine lv_iload_n hx hb dX0_mention_1 rfl (lv_at hl 1 rfl) ?_
  exact zt_pass (vx_runV (As := [.int (iI z)]) (rest := []) ⟨hx, hb, hml, hown, hts⟩ (t_X0_requireSlight l hfl G x a s.heap.size B σ z hI (by omega) (by omega)) (cwV 1 hts gX0_mention_X0_requireSlight rfl rfl rfl (by decide +kernel) ⟨Nat.le_of_ble_eq_true rfl, Nat.le_of_ble_eq_true rfl⟩) (preTX hK hP hE) rfl rfl hl.1 rfl (lv_room (Nat.le_of_ble_eq_true rfl)) dX0_mention_2 ⟨Nat.le_of_ble_eq_true rfl, Nat.le_of_ble_eq_true rfl⟩) ht hlocks
set_option maxHeartbeats 4000000 in
set_option maxRecDepth 100000 in
theorem t1_X0_offenderOf (l : Launch) (hfl : l.stackTraces = false) (G : zG) (x : Nat) (a : Nat → Nat) (sz : Nat) (B : Nat) (σ : zS) (z : Int) (hI : zI B σ) (hzb : -2147483648 ≤ z ∧ z < 2147483648) (hbad : z < 0 ∨ (σ.1 1 : Int) ≤ z) : vx_Met l yX0_offenderOf wsX0_offenderOf ({ frames := 7, cells := 1, slots := 6, locals := 111 } : Room) (va_Pc [.ref x, .int (iI z)] (pT G x a σ sz)) (QiT sz) (XT zIOE sz) 1 6 (nA sz) := by
  refine vx_ofW (cc := cX0_offenderOf) (maxL := 2) (ret := (some .int)) (by decide) rfl ?_
  intro pp ee s m args below meth c s₁ B9 hml ht hv
  obtain ⟨rfl, hsz, hP, hK, hE⟩ := hv
  subst hsz
  have hx := B9.exec
  have hb := B9.bytes
  have hr := B9.returns
  have hts := atoms_spec (ws := wsX0_offenderOf) B9.pre
  have hown : s.vm.findClass RX0 = some m.cls := findClass_of_methodNamed B9.named
  have hlocks := B9.notSynchronized
  have hin0 : ∀ w ∈ wsX00, w ∈ wsX0_offenderOf := by decide +kernel
  have hl := lv_entry ([.ref x, .int (iI z)]) (n := 2) (Nat.le_of_ble_eq_true rfl)
  rw [lg_entry_eq]
  generalize (lg_sl ([.ref x, .int (iI z)]) ++ List.replicate (2 - (lg_sl ([.ref x, .int (iI z)])).length) Slot.unset).toArray = ls at hl ⊢
  have hl : lv_has ls 2 [(0, .ref x), (1, .int (iI z))] := hl
  have hIn := hI.n
  have hIb := hI.b
  refine lv_aload_n hx hb dX0_offenderOf_0 rfl (lv_at hl 0 rfl) ?_
  refine lv_iload_n hx hb dX0_offenderOf_1 rfl (lv_at hl 1 rfl) ?_
  exact zt_pass (vx_runV (As := [.int (iI z)]) (rest := []) ⟨hx, hb, hml, hown, hts⟩ (t_X0_requireSlight l hfl G x a s.heap.size B σ z hI (by omega) (by omega)) (cwV 1 hts gX0_offenderOf_X0_requireSlight rfl rfl rfl (by decide +kernel) ⟨Nat.le_of_ble_eq_true rfl, Nat.le_of_ble_eq_true rfl⟩) (preTX hK hP hE) rfl rfl hl.1 rfl (lv_room (Nat.le_of_ble_eq_true rfl)) dX0_offenderOf_2 ⟨Nat.le_of_ble_eq_true rfl, Nat.le_of_ble_eq_true rfl⟩) ht hlocks
set_option maxHeartbeats 4000000 in
set_option maxRecDepth 100000 in
theorem t1_X0_offendedOf (l : Launch) (hfl : l.stackTraces = false) (G : zG) (x : Nat) (a : Nat → Nat) (sz : Nat) (B : Nat) (σ : zS) (z : Int) (hI : zI B σ) (hzb : -2147483648 ≤ z ∧ z < 2147483648) (hbad : z < 0 ∨ (σ.1 1 : Int) ≤ z) : vx_Met l yX0_offendedOf wsX0_offendedOf ({ frames := 7, cells := 1, slots := 6, locals := 111 } : Room) (va_Pc [.ref x, .int (iI z)] (pT G x a σ sz)) (QiT sz) (XT zIOE sz) 1 6 (nA sz) := by
  refine vx_ofW (cc := cX0_offendedOf) (maxL := 2) (ret := (some .int)) (by decide) rfl ?_
  intro pp ee s m args below meth c s₁ B9 hml ht hv
  obtain ⟨rfl, hsz, hP, hK, hE⟩ := hv
  subst hsz
  have hx := B9.exec
  have hb := B9.bytes
  have hr := B9.returns
  have hts := atoms_spec (ws := wsX0_offendedOf) B9.pre
  have hown : s.vm.findClass RX0 = some m.cls := findClass_of_methodNamed B9.named
  have hlocks := B9.notSynchronized
  have hin0 : ∀ w ∈ wsX00, w ∈ wsX0_offendedOf := by decide +kernel
  have hl := lv_entry ([.ref x, .int (iI z)]) (n := 2) (Nat.le_of_ble_eq_true rfl)
  rw [lg_entry_eq]
  generalize (lg_sl ([.ref x, .int (iI z)]) ++ List.replicate (2 - (lg_sl ([.ref x, .int (iI z)])).length) Slot.unset).toArray = ls at hl ⊢
  have hl : lv_has ls 2 [(0, .ref x), (1, .int (iI z))] := hl
  have hIn := hI.n
  have hIb := hI.b
  refine lv_aload_n hx hb dX0_offendedOf_0 rfl (lv_at hl 0 rfl) ?_
  refine lv_iload_n hx hb dX0_offendedOf_1 rfl (lv_at hl 1 rfl) ?_
  exact zt_pass (vx_runV (As := [.int (iI z)]) (rest := []) ⟨hx, hb, hml, hown, hts⟩ (t_X0_requireSlight l hfl G x a s.heap.size B σ z hI (by omega) (by omega)) (cwV 1 hts gX0_offendedOf_X0_requireSlight rfl rfl rfl (by decide +kernel) ⟨Nat.le_of_ble_eq_true rfl, Nat.le_of_ble_eq_true rfl⟩) (preTX hK hP hE) rfl rfl hl.1 rfl (lv_room (Nat.le_of_ble_eq_true rfl)) dX0_offendedOf_2 ⟨Nat.le_of_ble_eq_true rfl, Nat.le_of_ble_eq_true rfl⟩) ht hlocks
set_option maxHeartbeats 4000000 in
set_option maxRecDepth 100000 in
theorem t1_X0_weightOf (l : Launch) (hfl : l.stackTraces = false) (G : zG) (x : Nat) (a : Nat → Nat) (sz : Nat) (B : Nat) (σ : zS) (z : Int) (hI : zI B σ) (hzb : -2147483648 ≤ z ∧ z < 2147483648) (hbad : z < 0 ∨ (σ.1 1 : Int) ≤ z) : vx_Met l yX0_weightOf wsX0_weightOf ({ frames := 7, cells := 1, slots := 6, locals := 111 } : Room) (va_Pc [.ref x, .int (iI z)] (pT G x a σ sz)) (QiT sz) (XT zIOE sz) 1 6 (nA sz) := by
  refine vx_ofW (cc := cX0_weightOf) (maxL := 2) (ret := (some .int)) (by decide) rfl ?_
  intro pp ee s m args below meth c s₁ B9 hml ht hv
  obtain ⟨rfl, hsz, hP, hK, hE⟩ := hv
  subst hsz
  have hx := B9.exec
  have hb := B9.bytes
  have hr := B9.returns
  have hts := atoms_spec (ws := wsX0_weightOf) B9.pre
  have hown : s.vm.findClass RX0 = some m.cls := findClass_of_methodNamed B9.named
  have hlocks := B9.notSynchronized
  have hin0 : ∀ w ∈ wsX00, w ∈ wsX0_weightOf := by decide +kernel
  have hl := lv_entry ([.ref x, .int (iI z)]) (n := 2) (Nat.le_of_ble_eq_true rfl)
  rw [lg_entry_eq]
  generalize (lg_sl ([.ref x, .int (iI z)]) ++ List.replicate (2 - (lg_sl ([.ref x, .int (iI z)])).length) Slot.unset).toArray = ls at hl ⊢
  have hl : lv_has ls 2 [(0, .ref x), (1, .int (iI z))] := hl
  have hIn := hI.n
  have hIb := hI.b
  refine lv_aload_n hx hb dX0_weightOf_0 rfl (lv_at hl 0 rfl) ?_
  refine lv_iload_n hx hb dX0_weightOf_1 rfl (lv_at hl 1 rfl) ?_
  exact zt_pass (vx_runV (As := [.int (iI z)]) (rest := []) ⟨hx, hb, hml, hown, hts⟩ (t_X0_requireSlight l hfl G x a s.heap.size B σ z hI (by omega) (by omega)) (cwV 1 hts gX0_weightOf_X0_requireSlight rfl rfl rfl (by decide +kernel) ⟨Nat.le_of_ble_eq_true rfl, Nat.le_of_ble_eq_true rfl⟩) (preTX hK hP hE) rfl rfl hl.1 rfl (lv_room (Nat.le_of_ble_eq_true rfl)) dX0_weightOf_2 ⟨Nat.le_of_ble_eq_true rfl, Nat.le_of_ble_eq_true rfl⟩) ht hlocks
set_option maxHeartbeats 4000000 in
set_option maxRecDepth 100000 in
theorem t1_X0_stateOf (l : Launch) (hfl : l.stackTraces = false) (G : zG) (x : Nat) (a : Nat → Nat) (sz : Nat) (B : Nat) (σ : zS) (z : Int) (hI : zI B σ) (hzb : -2147483648 ≤ z ∧ z < 2147483648) (hbad : z < 0 ∨ (σ.1 1 : Int) ≤ z) : vx_Met l yX0_stateOf wsX0_stateOf ({ frames := 7, cells := 1, slots := 6, locals := 111 } : Room) (va_Pc [.ref x, .int (iI z)] (pT G x a σ sz)) (QiT sz) (XT zIOE sz) 1 6 (nA sz) := by
  refine vx_ofW (cc := cX0_stateOf) (maxL := 2) (ret := (some .int)) (by decide) rfl ?_
  intro pp ee s m args below meth c s₁ B9 hml ht hv
  obtain ⟨rfl, hsz, hP, hK, hE⟩ := hv
  subst hsz
  have hx := B9.exec
  have hb := B9.bytes
  have hr := B9.returns
  have hts := atoms_spec (ws := wsX0_stateOf) B9.pre
  have hown : s.vm.findClass RX0 = some m.cls := findClass_of_methodNamed B9.named
  have hlocks := B9.notSynchronized
  have hin0 : ∀ w ∈ wsX00, w ∈ wsX0_stateOf := by decide +kernel
  have hl := lv_entry ([.ref x, .int (iI z)]) (n := 2) (Nat.le_of_ble_eq_true rfl)
  rw [lg_entry_eq]
  generalize (lg_sl ([.ref x, .int (iI z)]) ++ List.replicate (2 - (lg_sl ([.ref x, .int (iI z)])).length) Slot.unset).toArray = ls at hl ⊢
  have hl : lv_has ls 2 [(0, .ref x), (1, .int (iI z))] := hl
  have hIn := hI.n
  have hIb := hI.b
  refine lv_aload_n hx hb dX0_stateOf_0 rfl (lv_at hl 0 rfl) ?_
  refine lv_iload_n hx hb dX0_stateOf_1 rfl (lv_at hl 1 rfl) ?_
  exact zt_pass (vx_runV (As := [.int (iI z)]) (rest := []) ⟨hx, hb, hml, hown, hts⟩ (t_X0_requireSlight l hfl G x a s.heap.size B σ z hI (by omega) (by omega)) (cwV 1 hts gX0_stateOf_X0_requireSlight rfl rfl rfl (by decide +kernel) ⟨Nat.le_of_ble_eq_true rfl, Nat.le_of_ble_eq_true rfl⟩) (preTX hK hP hE) rfl rfl hl.1 rfl (lv_room (Nat.le_of_ble_eq_true rfl)) dX0_stateOf_2 ⟨Nat.le_of_ble_eq_true rfl, Nat.le_of_ble_eq_true rfl⟩) ht hlocks
set_option maxHeartbeats 4000000 in
set_option maxRecDepth 100000 in
theorem t1_X0_borneFor (l : Launch) (hfl : l.stackTraces = false) (G : zG) (x : Nat) (a : Nat → Nat) (sz : Nat) (B : Nat) (σ : zS) (z : Int) (hI : zI B σ) (hzb : -2147483648 ≤ z ∧ z < 2147483648) (hbad : z < 0 ∨ (σ.1 1 : Int) ≤ z) : vx_Met l yX0_borneFor wsX0_borneFor ({ frames := 7, cells := 1, slots := 6, locals := 111 } : Room) (va_Pc [.ref x, .int (iI z)] (pT G x a σ sz)) (QiT sz) (XT zIOE sz) 1 6 (nA sz) := by
  refine vx_ofW (cc := cX0_borneFor) (maxL := 2) (ret := (some .int)) (by decide) rfl ?_
  intro pp ee s m args below meth c s₁ B9 hml ht hv
  obtain ⟨rfl, hsz, hP, hK, hE⟩ := hv
  subst hsz
  have hx := B9.exec
  have hb := B9.bytes
  have hr := B9.returns
  have hts := atoms_spec (ws := wsX0_borneFor) B9.pre
  have hown : s.vm.findClass RX0 = some m.cls := findClass_of_methodNamed B9.named
  have hlocks := B9.notSynchronized
  have hin0 : ∀ w ∈ wsX00, w ∈ wsX0_borneFor := by decide +kernel
  have hl := lv_entry ([.ref x, .int (iI z)]) (n := 2) (Nat.le_of_ble_eq_true rfl)
  rw [lg_entry_eq]
  generalize (lg_sl ([.ref x, .int (iI z)]) ++ List.replicate (2 - (lg_sl ([.ref x, .int (iI z)])).length) Slot.unset).toArray = ls at hl ⊢
  have hl : lv_has ls 2 [(0, .ref x), (1, .int (iI z))] := hl
  have hIn := hI.n
  have hIb := hI.b
  refine lv_aload_n hx hb dX0_borneFor_0 rfl (lv_at hl 0 rfl) ?_
  refine lv_iload_n hx hb dX0_borneFor_1 rfl (lv_at hl 1 rfl) ?_
  exact zt_pass (vx_runV (As := [.int (iI z)]) (rest := []) ⟨hx, hb, hml, hown, hts⟩ (t_X0_requireSlight l hfl G x a s.heap.size B σ z hI (by omega) (by omega)) (cwV 1 hts gX0_borneFor_X0_requireSlight rfl rfl rfl (by decide +kernel) ⟨Nat.le_of_ble_eq_true rfl, Nat.le_of_ble_eq_true rfl⟩) (preTX hK hP hE) rfl rfl hl.1 rfl (lv_room (Nat.le_of_ble_eq_true rfl)) dX0_borneFor_2 ⟨Nat.le_of_ble_eq_true rfl, Nat.le_of_ble_eq_true rfl⟩) ht hlocks
set_option maxHeartbeats 4000000 in
set_option maxRecDepth 100000 in
theorem t1_X0_quietFor (l : Launch) (hfl : l.stackTraces = false) (G : zG) (x : Nat) (a : Nat → Nat) (sz : Nat) (B : Nat) (σ : zS) (z : Int) (hI : zI B σ) (hzb : -2147483648 ≤ z ∧ z < 2147483648) (hbad : z < 0 ∨ (σ.1 1 : Int) ≤ z) : vx_Met l yX0_quietFor wsX0_quietFor ({ frames := 7, cells := 1, slots := 6, locals := 111 } : Room) (va_Pc [.ref x, .int (iI z)] (pT G x a σ sz)) (QiT sz) (XT zIOE sz) 1 6 (nA sz) := by
  refine vx_ofW (cc := cX0_quietFor) (maxL := 2) (ret := (some .int)) (by decide) rfl ?_
  intro pp ee s m args below meth c s₁ B9 hml ht hv
  obtain ⟨rfl, hsz, hP, hK, hE⟩ := hv
  subst hsz
  have hx := B9.exec
  have hb := B9.bytes
  have hr := B9.returns
  have hts := atoms_spec (ws := wsX0_quietFor) B9.pre
  have hown : s.vm.findClass RX0 = some m.cls := findClass_of_methodNamed B9.named
  have hlocks := B9.notSynchronized
  have hin0 : ∀ w ∈ wsX00, w ∈ wsX0_quietFor := by decide +kernel
  have hl := lv_entry ([.ref x, .int (iI z)]) (n := 2) (Nat.le_of_ble_eq_true rfl)
  rw [lg_entry_eq]
  generalize (lg_sl ([.ref x, .int (iI z)]) ++ List.replicate (2 - (lg_sl ([.ref x, .int (iI z)])).length) Slot.unset).toArray = ls at hl ⊢
  have hl : lv_has ls 2 [(0, .ref x), (1, .int (iI z))] := hl
  have hIn := hI.n
  have hIb := hI.b
  refine lv_aload_n hx hb dX0_quietFor_0 rfl (lv_at hl 0 rfl) ?_
  refine lv_iload_n hx hb dX0_quietFor_1 rfl (lv_at hl 1 rfl) ?_
  exact zt_pass (vx_runV (As := [.int (iI z)]) (rest := []) ⟨hx, hb, hml, hown, hts⟩ (t_X0_requireSlight l hfl G x a s.heap.size B σ z hI (by omega) (by omega)) (cwV 1 hts gX0_quietFor_X0_requireSlight rfl rfl rfl (by decide +kernel) ⟨Nat.le_of_ble_eq_true rfl, Nat.le_of_ble_eq_true rfl⟩) (preTX hK hP hE) rfl rfl hl.1 rfl (lv_room (Nat.le_of_ble_eq_true rfl)) dX0_quietFor_2 ⟨Nat.le_of_ble_eq_true rfl, Nat.le_of_ble_eq_true rfl⟩) ht hlocks
set_option maxHeartbeats 4000000 in
set_option maxRecDepth 100000 in
theorem t1_X0_witnessesFor (l : Launch) (hfl : l.stackTraces = false) (G : zG) (x : Nat) (a : Nat → Nat) (sz : Nat) (B : Nat) (σ : zS) (z : Int) (hI : zI B σ) (hzb : -2147483648 ≤ z ∧ z < 2147483648) (hbad : z < 0 ∨ (σ.1 1 : Int) ≤ z) : vx_Met l yX0_witnessesFor wsX0_witnessesFor ({ frames := 7, cells := 1, slots := 6, locals := 111 } : Room) (va_Pc [.ref x, .int (iI z)] (pT G x a σ sz)) (QiT sz) (XT zIOE sz) 1 6 (nA sz) := by
  refine vx_ofW (cc := cX0_witnessesFor) (maxL := 4) (ret := (some .int)) (by decide) rfl ?_
  intro pp ee s m args below meth c s₁ B9 hml ht hv
  obtain ⟨rfl, hsz, hP, hK, hE⟩ := hv
  subst hsz
  have hx := B9.exec
  have hb := B9.bytes
  have hr := B9.returns
  have hts := atoms_spec (ws := wsX0_witnessesFor) B9.pre
  have hown : s.vm.findClass RX0 = some m.cls := findClass_of_methodNamed B9.named
  have hlocks := B9.notSynchronized
  have hin0 : ∀ w ∈ wsX00, w ∈ wsX0_witnessesFor := by decide +kernel
  have hl := lv_entry ([.ref x, .int (iI z)]) (n := 4) (Nat.le_of_ble_eq_true rfl)
  rw [lg_entry_eq]
  generalize (lg_sl ([.ref x, .int (iI z)]) ++ List.replicate (4 - (lg_sl ([.ref x, .int (iI z)])).length) Slot.unset).toArray = ls at hl ⊢
  have hl : lv_has ls 4 [(0, .ref x), (1, .int (iI z))] := hl
  have hIn := hI.n
  have hIb := hI.b
  refine lv_aload_n hx hb dX0_witnessesFor_0 rfl (lv_at hl 0 rfl) ?_
  refine lv_iload_n hx hb dX0_witnessesFor_1 rfl (lv_at hl 1 rfl) ?_
  exact zt_pass (vx_runV (As := [.int (iI z)]) (rest := []) ⟨hx, hb, hml, hown, hts⟩ (t_X0_requireSlight l hfl G x a s.heap.size B σ z hI (by omega) (by omega)) (cwV 1 hts gX0_witnessesFor_X0_requireSlight rfl rfl rfl (by decide +kernel) ⟨Nat.le_of_ble_eq_true rfl, Nat.le_of_ble_eq_true rfl⟩) (preTX hK hP hE) rfl rfl hl.1 rfl (lv_room (Nat.le_of_ble_eq_true rfl)) dX0_witnessesFor_2 ⟨Nat.le_of_ble_eq_true rfl, Nat.le_of_ble_eq_true rfl⟩) ht hlocks
set_option maxHeartbeats 4000000 in
set_option maxRecDepth 100000 in
theorem t1_X0_wordsWanted (l : Launch) (hfl : l.stackTraces = false) (G : zG) (x : Nat) (a : Nat → Nat) (sz : Nat) (B : Nat) (σ : zS) (z : Int) (hI : zI B σ) (hzb : -2147483648 ≤ z ∧ z < 2147483648) (hbad : z < 0 ∨ (σ.1 1 : Int) ≤ z) : vx_Met l yX0_wordsWanted wsX0_wordsWanted ({ frames := 7, cells := 1, slots := 6, locals := 111 } : Room) (va_Pc [.ref x, .int (iI z)] (pT G x a σ sz)) (QiT sz) (XT zIOE sz) 1 6 (nA sz) := by
  refine vx_ofW (cc := cX0_wordsWanted) (maxL := 4) (ret := (some .int)) (by decide) rfl ?_
  intro pp ee s m args below meth c s₁ B9 hml ht hv
  obtain ⟨rfl, hsz, hP, hK, hE⟩ := hv
  subst hsz
  have hx := B9.exec
  have hb := B9.bytes
  have hr := B9.returns
  have hts := atoms_spec (ws := wsX0_wordsWanted) B9.pre
  have hown : s.vm.findClass RX0 = some m.cls := findClass_of_methodNamed B9.named
  have hlocks := B9.notSynchronized
  have hin0 : ∀ w ∈ wsX00, w ∈ wsX0_wordsWanted := by decide +kernel
  have hl := lv_entry ([.ref x, .int (iI z)]) (n := 4) (Nat.le_of_ble_eq_true rfl)
  rw [lg_entry_eq]
  generalize (lg_sl ([.ref x, .int (iI z)]) ++ List.replicate (4 - (lg_sl ([.ref x, .int (iI z)])).length) Slot.unset).toArray = ls at hl ⊢
  have hl : lv_has ls 4 [(0, .ref x), (1, .int (iI z))] := hl
  have hIn := hI.n
  have hIb := hI.b
  refine lv_aload_n hx hb dX0_wordsWanted_0 rfl (lv_at hl 0 rfl) ?_
  refine lv_iload_n hx hb dX0_wordsWanted_1 rfl (lv_at hl 1 rfl) ?_
  exact zt_pass (vx_runV (As := [.int (iI z)]) (rest := []) ⟨hx, hb, hml, hown, hts⟩ (t_X0_requireSlight l hfl G x a s.heap.size B σ z hI (by omega) (by omega)) (cwV 1 hts gX0_wordsWanted_X0_requireSlight rfl rfl rfl (by decide +kernel) ⟨Nat.le_of_ble_eq_true rfl, Nat.le_of_ble_eq_true rfl⟩) (preTX hK hP hE) rfl rfl hl.1 rfl (lv_room (Nat.le_of_ble_eq_true rfl)) dX0_wordsWanted_2 ⟨Nat.le_of_ble_eq_true rfl, Nat.le_of_ble_eq_true rfl⟩) ht hlocks
set_option maxHeartbeats 4000000 in
set_option maxRecDepth 100000 in
theorem t1_X0_daysUntilForgotten (l : Launch) (hfl : l.stackTraces = false) (G : zG) (x : Nat) (a : Nat → Nat) (sz : Nat) (B : Nat) (σ : zS) (z : Int) (hI : zI B σ) (hzb : -2147483648 ≤ z ∧ z < 2147483648) (hbad : z < 0 ∨ (σ.1 1 : Int) ≤ z) : vx_Met l yX0_daysUntilForgotten wsX0_daysUntilForgotten ({ frames := 7, cells := 1, slots := 6, locals := 111 } : Room) (va_Pc [.ref x, .int (iI z)] (pT G x a σ sz)) (QiT sz) (XT zIOE sz) 1 6 (nA sz) := by
  refine vx_ofW (cc := cX0_daysUntilForgotten) (maxL := 2) (ret := (some .int)) (by decide) rfl ?_
  intro pp ee s m args below meth c s₁ B9 hml ht hv
  obtain ⟨rfl, hsz, hP, hK, hE⟩ := hv
  subst hsz
  have hx := B9.exec
  have hb := B9.bytes
  have hr := B9.returns
  have hts := atoms_spec (ws := wsX0_daysUntilForgotten) B9.pre
  have hown : s.vm.findClass RX0 = some m.cls := findClass_of_methodNamed B9.named
  have hlocks := B9.notSynchronized
  have hin0 : ∀ w ∈ wsX00, w ∈ wsX0_daysUntilForgotten := by decide +kernel
  have hl := lv_entry ([.ref x, .int (iI z)]) (n := 2) (Nat.le_of_ble_eq_true rfl)
  rw [lg_entry_eq]
  generalize (lg_sl ([.ref x, .int (iI z)]) ++ List.replicate (2 - (lg_sl ([.ref x, .int (iI z)])).length) Slot.unset).toArray = ls at hl ⊢
  have hl : lv_has ls 2 [(0, .ref x), (1, .int (iI z))] := hl
  have hIn := hI.n
  have hIb := hI.b
  refine lv_aload_n hx hb dX0_daysUntilForgotten_0 rfl (lv_at hl 0 rfl) ?_
  refine lv_iload_n hx hb dX0_daysUntilForgotten_1 rfl (lv_at hl 1 rfl) ?_
  exact zt_pass (vx_runV (As := [.int (iI z)]) (rest := []) ⟨hx, hb, hml, hown, hts⟩ (t_X0_requireSlight l hfl G x a s.heap.size B σ z hI (by omega) (by omega)) (cwV 1 hts gX0_daysUntilForgotten_X0_requireSlight rfl rfl rfl (by decide +kernel) ⟨Nat.le_of_ble_eq_true rfl, Nat.le_of_ble_eq_true rfl⟩) (preTX hK hP hE) rfl rfl hl.1 rfl (lv_room (Nat.le_of_ble_eq_true rfl)) dX0_daysUntilForgotten_2 ⟨Nat.le_of_ble_eq_true rfl, Nat.le_of_ble_eq_true rfl⟩) ht hlocks
set_option maxHeartbeats 4000000 in
set_option maxRecDepth 100000 in
theorem t1_X0_addPerson (l : Launch) (hfl : l.stackTraces = false) (G : zG) (x : Nat) (a : Nat → Nat) (sz : Nat) (B : Nat) (σ : zS) (z : Int) (hI : zI B σ) (hzb : -2147483648 ≤ z ∧ z < 2147483648) (hbad : z < 0 ∨ 9 < z) : vx_Met l yX0_addPerson wsX0_addPerson ({ frames := 7, cells := 1, slots := 6, locals := 110 } : Room) (va_Pc [.ref x, .int (iI z)] (pT G x a σ sz)) (QiT sz) (XT zIAE sz) 1 6 (nA sz) := by
  refine vx_ofW (cc := cX0_addPerson) (maxL := 3) (ret := (some .int)) (by decide) rfl ?_
  intro pp ee s m args below meth c s₁ B9 hml ht hv
  obtain ⟨rfl, hsz, hP, hK, hE⟩ := hv
  subst hsz
  have hx := B9.exec
  have hb := B9.bytes
  have hr := B9.returns
  have hts := atoms_spec (ws := wsX0_addPerson) B9.pre
  have hown : s.vm.findClass RX0 = some m.cls := findClass_of_methodNamed B9.named
  have hlocks := B9.notSynchronized
  have hin0 : ∀ w ∈ wsX00, w ∈ wsX0_addPerson := by decide +kernel
  have hl := lv_entry ([.ref x, .int (iI z)]) (n := 3) (Nat.le_of_ble_eq_true rfl)
  rw [lg_entry_eq]
  generalize (lg_sl ([.ref x, .int (iI z)]) ++ List.replicate (3 - (lg_sl ([.ref x, .int (iI z)])).length) Slot.unset).toArray = ls at hl ⊢
  have hl : lv_has ls 3 [(0, .ref x), (1, .int (iI z))] := hl
  have hIn := hI.n
  have hIb := hI.b
  refine lv_iload_n hx hb dX0_addPerson_0 rfl (lv_at hl 1 rfl) ?_
  exact zt_pass (vx_runS (As := [.int (iI z)]) (rest := []) ⟨hx, hb, hml, hown, hts⟩ (t_X0_requirePride l hfl s.heap.size z (by omega) (by omega)) (va_cwS 1 hts gX0_addPerson_X0_requirePride rfl rfl rfl (by decide +kernel) ⟨Nat.le_of_ble_eq_true rfl, Nat.le_of_ble_eq_true rfl⟩) (preTS hE) rfl rfl hl.1 rfl (lv_room (Nat.le_of_ble_eq_true rfl)) dX0_addPerson_1 ⟨Nat.le_of_ble_eq_true rfl, Nat.le_of_ble_eq_true rfl⟩) ht hlocks
set_option maxHeartbeats 4000000 in
set_option maxRecDepth 100000 in
theorem t2_X0_addPerson (l : Launch) (hfl : l.stackTraces = false) (G : zG) (x : Nat) (a : Nat → Nat) (sz : Nat) (B : Nat) (σ : zS) (z : Int) (hI : zI B σ) (hz : 0 ≤ z ∧ z ≤ 9) (hfull : σ.1 0 = 6) : vx_Met l yX0_addPerson wsX0_addPerson ({ frames := 6, cells := 1, slots := 6, locals := 90 } : Room) (va_Pc [.ref x, .int (iI z)] (pT G x a σ sz)) (QiT sz) (XT zISE sz) 1 6 (nA sz) := by
  refine vx_ofW (cc := cX0_addPerson) (maxL := 3) (ret := (some .int)) (by decide) rfl ?_
  intro pp ee s m args below meth c s₁ B9 hml ht hv
  obtain ⟨rfl, hsz, hP, hK, hE⟩ := hv
  subst hsz
  have hx := B9.exec
  have hb := B9.bytes
  have hr := B9.returns
  have hts := atoms_spec (ws := wsX0_addPerson) B9.pre
  have hown : s.vm.findClass RX0 = some m.cls := findClass_of_methodNamed B9.named
  have hlocks := B9.notSynchronized
  have hin0 : ∀ w ∈ wsX00, w ∈ wsX0_addPerson := by decide +kernel
  have w_0 := hts (.fieldLink RX0 39 "ApologyLedger" "personCount" "I") (by decide +kernel)
  have w_1 := hts (.fieldLink RX0 9 "ApologyLedger" "prides" "[I") (by decide +kernel)
  have w_2 : (.classLink RX0 43 zISE : Cond) ∈ wsX0_addPerson := by decide +kernel
  have w_3 : (.initialized zISE : Cond) ∈ wsX0_addPerson := by decide +kernel
  have w_4 : ∀ w ∈ (vx_atS RX0 47 zISE zXN).filter goodWord, w ∈ wsX0_addPerson := by decide +kernel
  have hl := lv_entry ([.ref x, .int (iI z)]) (n := 3) (Nat.le_of_ble_eq_true rfl)
  rw [lg_entry_eq]
  generalize (lg_sl ([.ref x, .int (iI z)]) ++ List.replicate (3 - (lg_sl ([.ref x, .int (iI z)])).length) Slot.unset).toArray = ls at hl ⊢
  have hl : lv_has ls 3 [(0, .ref x), (1, .int (iI z))] := hl
  have hIn := hI.n
  have hIb := hI.b
  refine lv_iload_n hx hb dX0_addPerson_0 rfl (lv_at hl 1 rfl) ?_
  refine zc_v (va_runS (As := [.int (iI z)]) (rest := []) ⟨hx, hb, hml, hown, hts⟩ (c_X0_requirePride l  z (by omega)) (va_cwS 1 hts gX0_addPerson_X0_requirePride rfl rfl rfl (by decide +kernel) ⟨Nat.le_of_ble_eq_true rfl, Nat.le_of_ble_eq_true rfl⟩) preS0 rfl rfl hl.1 rfl (lv_room (Nat.le_of_ble_eq_true rfl)) dX0_addPerson_1 ⟨Nat.le_of_ble_eq_true rfl, Nat.le_of_ble_eq_true rfl⟩) ?_
  refine lv_aload_n hx hb dX0_addPerson_4 rfl (lv_at hl 0 rfl) ?_
  refine x_get (v := .int (iI (σ.1 0 : Nat))) hx hb hts hin0 hown hK hP 0 rfl 2 (by decide) w_0 rfl dX0_addPerson_5 ?_
  refine lv_bipush (v := iI 6) hx hb dX0_addPerson_8 (by decide) ?_
  refine z_icmp_lt (tgt := 23) hx hb dX0_addPerson_10 (by decide) (by omega) (by omega) (fun c_1 => ?_) (fun c_1 => ?_)
  ·
    refine lv_aload_n hx hb dX0_addPerson_23 rfl (lv_at hl 0 rfl) ?_
    refine x_get (v := .int (iI (σ.1 0 : Nat))) hx hb hts hin0 hown hK hP 0 rfl 2 (by decide) w_0 rfl dX0_addPerson_24 ?_
    refine lv_istore_n (lv' := [(2, .int (iI (σ.1 0 : Nat))), (0, .ref x), (1, .int (iI z))]) hx hb dX0_addPerson_27 rfl hl (by decide) rfl (fun ls hl => ?_)
    refine lv_aload_n hx hb dX0_addPerson_28 rfl (lv_at hl 1 rfl) ?_
    refine x_get (v := .ref (a 0)) hx hb hts hin0 hown hK hP 0 rfl 0 (by decide) w_1 rfl dX0_addPerson_29 ?_
    refine lv_iload_n hx hb dX0_addPerson_32 rfl (lv_at hl 0 rfl) ?_
    refine lv_iload_n hx hb dX0_addPerson_33 rfl (lv_at hl 2 rfl) ?_
    exfalso
    omega
  ·
    exact zt_new hx hb hfl hown hts w_2 w_3 w_4 zB_ISE (by decide +kernel) zO_ISE hE (List.mem_of_getElem? (i := 7) rfl) (by rw [hml]; exact hl.1) dX0_addPerson_13 dX0_addPerson_16 dX0_addPerson_17 dX0_addPerson_19 dX0_addPerson_22 ht (Nat.le_of_ble_eq_true rfl) (Nat.le_of_ble_eq_true rfl) (Nat.le_of_ble_eq_true rfl) (Nat.le_of_ble_eq_true rfl) hlocks
set_option maxHeartbeats 4000000 in
set_option maxRecDepth 100000 in
theorem t1_X0_slight (l : Launch) (hfl : l.stackTraces = false) (G : zG) (x : Nat) (a : Nat → Nat) (sz : Nat) (B : Nat) (σ : zS) (z : Int) (y : Int) (w : Int) (hI : zI B σ) (hzb : -2147483648 ≤ z ∧ z < 2147483648) (hbad : z < 0 ∨ (σ.1 0 : Int) ≤ z) : vx_Met l yX0_slight wsX0_slight ({ frames := 7, cells := 1, slots := 6, locals := 111 } : Room) (va_Pc [.ref x, .int (iI z), .int (iI y), .int (iI w)] (pT G x a σ sz)) (QiT sz) (XT zIOE sz) 1 6 (nA sz) := by
  refine vx_ofW (cc := cX0_slight) (maxL := 5) (ret := (some .int)) (by decide) rfl ?_
  intro pp ee s m args below meth c s₁ B9 hml ht hv
  obtain ⟨rfl, hsz, hP, hK, hE⟩ := hv
  subst hsz
  have hx := B9.exec
  have hb := B9.bytes
  have hr := B9.returns
  have hts := atoms_spec (ws := wsX0_slight) B9.pre
  have hown : s.vm.findClass RX0 = some m.cls := findClass_of_methodNamed B9.named
  have hlocks := B9.notSynchronized
  have hin0 : ∀ w ∈ wsX00, w ∈ wsX0_slight := by decide +kernel
  have hl := lv_entry ([.ref x, .int (iI z), .int (iI y), .int (iI w)]) (n := 5) (Nat.le_of_ble_eq_true rfl)
  rw [lg_entry_eq]
  generalize (lg_sl ([.ref x, .int (iI z), .int (iI y), .int (iI w)]) ++ List.replicate (5 - (lg_sl ([.ref x, .int (iI z), .int (iI y), .int (iI w)])).length) Slot.unset).toArray = ls at hl ⊢
  have hl : lv_has ls 5 [(0, .ref x), (1, .int (iI z)), (2, .int (iI y)), (3, .int (iI w))] := hl
  have hIn := hI.n
  have hIb := hI.b
  refine lv_aload_n hx hb dX0_slight_0 rfl (lv_at hl 0 rfl) ?_
  refine lv_iload_n hx hb dX0_slight_1 rfl (lv_at hl 1 rfl) ?_
  exact zt_pass (vx_runV (As := [.int (iI z)]) (rest := []) ⟨hx, hb, hml, hown, hts⟩ (t_X0_requirePerson l hfl G x a s.heap.size B σ z hI (by omega) (by omega)) (cwV 1 hts gX0_slight_X0_requirePerson rfl rfl rfl (by decide +kernel) ⟨Nat.le_of_ble_eq_true rfl, Nat.le_of_ble_eq_true rfl⟩) (preTX hK hP hE) rfl rfl hl.1 rfl (lv_room (Nat.le_of_ble_eq_true rfl)) dX0_slight_2 ⟨Nat.le_of_ble_eq_true rfl, Nat.le_of_ble_eq_true rfl⟩) ht hlocks
set_option maxHeartbeats 4000000 in
set_option maxRecDepth 100000 in
theorem t2_X0_slight (l : Launch) (hfl : l.stackTraces = false) (G : zG) (x : Nat) (a : Nat → Nat) (sz : Nat) (B : Nat) (σ : zS) (i : Nat) (z : Int) (w : Int) (hI : zI B σ) (hi : i < σ.1 0) (hzb : -2147483648 ≤ z ∧ z < 2147483648) (hbad : z < 0 ∨ (σ.1 0 : Int) ≤ z) : vx_Met l yX0_slight wsX0_slight ({ frames := 7, cells := 1, slots := 6, locals := 111 } : Room) (va_Pc [.ref x, .int (iI (i : Int)), .int (iI z), .int (iI w)] (pT G x a σ sz)) (QiT sz) (XT zIOE sz) 1 6 (nA sz) := by
  refine vx_ofW (cc := cX0_slight) (maxL := 5) (ret := (some .int)) (by decide) rfl ?_
  intro pp ee s m args below meth c s₁ B9 hml ht hv
  obtain ⟨rfl, hsz, hP, hK, hE⟩ := hv
  subst hsz
  have hx := B9.exec
  have hb := B9.bytes
  have hr := B9.returns
  have hts := atoms_spec (ws := wsX0_slight) B9.pre
  have hown : s.vm.findClass RX0 = some m.cls := findClass_of_methodNamed B9.named
  have hlocks := B9.notSynchronized
  have hin0 : ∀ w ∈ wsX00, w ∈ wsX0_slight := by decide +kernel
  have hl := lv_entry ([.ref x, .int (iI (i : Int)), .int (iI z), .int (iI w)]) (n := 5) (Nat.le_of_ble_eq_true rfl)
  rw [lg_entry_eq]
  generalize (lg_sl ([.ref x, .int (iI (i : Int)), .int (iI z), .int (iI w)]) ++ List.replicate (5 - (lg_sl ([.ref x, .int (iI (i : Int)), .int (iI z), .int (iI w)])).length) Slot.unset).toArray = ls at hl ⊢
  have hl : lv_has ls 5 [(0, .ref x), (1, .int (iI (i : Int))), (2, .int (iI z)), (3, .int (iI w))] := hl
  have hIn := hI.n
  have hIb := hI.b
  refine lv_aload_n hx hb dX0_slight_0 rfl (lv_at hl 0 rfl) ?_
  refine lv_iload_n hx hb dX0_slight_1 rfl (lv_at hl 1 rfl) ?_
  refine zc_v (va_runV (As := [.int (iI (i : Int))]) (rest := []) ⟨hx, hb, hml, hown, hts⟩ (c_X0_requirePerson l G x a σ i (by omega) (by omega)) (cwV 1 hts gX0_slight_X0_requirePerson rfl rfl rfl (by decide +kernel) ⟨Nat.le_of_ble_eq_true rfl, Nat.le_of_ble_eq_true rfl⟩) (preVX hK hP) rfl rfl hl.1 rfl (lv_room (Nat.le_of_ble_eq_true rfl)) dX0_slight_2 ⟨Nat.le_of_ble_eq_true rfl, Nat.le_of_ble_eq_true rfl⟩) ?_
  refine lv_aload_n hx hb dX0_slight_5 rfl (lv_at hl 0 rfl) ?_
  refine lv_iload_n hx hb dX0_slight_6 rfl (lv_at hl 2 rfl) ?_
  exact zt_pass (vx_runV (As := [.int (iI z)]) (rest := []) ⟨hx, hb, hml, hown, hts⟩ (t_X0_requirePerson l hfl G x a s.heap.size B σ z hI (by omega) (by omega)) (cwV 1 hts gX0_slight_X0_requirePerson rfl rfl rfl (by decide +kernel) ⟨Nat.le_of_ble_eq_true rfl, Nat.le_of_ble_eq_true rfl⟩) (preTX hK hP hE) rfl rfl hl.1 rfl (lv_room (Nat.le_of_ble_eq_true rfl)) dX0_slight_7 ⟨Nat.le_of_ble_eq_true rfl, Nat.le_of_ble_eq_true rfl⟩) ht hlocks
set_option maxHeartbeats 4000000 in
set_option maxRecDepth 100000 in
theorem t3_X0_slight (l : Launch) (hfl : l.stackTraces = false) (G : zG) (x : Nat) (a : Nat → Nat) (sz : Nat) (B : Nat) (σ : zS) (i : Nat) (o : Nat) (w : Int) (hI : zI B σ) (hi : i < σ.1 0) (ho : o < σ.1 0) (hwb : -2147483648 ≤ w ∧ w < 2147483648) (hbad : i = o ∨ w < 1 ∨ 20 < w) : vx_Met l yX0_slight wsX0_slight ({ frames := 6, cells := 1, slots := 6, locals := 90 } : Room) (va_Pc [.ref x, .int (iI (i : Int)), .int (iI (o : Int)), .int (iI w)] (pT G x a σ sz)) (QiT sz) (XT zIAE sz) 1 6 (nA sz) := by
  refine vx_ofW (cc := cX0_slight) (maxL := 5) (ret := (some .int)) (by decide) rfl ?_
  intro pp ee s m args below meth c s₁ B9 hml ht hv
  obtain ⟨rfl, hsz, hP, hK, hE⟩ := hv
  subst hsz
  have hx := B9.exec
  have hb := B9.bytes
  have hr := B9.returns
  have hts := atoms_spec (ws := wsX0_slight) B9.pre
  have hown : s.vm.findClass RX0 = some m.cls := findClass_of_methodNamed B9.named
  have hlocks := B9.notSynchronized
  have hin0 : ∀ w ∈ wsX00, w ∈ wsX0_slight := by decide +kernel
  have w_0 : (.classLink RX0 53 zIAE : Cond) ∈ wsX0_slight := by decide +kernel
  have w_1 : (.initialized zIAE : Cond) ∈ wsX0_slight := by decide +kernel
  have w_2 : ∀ w ∈ (vx_atS RX0 57 zIAE zXN).filter goodWord, w ∈ wsX0_slight := by decide +kernel
  have w_3 := hts (.fieldLink RX0 60 "ApologyLedger" "slightCount" "I") (by decide +kernel)
  have w_4 := hts (.fieldLink RX0 17 "ApologyLedger" "offenders" "[I") (by decide +kernel)
  have hl := lv_entry ([.ref x, .int (iI (i : Int)), .int (iI (o : Int)), .int (iI w)]) (n := 5) (Nat.le_of_ble_eq_true rfl)
  rw [lg_entry_eq]
  generalize (lg_sl ([.ref x, .int (iI (i : Int)), .int (iI (o : Int)), .int (iI w)]) ++ List.replicate (5 - (lg_sl ([.ref x, .int (iI (i : Int)), .int (iI (o : Int)), .int (iI w)])).length) Slot.unset).toArray = ls at hl ⊢
  have hl : lv_has ls 5 [(0, .ref x), (1, .int (iI (i : Int))), (2, .int (iI (o : Int))), (3, .int (iI w))] := hl
  have hIn := hI.n
  have hIb := hI.b
  refine lv_aload_n hx hb dX0_slight_0 rfl (lv_at hl 0 rfl) ?_
  refine lv_iload_n hx hb dX0_slight_1 rfl (lv_at hl 1 rfl) ?_
  refine zc_v (va_runV (As := [.int (iI (i : Int))]) (rest := []) ⟨hx, hb, hml, hown, hts⟩ (c_X0_requirePerson l G x a σ i (by omega) (by omega)) (cwV 1 hts gX0_slight_X0_requirePerson rfl rfl rfl (by decide +kernel) ⟨Nat.le_of_ble_eq_true rfl, Nat.le_of_ble_eq_true rfl⟩) (preVX hK hP) rfl rfl hl.1 rfl (lv_room (Nat.le_of_ble_eq_true rfl)) dX0_slight_2 ⟨Nat.le_of_ble_eq_true rfl, Nat.le_of_ble_eq_true rfl⟩) ?_
  refine lv_aload_n hx hb dX0_slight_5 rfl (lv_at hl 0 rfl) ?_
  refine lv_iload_n hx hb dX0_slight_6 rfl (lv_at hl 2 rfl) ?_
  refine zc_v (va_runV (As := [.int (iI (o : Int))]) (rest := []) ⟨hx, hb, hml, hown, hts⟩ (c_X0_requirePerson l G x a σ o (by omega) (by omega)) (cwV 1 hts gX0_slight_X0_requirePerson rfl rfl rfl (by decide +kernel) ⟨Nat.le_of_ble_eq_true rfl, Nat.le_of_ble_eq_true rfl⟩) (preVX hK hP) rfl rfl hl.1 rfl (lv_room (Nat.le_of_ble_eq_true rfl)) dX0_slight_7 ⟨Nat.le_of_ble_eq_true rfl, Nat.le_of_ble_eq_true rfl⟩) ?_
  refine lv_iload_n hx hb dX0_slight_10 rfl (lv_at hl 1 rfl) ?_
  refine lv_iload_n hx hb dX0_slight_11 rfl (lv_at hl 2 rfl) ?_
  refine z_icmp_ne (tgt := 25) hx hb dX0_slight_12 (by decide) (by omega) (by omega) (fun c_1 => ?_) (fun c_1 => ?_)
  ·
    refine lv_iload_n hx hb dX0_slight_25 rfl (lv_at hl 3 rfl) ?_
    refine lv_iconst (v := iI 1) hx hb dX0_slight_26 rfl ?_
    refine z_icmp_lt (tgt := 36) hx hb dX0_slight_27 (by decide) (by omega) (by omega) (fun c_2 => ?_) (fun c_2 => ?_)
    ·
      exact zt_new hx hb hfl hown hts w_0 w_1 w_2 zB_IAE (by decide +kernel) zO_IAE hE (List.mem_of_getElem? (i := 9) rfl) (by rw [hml]; exact hl.1) dX0_slight_36 dX0_slight_39 dX0_slight_40 dX0_slight_42 dX0_slight_45 ht (Nat.le_of_ble_eq_true rfl) (Nat.le_of_ble_eq_true rfl) (Nat.le_of_ble_eq_true rfl) (Nat.le_of_ble_eq_true rfl) hlocks
    ·
      refine lv_iload_n hx hb dX0_slight_30 rfl (lv_at hl 3 rfl) ?_
      refine lv_bipush (v := iI 20) hx hb dX0_slight_31 (by decide) ?_
      refine z_icmp_le (tgt := 46) hx hb dX0_slight_33 (by decide) (by omega) (by omega) (fun c_3 => ?_) (fun c_3 => ?_)
      ·
        refine lv_aload_n hx hb dX0_slight_46 rfl (lv_at hl 0 rfl) ?_
        refine x_get (v := .int (iI (σ.1 1 : Nat))) hx hb hts hin0 hown hK hP 0 rfl 9 (by decide) w_3 rfl dX0_slight_47 ?_
        refine lv_bipush (v := iI 20) hx hb dX0_slight_50 (by decide) ?_
        refine z_icmp_lt (tgt := 65) hx hb dX0_slight_52 (by decide) (by omega) (by omega) (fun c_4 => ?_) (fun c_4 => ?_)
        ·
          refine lv_aload_n hx hb dX0_slight_65 rfl (lv_at hl 0 rfl) ?_
          refine x_get (v := .int (iI (σ.1 1 : Nat))) hx hb hts hin0 hown hK hP 0 rfl 9 (by decide) w_3 rfl dX0_slight_66 ?_
          refine lv_istore (lv' := [(4, .int (iI (σ.1 1 : Nat))), (0, .ref x), (1, .int (iI (i : Int))), (2, .int (iI (o : Int))), (3, .int (iI w))]) hx hb dX0_slight_69 hl (by decide) rfl (fun ls hl => ?_)
          refine lv_aload_n hx hb dX0_slight_71 rfl (lv_at hl 1 rfl) ?_
          refine x_get (v := .ref (a 2)) hx hb hts hin0 hown hK hP 0 rfl 3 (by decide) w_4 rfl dX0_slight_72 ?_
          refine lv_iload hx hb dX0_slight_75 (lv_at hl 0 rfl) ?_
          refine lv_iload_n hx hb dX0_slight_77 rfl (lv_at hl 2 rfl) ?_
          exfalso
          omega
        ·
          exfalso
          omega
      ·
        exact zt_new hx hb hfl hown hts w_0 w_1 w_2 zB_IAE (by decide +kernel) zO_IAE hE (List.mem_of_getElem? (i := 9) rfl) (by rw [hml]; exact hl.1) dX0_slight_36 dX0_slight_39 dX0_slight_40 dX0_slight_42 dX0_slight_45 ht (Nat.le_of_ble_eq_true rfl) (Nat.le_of_ble_eq_true rfl) (Nat.le_of_ble_eq_true rfl) (Nat.le_of_ble_eq_true rfl) hlocks
  ·
    exact zt_new hx hb hfl hown hts w_0 w_1 w_2 zB_IAE (by decide +kernel) zO_IAE hE (List.mem_of_getElem? (i := 8) rfl) (by rw [hml]; exact hl.1) dX0_slight_15 dX0_slight_18 dX0_slight_19 dX0_slight_21 dX0_slight_24 ht (Nat.le_of_ble_eq_true rfl) (Nat.le_of_ble_eq_true rfl) (Nat.le_of_ble_eq_true rfl) (Nat.le_of_ble_eq_true rfl) hlocks
set_option maxHeartbeats 4000000 in
set_option maxRecDepth 100000 in
theorem t4_X0_slight (l : Launch) (hfl : l.stackTraces = false) (G : zG) (x : Nat) (a : Nat → Nat) (sz : Nat) (B : Nat) (σ : zS) (i : Nat) (o : Nat) (w : Int) (hI : zI B σ) (hi : i < σ.1 0) (ho : o < σ.1 0) (hw : 1 ≤ w ∧ w ≤ 20) (hne : i ≠ o) (hfull : σ.1 1 = 20) : vx_Met l yX0_slight wsX0_slight ({ frames := 6, cells := 1, slots := 6, locals := 90 } : Room) (va_Pc [.ref x, .int (iI (i : Int)), .int (iI (o : Int)), .int (iI w)] (pT G x a σ sz)) (QiT sz) (XT zISE sz) 1 6 (nA sz) := by
  refine vx_ofW (cc := cX0_slight) (maxL := 5) (ret := (some .int)) (by decide) rfl ?_
  intro pp ee s m args below meth c s₁ B9 hml ht hv
  obtain ⟨rfl, hsz, hP, hK, hE⟩ := hv
  subst hsz
  have hx := B9.exec
  have hb := B9.bytes
  have hr := B9.returns
  have hts := atoms_spec (ws := wsX0_slight) B9.pre
  have hown : s.vm.findClass RX0 = some m.cls := findClass_of_methodNamed B9.named
  have hlocks := B9.notSynchronized
  have hin0 : ∀ w ∈ wsX00, w ∈ wsX0_slight := by decide +kernel
  have w_0 := hts (.fieldLink RX0 60 "ApologyLedger" "slightCount" "I") (by decide +kernel)
  have w_1 := hts (.fieldLink RX0 17 "ApologyLedger" "offenders" "[I") (by decide +kernel)
  have w_2 : (.classLink RX0 43 zISE : Cond) ∈ wsX0_slight := by decide +kernel
  have w_3 : (.initialized zISE : Cond) ∈ wsX0_slight := by decide +kernel
  have w_4 : ∀ w ∈ (vx_atS RX0 47 zISE zXN).filter goodWord, w ∈ wsX0_slight := by decide +kernel
  have hl := lv_entry ([.ref x, .int (iI (i : Int)), .int (iI (o : Int)), .int (iI w)]) (n := 5) (Nat.le_of_ble_eq_true rfl)
  rw [lg_entry_eq]
  generalize (lg_sl ([.ref x, .int (iI (i : Int)), .int (iI (o : Int)), .int (iI w)]) ++ List.replicate (5 - (lg_sl ([.ref x, .int (iI (i : Int)), .int (iI (o : Int)), .int (iI w)])).length) Slot.unset).toArray = ls at hl ⊢
  have hl : lv_has ls 5 [(0, .ref x), (1, .int (iI (i : Int))), (2, .int (iI (o : Int))), (3, .int (iI w))] := hl
  have hIn := hI.n
  have hIb := hI.b
  refine lv_aload_n hx hb dX0_slight_0 rfl (lv_at hl 0 rfl) ?_
  refine lv_iload_n hx hb dX0_slight_1 rfl (lv_at hl 1 rfl) ?_
  refine zc_v (va_runV (As := [.int (iI (i : Int))]) (rest := []) ⟨hx, hb, hml, hown, hts⟩ (c_X0_requirePerson l G x a σ i (by omega) (by omega)) (cwV 1 hts gX0_slight_X0_requirePerson rfl rfl rfl (by decide +kernel) ⟨Nat.le_of_ble_eq_true rfl, Nat.le_of_ble_eq_true rfl⟩) (preVX hK hP) rfl rfl hl.1 rfl (lv_room (Nat.le_of_ble_eq_true rfl)) dX0_slight_2 ⟨Nat.le_of_ble_eq_true rfl, Nat.le_of_ble_eq_true rfl⟩) ?_
  refine lv_aload_n hx hb dX0_slight_5 rfl (lv_at hl 0 rfl) ?_
  refine lv_iload_n hx hb dX0_slight_6 rfl (lv_at hl 2 rfl) ?_
  refine zc_v (va_runV (As := [.int (iI (o : Int))]) (rest := []) ⟨hx, hb, hml, hown, hts⟩ (c_X0_requirePerson l G x a σ o (by omega) (by omega)) (cwV 1 hts gX0_slight_X0_requirePerson rfl rfl rfl (by decide +kernel) ⟨Nat.le_of_ble_eq_true rfl, Nat.le_of_ble_eq_true rfl⟩) (preVX hK hP) rfl rfl hl.1 rfl (lv_room (Nat.le_of_ble_eq_true rfl)) dX0_slight_7 ⟨Nat.le_of_ble_eq_true rfl, Nat.le_of_ble_eq_true rfl⟩) ?_
  refine lv_iload_n hx hb dX0_slight_10 rfl (lv_at hl 1 rfl) ?_
  refine lv_iload_n hx hb dX0_slight_11 rfl (lv_at hl 2 rfl) ?_
  refine z_icmp_ne (tgt := 25) hx hb dX0_slight_12 (by decide) (by omega) (by omega) (fun c_1 => ?_) (fun c_1 => ?_)
  ·
    refine lv_iload_n hx hb dX0_slight_25 rfl (lv_at hl 3 rfl) ?_
    refine lv_iconst (v := iI 1) hx hb dX0_slight_26 rfl ?_
    refine z_icmp_lt (tgt := 36) hx hb dX0_slight_27 (by decide) (by omega) (by omega) (fun c_2 => ?_) (fun c_2 => ?_)
    ·
      exfalso
      omega
    ·
      refine lv_iload_n hx hb dX0_slight_30 rfl (lv_at hl 3 rfl) ?_
      refine lv_bipush (v := iI 20) hx hb dX0_slight_31 (by decide) ?_
      refine z_icmp_le (tgt := 46) hx hb dX0_slight_33 (by decide) (by omega) (by omega) (fun c_3 => ?_) (fun c_3 => ?_)
      ·
        refine lv_aload_n hx hb dX0_slight_46 rfl (lv_at hl 0 rfl) ?_
        refine x_get (v := .int (iI (σ.1 1 : Nat))) hx hb hts hin0 hown hK hP 0 rfl 9 (by decide) w_0 rfl dX0_slight_47 ?_
        refine lv_bipush (v := iI 20) hx hb dX0_slight_50 (by decide) ?_
        refine z_icmp_lt (tgt := 65) hx hb dX0_slight_52 (by decide) (by omega) (by omega) (fun c_4 => ?_) (fun c_4 => ?_)
        ·
          refine lv_aload_n hx hb dX0_slight_65 rfl (lv_at hl 0 rfl) ?_
          refine x_get (v := .int (iI (σ.1 1 : Nat))) hx hb hts hin0 hown hK hP 0 rfl 9 (by decide) w_0 rfl dX0_slight_66 ?_
          refine lv_istore (lv' := [(4, .int (iI (σ.1 1 : Nat))), (0, .ref x), (1, .int (iI (i : Int))), (2, .int (iI (o : Int))), (3, .int (iI w))]) hx hb dX0_slight_69 hl (by decide) rfl (fun ls hl => ?_)
          refine lv_aload_n hx hb dX0_slight_71 rfl (lv_at hl 1 rfl) ?_
          refine x_get (v := .ref (a 2)) hx hb hts hin0 hown hK hP 0 rfl 3 (by decide) w_1 rfl dX0_slight_72 ?_
          refine lv_iload hx hb dX0_slight_75 (lv_at hl 0 rfl) ?_
          refine lv_iload_n hx hb dX0_slight_77 rfl (lv_at hl 2 rfl) ?_
          exfalso
          omega
        ·
          exact zt_new hx hb hfl hown hts w_2 w_3 w_4 zB_ISE (by decide +kernel) zO_ISE hE (List.mem_of_getElem? (i := 10) rfl) (by rw [hml]; exact hl.1) dX0_slight_55 dX0_slight_58 dX0_slight_59 dX0_slight_61 dX0_slight_64 ht (Nat.le_of_ble_eq_true rfl) (Nat.le_of_ble_eq_true rfl) (Nat.le_of_ble_eq_true rfl) (Nat.le_of_ble_eq_true rfl) hlocks
      ·
        exfalso
        omega
  ·
    exfalso
    omega
set_option maxHeartbeats 4000000 in
set_option maxRecDepth 100000 in
theorem t2_X0_mention (l : Launch) (hfl : l.stackTraces = false) (G : zG) (x : Nat) (a : Nat → Nat) (sz : Nat) (B : Nat) (σ : zS) (k : Nat) (hI : zI B σ) (hk : k < σ.1 1) (ho : σ.2 5 k ≠ 0) : vx_Met l yX0_mention wsX0_mention ({ frames := 7, cells := 1, slots := 6, locals := 111 } : Room) (va_Pc [.ref x, .int (iI (k : Int))] (pT G x a σ sz)) (QiT sz) (XT zISE sz) 1 6 (nA sz) := by
  refine vx_ofW (cc := cX0_mention) (maxL := 2) (ret := (some .int)) (by decide) rfl ?_
  intro pp ee s m args below meth c s₁ B9 hml ht hv
  obtain ⟨rfl, hsz, hP, hK, hE⟩ := hv
  subst hsz
  have hx := B9.exec
  have hb := B9.bytes
  have hr := B9.returns
  have hts := atoms_spec (ws := wsX0_mention) B9.pre
  have hown : s.vm.findClass RX0 = some m.cls := findClass_of_methodNamed B9.named
  have hlocks := B9.notSynchronized
  have hin0 : ∀ w ∈ wsX00, w ∈ wsX0_mention := by decide +kernel
  have hl := lv_entry ([.ref x, .int (iI (k : Int))]) (n := 2) (Nat.le_of_ble_eq_true rfl)
  rw [lg_entry_eq]
  generalize (lg_sl ([.ref x, .int (iI (k : Int))]) ++ List.replicate (2 - (lg_sl ([.ref x, .int (iI (k : Int))])).length) Slot.unset).toArray = ls at hl ⊢
  have hl : lv_has ls 2 [(0, .ref x), (1, .int (iI (k : Int)))] := hl
  have hIn := hI.n
  have hIb := hI.b
  refine lv_aload_n hx hb dX0_mention_0 rfl (lv_at hl 0 rfl) ?_
  refine lv_iload_n hx hb dX0_mention_1 rfl (lv_at hl 1 rfl) ?_
  refine zc_v (va_runV (As := [.int (iI (k : Int))]) (rest := []) ⟨hx, hb, hml, hown, hts⟩ (c_X0_requireSlight l G x a σ k (by omega) (by omega)) (cwV 1 hts gX0_mention_X0_requireSlight rfl rfl rfl (by decide +kernel) ⟨Nat.le_of_ble_eq_true rfl, Nat.le_of_ble_eq_true rfl⟩) (preVX hK hP) rfl rfl hl.1 rfl (lv_room (Nat.le_of_ble_eq_true rfl)) dX0_mention_2 ⟨Nat.le_of_ble_eq_true rfl, Nat.le_of_ble_eq_true rfl⟩) ?_
  refine lv_aload_n hx hb dX0_mention_5 rfl (lv_at hl 0 rfl) ?_
  refine lv_iload_n hx hb dX0_mention_6 rfl (lv_at hl 1 rfl) ?_
  exact zt_pass (vx_runV (As := [.int (iI (k : Int))]) (rest := []) ⟨hx, hb, hml, hown, hts⟩ (t_X0_requireOpen l hfl G x a s.heap.size B σ k hI (by omega) (by omega)) (cwV 1 hts gX0_mention_X0_requireOpen rfl rfl rfl (by decide +kernel) ⟨Nat.le_of_ble_eq_true rfl, Nat.le_of_ble_eq_true rfl⟩) (preTX hK hP hE) rfl rfl hl.1 rfl (lv_room (Nat.le_of_ble_eq_true rfl)) dX0_mention_7 ⟨Nat.le_of_ble_eq_true rfl, Nat.le_of_ble_eq_true rfl⟩) ht hlocks
set_option maxHeartbeats 4000000 in
set_option maxRecDepth 100000 in
theorem t1_X0_apologize (l : Launch) (hfl : l.stackTraces = false) (G : zG) (x : Nat) (a : Nat → Nat) (sz : Nat) (B : Nat) (σ : zS) (z : Int) (w : Int) (hI : zI B σ) (hzb : -2147483648 ≤ z ∧ z < 2147483648) (hbad : z < 0 ∨ (σ.1 1 : Int) ≤ z) : vx_Met l yX0_apologize wsX0_apologize ({ frames := 7, cells := 1, slots := 6, locals := 111 } : Room) (va_Pc [.ref x, .int (iI z), .int (iI w)] (pT G x a σ sz)) (QiT sz) (XT zIOE sz) 1 6 (nA sz) := by
  refine vx_ofW (cc := cX0_apologize) (maxL := 4) (ret := (some .int)) (by decide) rfl ?_
  intro pp ee s m args below meth c s₁ B9 hml ht hv
  obtain ⟨rfl, hsz, hP, hK, hE⟩ := hv
  subst hsz
  have hx := B9.exec
  have hb := B9.bytes
  have hr := B9.returns
  have hts := atoms_spec (ws := wsX0_apologize) B9.pre
  have hown : s.vm.findClass RX0 = some m.cls := findClass_of_methodNamed B9.named
  have hlocks := B9.notSynchronized
  have hin0 : ∀ w ∈ wsX00, w ∈ wsX0_apologize := by decide +kernel
  have hl := lv_entry ([.ref x, .int (iI z), .int (iI w)]) (n := 4) (Nat.le_of_ble_eq_true rfl)
  rw [lg_entry_eq]
  generalize (lg_sl ([.ref x, .int (iI z), .int (iI w)]) ++ List.replicate (4 - (lg_sl ([.ref x, .int (iI z), .int (iI w)])).length) Slot.unset).toArray = ls at hl ⊢
  have hl : lv_has ls 4 [(0, .ref x), (1, .int (iI z)), (2, .int (iI w))] := hl
  have hIn := hI.n
  have hIb := hI.b
  refine lv_aload_n hx hb dX0_apologize_0 rfl (lv_at hl 0 rfl) ?_
  refine lv_iload_n hx hb dX0_apologize_1 rfl (lv_at hl 1 rfl) ?_
  exact zt_pass (vx_runV (As := [.int (iI z)]) (rest := []) ⟨hx, hb, hml, hown, hts⟩ (t_X0_requireSlight l hfl G x a s.heap.size B σ z hI (by omega) (by omega)) (cwV 1 hts gX0_apologize_X0_requireSlight rfl rfl rfl (by decide +kernel) ⟨Nat.le_of_ble_eq_true rfl, Nat.le_of_ble_eq_true rfl⟩) (preTX hK hP hE) rfl rfl hl.1 rfl (lv_room (Nat.le_of_ble_eq_true rfl)) dX0_apologize_2 ⟨Nat.le_of_ble_eq_true rfl, Nat.le_of_ble_eq_true rfl⟩) ht hlocks
set_option maxHeartbeats 4000000 in
set_option maxRecDepth 100000 in
theorem t2_X0_apologize (l : Launch) (hfl : l.stackTraces = false) (G : zG) (x : Nat) (a : Nat → Nat) (sz : Nat) (B : Nat) (σ : zS) (k : Nat) (z : Int) (hI : zI B σ) (hk : k < σ.1 1) (hzb : -2147483648 ≤ z ∧ z < 2147483648) (hbad : z < 1 ∨ 20 < z) : vx_Met l yX0_apologize wsX0_apologize ({ frames := 7, cells := 1, slots := 6, locals := 110 } : Room) (va_Pc [.ref x, .int (iI (k : Int)), .int (iI z)] (pT G x a σ sz)) (QiT sz) (XT zIAE sz) 1 6 (nA sz) := by
  refine vx_ofW (cc := cX0_apologize) (maxL := 4) (ret := (some .int)) (by decide) rfl ?_
  intro pp ee s m args below meth c s₁ B9 hml ht hv
  obtain ⟨rfl, hsz, hP, hK, hE⟩ := hv
  subst hsz
  have hx := B9.exec
  have hb := B9.bytes
  have hr := B9.returns
  have hts := atoms_spec (ws := wsX0_apologize) B9.pre
  have hown : s.vm.findClass RX0 = some m.cls := findClass_of_methodNamed B9.named
  have hlocks := B9.notSynchronized
  have hin0 : ∀ w ∈ wsX00, w ∈ wsX0_apologize := by decide +kernel
  have hl := lv_entry ([.ref x, .int (iI (k : Int)), .int (iI z)]) (n := 4) (Nat.le_of_ble_eq_true rfl)
  rw [lg_entry_eq]
  generalize (lg_sl ([.ref x, .int (iI (k : Int)), .int (iI z)]) ++ List.replicate (4 - (lg_sl ([.ref x, .int (iI (k : Int)), .int (iI z)])).length) Slot.unset).toArray = ls at hl ⊢
  have hl : lv_has ls 4 [(0, .ref x), (1, .int (iI (k : Int))), (2, .int (iI z))] := hl
  have hIn := hI.n
  have hIb := hI.b
  refine lv_aload_n hx hb dX0_apologize_0 rfl (lv_at hl 0 rfl) ?_
  refine lv_iload_n hx hb dX0_apologize_1 rfl (lv_at hl 1 rfl) ?_
  refine zc_v (va_runV (As := [.int (iI (k : Int))]) (rest := []) ⟨hx, hb, hml, hown, hts⟩ (c_X0_requireSlight l G x a σ k (by omega) (by omega)) (cwV 1 hts gX0_apologize_X0_requireSlight rfl rfl rfl (by decide +kernel) ⟨Nat.le_of_ble_eq_true rfl, Nat.le_of_ble_eq_true rfl⟩) (preVX hK hP) rfl rfl hl.1 rfl (lv_room (Nat.le_of_ble_eq_true rfl)) dX0_apologize_2 ⟨Nat.le_of_ble_eq_true rfl, Nat.le_of_ble_eq_true rfl⟩) ?_
  refine lv_iload_n hx hb dX0_apologize_5 rfl (lv_at hl 2 rfl) ?_
  exact zt_pass (vx_runS (As := [.int (iI z)]) (rest := []) ⟨hx, hb, hml, hown, hts⟩ (t_X0_requireWords l hfl s.heap.size z (by omega) (by omega)) (va_cwS 1 hts gX0_apologize_X0_requireWords rfl rfl rfl (by decide +kernel) ⟨Nat.le_of_ble_eq_true rfl, Nat.le_of_ble_eq_true rfl⟩) (preTS hE) rfl rfl hl.1 rfl (lv_room (Nat.le_of_ble_eq_true rfl)) dX0_apologize_6 ⟨Nat.le_of_ble_eq_true rfl, Nat.le_of_ble_eq_true rfl⟩) ht hlocks
set_option maxHeartbeats 4000000 in
set_option maxRecDepth 100000 in
theorem t3_X0_apologize (l : Launch) (hfl : l.stackTraces = false) (G : zG) (x : Nat) (a : Nat → Nat) (sz : Nat) (B : Nat) (σ : zS) (k : Nat) (w : Int) (hI : zI B σ) (hk : k < σ.1 1) (hw : 1 ≤ w ∧ w ≤ 20) (ho : σ.2 5 k ≠ 0) : vx_Met l yX0_apologize wsX0_apologize ({ frames := 7, cells := 1, slots := 6, locals := 111 } : Room) (va_Pc [.ref x, .int (iI (k : Int)), .int (iI w)] (pT G x a σ sz)) (QiT sz) (XT zISE sz) 1 6 (nA sz) := by
  refine vx_ofW (cc := cX0_apologize) (maxL := 4) (ret := (some .int)) (by decide) rfl ?_
  intro pp ee s m args below meth c s₁ B9 hml ht hv
  obtain ⟨rfl, hsz, hP, hK, hE⟩ := hv
  subst hsz
  have hx := B9.exec
  have hb := B9.bytes
  have hr := B9.returns
  have hts := atoms_spec (ws := wsX0_apologize) B9.pre
  have hown : s.vm.findClass RX0 = some m.cls := findClass_of_methodNamed B9.named
  have hlocks := B9.notSynchronized
  have hin0 : ∀ w ∈ wsX00, w ∈ wsX0_apologize := by decide +kernel
  have hl := lv_entry ([.ref x, .int (iI (k : Int)), .int (iI w)]) (n := 4) (Nat.le_of_ble_eq_true rfl)
  rw [lg_entry_eq]
  generalize (lg_sl ([.ref x, .int (iI (k : Int)), .int (iI w)]) ++ List.replicate (4 - (lg_sl ([.ref x, .int (iI (k : Int)), .int (iI w)])).length) Slot.unset).toArray = ls at hl ⊢
  have hl : lv_has ls 4 [(0, .ref x), (1, .int (iI (k : Int))), (2, .int (iI w))] := hl
  have hIn := hI.n
  have hIb := hI.b
  refine lv_aload_n hx hb dX0_apologize_0 rfl (lv_at hl 0 rfl) ?_
  refine lv_iload_n hx hb dX0_apologize_1 rfl (lv_at hl 1 rfl) ?_
  refine zc_v (va_runV (As := [.int (iI (k : Int))]) (rest := []) ⟨hx, hb, hml, hown, hts⟩ (c_X0_requireSlight l G x a σ k (by omega) (by omega)) (cwV 1 hts gX0_apologize_X0_requireSlight rfl rfl rfl (by decide +kernel) ⟨Nat.le_of_ble_eq_true rfl, Nat.le_of_ble_eq_true rfl⟩) (preVX hK hP) rfl rfl hl.1 rfl (lv_room (Nat.le_of_ble_eq_true rfl)) dX0_apologize_2 ⟨Nat.le_of_ble_eq_true rfl, Nat.le_of_ble_eq_true rfl⟩) ?_
  refine lv_iload_n hx hb dX0_apologize_5 rfl (lv_at hl 2 rfl) ?_
  refine zc_v (va_runS (As := [.int (iI w)]) (rest := []) ⟨hx, hb, hml, hown, hts⟩ (c_X0_requireWords l  w (by omega)) (va_cwS 1 hts gX0_apologize_X0_requireWords rfl rfl rfl (by decide +kernel) ⟨Nat.le_of_ble_eq_true rfl, Nat.le_of_ble_eq_true rfl⟩) preS0 rfl rfl hl.1 rfl (lv_room (Nat.le_of_ble_eq_true rfl)) dX0_apologize_6 ⟨Nat.le_of_ble_eq_true rfl, Nat.le_of_ble_eq_true rfl⟩) ?_
  refine lv_aload_n hx hb dX0_apologize_9 rfl (lv_at hl 0 rfl) ?_
  refine lv_iload_n hx hb dX0_apologize_10 rfl (lv_at hl 1 rfl) ?_
  exact zt_pass (vx_runV (As := [.int (iI (k : Int))]) (rest := []) ⟨hx, hb, hml, hown, hts⟩ (t_X0_requireOpen l hfl G x a s.heap.size B σ k hI (by omega) (by omega)) (cwV 1 hts gX0_apologize_X0_requireOpen rfl rfl rfl (by decide +kernel) ⟨Nat.le_of_ble_eq_true rfl, Nat.le_of_ble_eq_true rfl⟩) (preTX hK hP hE) rfl rfl hl.1 rfl (lv_room (Nat.le_of_ble_eq_true rfl)) dX0_apologize_11 ⟨Nat.le_of_ble_eq_true rfl, Nat.le_of_ble_eq_true rfl⟩) ht hlocks
set_option maxHeartbeats 4000000 in
set_option maxRecDepth 100000 in
theorem t1_X0_setOff (l : Launch) (hfl : l.stackTraces = false) (G : zG) (x : Nat) (a : Nat → Nat) (sz : Nat) (B : Nat) (σ : zS) (z : Int) (y : Int) (hI : zI B σ) (hzb : -2147483648 ≤ z ∧ z < 2147483648) (hbad : z < 0 ∨ (σ.1 1 : Int) ≤ z) : vx_Met l yX0_setOff wsX0_setOff ({ frames := 7, cells := 1, slots := 6, locals := 111 } : Room) (va_Pc [.ref x, .int (iI z), .int (iI y)] (pT G x a σ sz)) (QiT sz) (XT zIOE sz) 1 6 (nA sz) := by
  refine vx_ofW (cc := cX0_setOff) (maxL := 4) (ret := (some .int)) (by decide) rfl ?_
  intro pp ee s m args below meth c s₁ B9 hml ht hv
  obtain ⟨rfl, hsz, hP, hK, hE⟩ := hv
  subst hsz
  have hx := B9.exec
  have hb := B9.bytes
  have hr := B9.returns
  have hts := atoms_spec (ws := wsX0_setOff) B9.pre
  have hown : s.vm.findClass RX0 = some m.cls := findClass_of_methodNamed B9.named
  have hlocks := B9.notSynchronized
  have hin0 : ∀ w ∈ wsX00, w ∈ wsX0_setOff := by decide +kernel
  have hl := lv_entry ([.ref x, .int (iI z), .int (iI y)]) (n := 4) (Nat.le_of_ble_eq_true rfl)
  rw [lg_entry_eq]
  generalize (lg_sl ([.ref x, .int (iI z), .int (iI y)]) ++ List.replicate (4 - (lg_sl ([.ref x, .int (iI z), .int (iI y)])).length) Slot.unset).toArray = ls at hl ⊢
  have hl : lv_has ls 4 [(0, .ref x), (1, .int (iI z)), (2, .int (iI y))] := hl
  have hIn := hI.n
  have hIb := hI.b
  refine lv_aload_n hx hb dX0_setOff_0 rfl (lv_at hl 0 rfl) ?_
  refine lv_iload_n hx hb dX0_setOff_1 rfl (lv_at hl 1 rfl) ?_
  exact zt_pass (vx_runV (As := [.int (iI z)]) (rest := []) ⟨hx, hb, hml, hown, hts⟩ (t_X0_requireSlight l hfl G x a s.heap.size B σ z hI (by omega) (by omega)) (cwV 1 hts gX0_setOff_X0_requireSlight rfl rfl rfl (by decide +kernel) ⟨Nat.le_of_ble_eq_true rfl, Nat.le_of_ble_eq_true rfl⟩) (preTX hK hP hE) rfl rfl hl.1 rfl (lv_room (Nat.le_of_ble_eq_true rfl)) dX0_setOff_2 ⟨Nat.le_of_ble_eq_true rfl, Nat.le_of_ble_eq_true rfl⟩) ht hlocks
set_option maxHeartbeats 4000000 in
set_option maxRecDepth 100000 in
theorem t2_X0_setOff (l : Launch) (hfl : l.stackTraces = false) (G : zG) (x : Nat) (a : Nat → Nat) (sz : Nat) (B : Nat) (σ : zS) (i : Nat) (z : Int) (hI : zI B σ) (hi : i < σ.1 1) (hzb : -2147483648 ≤ z ∧ z < 2147483648) (hbad : z < 0 ∨ (σ.1 1 : Int) ≤ z) : vx_Met l yX0_setOff wsX0_setOff ({ frames := 7, cells := 1, slots := 6, locals := 111 } : Room) (va_Pc [.ref x, .int (iI (i : Int)), .int (iI z)] (pT G x a σ sz)) (QiT sz) (XT zIOE sz) 1 6 (nA sz) := by
  refine vx_ofW (cc := cX0_setOff) (maxL := 4) (ret := (some .int)) (by decide) rfl ?_
  intro pp ee s m args below meth c s₁ B9 hml ht hv
  obtain ⟨rfl, hsz, hP, hK, hE⟩ := hv
  subst hsz
  have hx := B9.exec
  have hb := B9.bytes
  have hr := B9.returns
  have hts := atoms_spec (ws := wsX0_setOff) B9.pre
  have hown : s.vm.findClass RX0 = some m.cls := findClass_of_methodNamed B9.named
  have hlocks := B9.notSynchronized
  have hin0 : ∀ w ∈ wsX00, w ∈ wsX0_setOff := by decide +kernel
  have hl := lv_entry ([.ref x, .int (iI (i : Int)), .int (iI z)]) (n := 4) (Nat.le_of_ble_eq_true rfl)
  rw [lg_entry_eq]
  generalize (lg_sl ([.ref x, .int (iI (i : Int)), .int (iI z)]) ++ List.replicate (4 - (lg_sl ([.ref x, .int (iI (i : Int)), .int (iI z)])).length) Slot.unset).toArray = ls at hl ⊢
  have hl : lv_has ls 4 [(0, .ref x), (1, .int (iI (i : Int))), (2, .int (iI z))] := hl
  have hIn := hI.n
  have hIb := hI.b
  refine lv_aload_n hx hb dX0_setOff_0 rfl (lv_at hl 0 rfl) ?_
  refine lv_iload_n hx hb dX0_setOff_1 rfl (lv_at hl 1 rfl) ?_
  refine zc_v (va_runV (As := [.int (iI (i : Int))]) (rest := []) ⟨hx, hb, hml, hown, hts⟩ (c_X0_requireSlight l G x a σ i (by omega) (by omega)) (cwV 1 hts gX0_setOff_X0_requireSlight rfl rfl rfl (by decide +kernel) ⟨Nat.le_of_ble_eq_true rfl, Nat.le_of_ble_eq_true rfl⟩) (preVX hK hP) rfl rfl hl.1 rfl (lv_room (Nat.le_of_ble_eq_true rfl)) dX0_setOff_2 ⟨Nat.le_of_ble_eq_true rfl, Nat.le_of_ble_eq_true rfl⟩) ?_
  refine lv_aload_n hx hb dX0_setOff_5 rfl (lv_at hl 0 rfl) ?_
  refine lv_iload_n hx hb dX0_setOff_6 rfl (lv_at hl 2 rfl) ?_
  exact zt_pass (vx_runV (As := [.int (iI z)]) (rest := []) ⟨hx, hb, hml, hown, hts⟩ (t_X0_requireSlight l hfl G x a s.heap.size B σ z hI (by omega) (by omega)) (cwV 1 hts gX0_setOff_X0_requireSlight rfl rfl rfl (by decide +kernel) ⟨Nat.le_of_ble_eq_true rfl, Nat.le_of_ble_eq_true rfl⟩) (preTX hK hP hE) rfl rfl hl.1 rfl (lv_room (Nat.le_of_ble_eq_true rfl)) dX0_setOff_7 ⟨Nat.le_of_ble_eq_true rfl, Nat.le_of_ble_eq_true rfl⟩) ht hlocks
set_option maxHeartbeats 4000000 in
set_option maxRecDepth 100000 in
theorem t3_X0_setOff (l : Launch) (hfl : l.stackTraces = false) (G : zG) (x : Nat) (a : Nat → Nat) (sz : Nat) (B : Nat) (σ : zS) (i : Nat) (o : Nat) (hI : zI B σ) (hi : i < σ.1 1) (ho : o < σ.1 1) (h5 : σ.2 5 i ≠ 0) : vx_Met l yX0_setOff wsX0_setOff ({ frames := 7, cells := 1, slots := 6, locals := 111 } : Room) (va_Pc [.ref x, .int (iI (i : Int)), .int (iI (o : Int))] (pT G x a σ sz)) (QiT sz) (XT zISE sz) 1 6 (nA sz) := by
  refine vx_ofW (cc := cX0_setOff) (maxL := 4) (ret := (some .int)) (by decide) rfl ?_
  intro pp ee s m args below meth c s₁ B9 hml ht hv
  obtain ⟨rfl, hsz, hP, hK, hE⟩ := hv
  subst hsz
  have hx := B9.exec
  have hb := B9.bytes
  have hr := B9.returns
  have hts := atoms_spec (ws := wsX0_setOff) B9.pre
  have hown : s.vm.findClass RX0 = some m.cls := findClass_of_methodNamed B9.named
  have hlocks := B9.notSynchronized
  have hin0 : ∀ w ∈ wsX00, w ∈ wsX0_setOff := by decide +kernel
  have hl := lv_entry ([.ref x, .int (iI (i : Int)), .int (iI (o : Int))]) (n := 4) (Nat.le_of_ble_eq_true rfl)
  rw [lg_entry_eq]
  generalize (lg_sl ([.ref x, .int (iI (i : Int)), .int (iI (o : Int))]) ++ List.replicate (4 - (lg_sl ([.ref x, .int (iI (i : Int)), .int (iI (o : Int))])).length) Slot.unset).toArray = ls at hl ⊢
  have hl : lv_has ls 4 [(0, .ref x), (1, .int (iI (i : Int))), (2, .int (iI (o : Int)))] := hl
  have hIn := hI.n
  have hIb := hI.b
  refine lv_aload_n hx hb dX0_setOff_0 rfl (lv_at hl 0 rfl) ?_
  refine lv_iload_n hx hb dX0_setOff_1 rfl (lv_at hl 1 rfl) ?_
  refine zc_v (va_runV (As := [.int (iI (i : Int))]) (rest := []) ⟨hx, hb, hml, hown, hts⟩ (c_X0_requireSlight l G x a σ i (by omega) (by omega)) (cwV 1 hts gX0_setOff_X0_requireSlight rfl rfl rfl (by decide +kernel) ⟨Nat.le_of_ble_eq_true rfl, Nat.le_of_ble_eq_true rfl⟩) (preVX hK hP) rfl rfl hl.1 rfl (lv_room (Nat.le_of_ble_eq_true rfl)) dX0_setOff_2 ⟨Nat.le_of_ble_eq_true rfl, Nat.le_of_ble_eq_true rfl⟩) ?_
  refine lv_aload_n hx hb dX0_setOff_5 rfl (lv_at hl 0 rfl) ?_
  refine lv_iload_n hx hb dX0_setOff_6 rfl (lv_at hl 2 rfl) ?_
  refine zc_v (va_runV (As := [.int (iI (o : Int))]) (rest := []) ⟨hx, hb, hml, hown, hts⟩ (c_X0_requireSlight l G x a σ o (by omega) (by omega)) (cwV 1 hts gX0_setOff_X0_requireSlight rfl rfl rfl (by decide +kernel) ⟨Nat.le_of_ble_eq_true rfl, Nat.le_of_ble_eq_true rfl⟩) (preVX hK hP) rfl rfl hl.1 rfl (lv_room (Nat.le_of_ble_eq_true rfl)) dX0_setOff_7 ⟨Nat.le_of_ble_eq_true rfl, Nat.le_of_ble_eq_true rfl⟩) ?_
  refine lv_aload_n hx hb dX0_setOff_10 rfl (lv_at hl 0 rfl) ?_
  refine lv_iload_n hx hb dX0_setOff_11 rfl (lv_at hl 1 rfl) ?_
  exact zt_pass (vx_runV (As := [.int (iI (i : Int))]) (rest := []) ⟨hx, hb, hml, hown, hts⟩ (t_X0_requireOpen l hfl G x a s.heap.size B σ i hI (by omega) (by omega)) (cwV 1 hts gX0_setOff_X0_requireOpen rfl rfl rfl (by decide +kernel) ⟨Nat.le_of_ble_eq_true rfl, Nat.le_of_ble_eq_true rfl⟩) (preTX hK hP hE) rfl rfl hl.1 rfl (lv_room (Nat.le_of_ble_eq_true rfl)) dX0_setOff_12 ⟨Nat.le_of_ble_eq_true rfl, Nat.le_of_ble_eq_true rfl⟩) ht hlocks
set_option maxHeartbeats 4000000 in
set_option maxRecDepth 100000 in
theorem t4_X0_setOff (l : Launch) (hfl : l.stackTraces = false) (G : zG) (x : Nat) (a : Nat → Nat) (sz : Nat) (B : Nat) (σ : zS) (i : Nat) (o : Nat) (hI : zI B σ) (hi : i < σ.1 1) (ho : o < σ.1 1) (h4 : σ.2 5 i = 0) (h5 : σ.2 5 o ≠ 0) : vx_Met l yX0_setOff wsX0_setOff ({ frames := 7, cells := 1, slots := 6, locals := 111 } : Room) (va_Pc [.ref x, .int (iI (i : Int)), .int (iI (o : Int))] (pT G x a σ sz)) (QiT sz) (XT zISE sz) 1 6 (nA sz) := by
  refine vx_ofW (cc := cX0_setOff) (maxL := 4) (ret := (some .int)) (by decide) rfl ?_
  intro pp ee s m args below meth c s₁ B9 hml ht hv
  obtain ⟨rfl, hsz, hP, hK, hE⟩ := hv
  subst hsz
  have hx := B9.exec
  have hb := B9.bytes
  have hr := B9.returns
  have hts := atoms_spec (ws := wsX0_setOff) B9.pre
  have hown : s.vm.findClass RX0 = some m.cls := findClass_of_methodNamed B9.named
  have hlocks := B9.notSynchronized
  have hin0 : ∀ w ∈ wsX00, w ∈ wsX0_setOff := by decide +kernel
  have hl := lv_entry ([.ref x, .int (iI (i : Int)), .int (iI (o : Int))]) (n := 4) (Nat.le_of_ble_eq_true rfl)
  rw [lg_entry_eq]
  generalize (lg_sl ([.ref x, .int (iI (i : Int)), .int (iI (o : Int))]) ++ List.replicate (4 - (lg_sl ([.ref x, .int (iI (i : Int)), .int (iI (o : Int))])).length) Slot.unset).toArray = ls at hl ⊢
  have hl : lv_has ls 4 [(0, .ref x), (1, .int (iI (i : Int))), (2, .int (iI (o : Int)))] := hl
  have hIn := hI.n
  have hIb := hI.b
  refine lv_aload_n hx hb dX0_setOff_0 rfl (lv_at hl 0 rfl) ?_
  refine lv_iload_n hx hb dX0_setOff_1 rfl (lv_at hl 1 rfl) ?_
  refine zc_v (va_runV (As := [.int (iI (i : Int))]) (rest := []) ⟨hx, hb, hml, hown, hts⟩ (c_X0_requireSlight l G x a σ i (by omega) (by omega)) (cwV 1 hts gX0_setOff_X0_requireSlight rfl rfl rfl (by decide +kernel) ⟨Nat.le_of_ble_eq_true rfl, Nat.le_of_ble_eq_true rfl⟩) (preVX hK hP) rfl rfl hl.1 rfl (lv_room (Nat.le_of_ble_eq_true rfl)) dX0_setOff_2 ⟨Nat.le_of_ble_eq_true rfl, Nat.le_of_ble_eq_true rfl⟩) ?_
  refine lv_aload_n hx hb dX0_setOff_5 rfl (lv_at hl 0 rfl) ?_
  refine lv_iload_n hx hb dX0_setOff_6 rfl (lv_at hl 2 rfl) ?_
  refine zc_v (va_runV (As := [.int (iI (o : Int))]) (rest := []) ⟨hx, hb, hml, hown, hts⟩ (c_X0_requireSlight l G x a σ o (by omega) (by omega)) (cwV 1 hts gX0_setOff_X0_requireSlight rfl rfl rfl (by decide +kernel) ⟨Nat.le_of_ble_eq_true rfl, Nat.le_of_ble_eq_true rfl⟩) (preVX hK hP) rfl rfl hl.1 rfl (lv_room (Nat.le_of_ble_eq_true rfl)) dX0_setOff_7 ⟨Nat.le_of_ble_eq_true rfl, Nat.le_of_ble_eq_true rfl⟩) ?_
  refine lv_aload_n hx hb dX0_setOff_10 rfl (lv_at hl 0 rfl) ?_
  refine lv_iload_n hx hb dX0_setOff_11 rfl (lv_at hl 1 rfl) ?_
  refine zc_v (va_runV (As := [.int (iI (i : Int))]) (rest := []) ⟨hx, hb, hml, hown, hts⟩ (c_X0_requireOpen l G x a B σ i hI (by omega) (by omega)) (cwV 1 hts gX0_setOff_X0_requireOpen rfl rfl rfl (by decide +kernel) ⟨Nat.le_of_ble_eq_true rfl, Nat.le_of_ble_eq_true rfl⟩) (preVX hK hP) rfl rfl hl.1 rfl (lv_room (Nat.le_of_ble_eq_true rfl)) dX0_setOff_12 ⟨Nat.le_of_ble_eq_true rfl, Nat.le_of_ble_eq_true rfl⟩) ?_
  refine lv_aload_n hx hb dX0_setOff_15 rfl (lv_at hl 0 rfl) ?_
  refine lv_iload_n hx hb dX0_setOff_16 rfl (lv_at hl 2 rfl) ?_
  exact zt_pass (vx_runV (As := [.int (iI (o : Int))]) (rest := []) ⟨hx, hb, hml, hown, hts⟩ (t_X0_requireOpen l hfl G x a s.heap.size B σ o hI (by omega) (by omega)) (cwV 1 hts gX0_setOff_X0_requireOpen rfl rfl rfl (by decide +kernel) ⟨Nat.le_of_ble_eq_true rfl, Nat.le_of_ble_eq_true rfl⟩) (preTX hK hP hE) rfl rfl hl.1 rfl (lv_room (Nat.le_of_ble_eq_true rfl)) dX0_setOff_17 ⟨Nat.le_of_ble_eq_true rfl, Nat.le_of_ble_eq_true rfl⟩) ht hlocks
set_option maxHeartbeats 4000000 in
set_option maxRecDepth 100000 in
theorem t5_X0_setOff (l : Launch) (hfl : l.stackTraces = false) (G : zG) (x : Nat) (a : Nat → Nat) (sz : Nat) (B : Nat) (σ : zS) (i : Nat) (o : Nat) (hI : zI B σ) (hi : i < σ.1 1) (ho : o < σ.1 1) (h4 : σ.2 5 i = 0) (h5 : σ.2 5 o = 0) (hq : agn σ i o = 0) : vx_Met l yX0_setOff wsX0_setOff ({ frames := 6, cells := 1, slots := 6, locals := 90 } : Room) (va_Pc [.ref x, .int (iI (i : Int)), .int (iI (o : Int))] (pT G x a σ sz)) (QiT sz) (XT zISE sz) 1 6 (nA sz) := by
  refine vx_ofW (cc := cX0_setOff) (maxL := 4) (ret := (some .int)) (by decide) rfl ?_
  intro pp ee s m args below meth c s₁ B9 hml ht hv
  obtain ⟨rfl, hsz, hP, hK, hE⟩ := hv
  subst hsz
  have hx := B9.exec
  have hb := B9.bytes
  have hr := B9.returns
  have hts := atoms_spec (ws := wsX0_setOff) B9.pre
  have hown : s.vm.findClass RX0 = some m.cls := findClass_of_methodNamed B9.named
  have hlocks := B9.notSynchronized
  have hin0 : ∀ w ∈ wsX00, w ∈ wsX0_setOff := by decide +kernel
  have w_0 := hts (.fieldLink RX0 23 "ApologyLedger" "weights" "[I") (by decide +kernel)
  have w_1 := hts (.methodLink RX0 98 Lib.Math.min.name) (by decide +kernel)
  have w_2 := hts (.static Lib.Math.min.name) (by decide +kernel)
  have w_3 := hts (.initialized "java/lang/Math") (by decide +kernel)
  have w_4 := hts (.code Lib.Math.min.name Lib.Math.min.code 2 (some .int)) (by decide +kernel)
  have w_5 : (.classLink RX0 43 zISE : Cond) ∈ wsX0_setOff := by decide +kernel
  have w_6 : (.initialized zISE : Cond) ∈ wsX0_setOff := by decide +kernel
  have w_7 : ∀ w ∈ (vx_atS RX0 47 zISE zXN).filter goodWord, w ∈ wsX0_setOff := by decide +kernel
  have hl := lv_entry ([.ref x, .int (iI (i : Int)), .int (iI (o : Int))]) (n := 4) (Nat.le_of_ble_eq_true rfl)
  rw [lg_entry_eq]
  generalize (lg_sl ([.ref x, .int (iI (i : Int)), .int (iI (o : Int))]) ++ List.replicate (4 - (lg_sl ([.ref x, .int (iI (i : Int)), .int (iI (o : Int))])).length) Slot.unset).toArray = ls at hl ⊢
  have hl : lv_has ls 4 [(0, .ref x), (1, .int (iI (i : Int))), (2, .int (iI (o : Int)))] := hl
  have hIn := hI.n
  have hIb := hI.b
  refine lv_aload_n hx hb dX0_setOff_0 rfl (lv_at hl 0 rfl) ?_
  refine lv_iload_n hx hb dX0_setOff_1 rfl (lv_at hl 1 rfl) ?_
  refine zc_v (va_runV (As := [.int (iI (i : Int))]) (rest := []) ⟨hx, hb, hml, hown, hts⟩ (c_X0_requireSlight l G x a σ i (by omega) (by omega)) (cwV 1 hts gX0_setOff_X0_requireSlight rfl rfl rfl (by decide +kernel) ⟨Nat.le_of_ble_eq_true rfl, Nat.le_of_ble_eq_true rfl⟩) (preVX hK hP) rfl rfl hl.1 rfl (lv_room (Nat.le_of_ble_eq_true rfl)) dX0_setOff_2 ⟨Nat.le_of_ble_eq_true rfl, Nat.le_of_ble_eq_true rfl⟩) ?_
  refine lv_aload_n hx hb dX0_setOff_5 rfl (lv_at hl 0 rfl) ?_
  refine lv_iload_n hx hb dX0_setOff_6 rfl (lv_at hl 2 rfl) ?_
  refine zc_v (va_runV (As := [.int (iI (o : Int))]) (rest := []) ⟨hx, hb, hml, hown, hts⟩ (c_X0_requireSlight l G x a σ o (by omega) (by omega)) (cwV 1 hts gX0_setOff_X0_requireSlight rfl rfl rfl (by decide +kernel) ⟨Nat.le_of_ble_eq_true rfl, Nat.le_of_ble_eq_true rfl⟩) (preVX hK hP) rfl rfl hl.1 rfl (lv_room (Nat.le_of_ble_eq_true rfl)) dX0_setOff_7 ⟨Nat.le_of_ble_eq_true rfl, Nat.le_of_ble_eq_true rfl⟩) ?_
  refine lv_aload_n hx hb dX0_setOff_10 rfl (lv_at hl 0 rfl) ?_
  refine lv_iload_n hx hb dX0_setOff_11 rfl (lv_at hl 1 rfl) ?_
  refine zc_v (va_runV (As := [.int (iI (i : Int))]) (rest := []) ⟨hx, hb, hml, hown, hts⟩ (c_X0_requireOpen l G x a B σ i hI (by omega) (by omega)) (cwV 1 hts gX0_setOff_X0_requireOpen rfl rfl rfl (by decide +kernel) ⟨Nat.le_of_ble_eq_true rfl, Nat.le_of_ble_eq_true rfl⟩) (preVX hK hP) rfl rfl hl.1 rfl (lv_room (Nat.le_of_ble_eq_true rfl)) dX0_setOff_12 ⟨Nat.le_of_ble_eq_true rfl, Nat.le_of_ble_eq_true rfl⟩) ?_
  refine lv_aload_n hx hb dX0_setOff_15 rfl (lv_at hl 0 rfl) ?_
  refine lv_iload_n hx hb dX0_setOff_16 rfl (lv_at hl 2 rfl) ?_
  refine zc_v (va_runV (As := [.int (iI (o : Int))]) (rest := []) ⟨hx, hb, hml, hown, hts⟩ (c_X0_requireOpen l G x a B σ o hI (by omega) (by omega)) (cwV 1 hts gX0_setOff_X0_requireOpen rfl rfl rfl (by decide +kernel) ⟨Nat.le_of_ble_eq_true rfl, Nat.le_of_ble_eq_true rfl⟩) (preVX hK hP) rfl rfl hl.1 rfl (lv_room (Nat.le_of_ble_eq_true rfl)) dX0_setOff_17 ⟨Nat.le_of_ble_eq_true rfl, Nat.le_of_ble_eq_true rfl⟩) ?_
  refine lv_aload_n hx hb dX0_setOff_20 rfl (lv_at hl 0 rfl) ?_
  refine lv_iload_n hx hb dX0_setOff_21 rfl (lv_at hl 1 rfl) ?_
  refine lv_iload_n hx hb dX0_setOff_22 rfl (lv_at hl 2 rfl) ?_
  refine zc_i (va_runV (As := [.int (iI (i : Int)), .int (iI (o : Int))]) (rest := []) ⟨hx, hb, hml, hown, hts⟩ (c_X0_areAgainstEachOther l G x a B σ i o hI (by omega) (by omega)) (cwV 2 hts gX0_setOff_X0_areAgainstEachOther rfl rfl rfl (by decide +kernel) ⟨Nat.le_of_ble_eq_true rfl, Nat.le_of_ble_eq_true rfl⟩) (preVX hK hP) rfl rfl hl.1 rfl (lv_room (Nat.le_of_ble_eq_true rfl)) dX0_setOff_23 ⟨Nat.le_of_ble_eq_true rfl, Nat.le_of_ble_eq_true rfl⟩) ?_
  have f_1 := agn_bd σ i o
  refine z_if_ne (tgt := 39) hx hb dX0_setOff_26 (by decide) (by omega) (fun c_2 => ?_) (fun c_2 => ?_)
  ·
    refine lv_aload_n hx hb dX0_setOff_39 rfl (lv_at hl 0 rfl) ?_
    refine x_get (v := .ref (a 4)) hx hb hts hin0 hown hK hP 0 rfl 5 (by decide) w_0 rfl dX0_setOff_40 ?_
    refine lv_iload_n hx hb dX0_setOff_43 rfl (lv_at hl 1 rfl) ?_
    refine z_iald (v := iI (σ.2 4 i)) hx hb hK hP 5 0 rfl rfl (k := i) (by omega) (by decide) rfl dX0_setOff_44 ?_
    have f_3 := hI.r4 i
    refine lv_aload_n hx hb dX0_setOff_45 rfl (lv_at hl 0 rfl) ?_
    refine x_get (v := .ref (a 4)) hx hb hts hin0 hown hK hP 0 rfl 5 (by decide) w_0 rfl dX0_setOff_46 ?_
    refine lv_iload_n hx hb dX0_setOff_49 rfl (lv_at hl 2 rfl) ?_
    refine z_iald (v := iI (σ.2 4 o)) hx hb hK hP 5 0 rfl rfl (k := o) (by omega) (by decide) rfl dX0_setOff_50 ?_
    have f_4 := hI.r4 o
    refine z_min hx hb (by rw [hml]; exact hl.1.symm) hown w_1 w_2 w_3 w_4 (Nat.le_of_ble_eq_true rfl) (Nat.le_of_ble_eq_true rfl) (Nat.le_of_ble_eq_true rfl) (Nat.le_of_ble_eq_true rfl) (by omega) (by omega) dX0_setOff_51 ?_
    refine lv_istore_n (lv' := [(3, .int (iI (min (σ.2 4 i) (σ.2 4 o)))), (0, .ref x), (1, .int (iI (i : Int))), (2, .int (iI (o : Int)))]) hx hb dX0_setOff_54 rfl hl (by decide) rfl (fun ls hl => ?_)
    refine lv_aload_n hx hb dX0_setOff_55 rfl (lv_at hl 1 rfl) ?_
    refine lv_iload_n hx hb dX0_setOff_56 rfl (lv_at hl 2 rfl) ?_
    refine lv_iload_n hx hb dX0_setOff_57 rfl (lv_at hl 0 rfl) ?_
    refine lv_iconst (v := iI 3) hx hb dX0_setOff_58 rfl ?_
    exfalso
    omega
  ·
    exact zt_new hx hb hfl hown hts w_5 w_6 w_7 zB_ISE (by decide +kernel) zO_ISE hE (List.mem_of_getElem? (i := 11) rfl) (by rw [hml]; exact hl.1) dX0_setOff_29 dX0_setOff_32 dX0_setOff_33 dX0_setOff_35 dX0_setOff_38 ht (Nat.le_of_ble_eq_true rfl) (Nat.le_of_ble_eq_true rfl) (Nat.le_of_ble_eq_true rfl) (Nat.le_of_ble_eq_true rfl) hlocks
set_option maxHeartbeats 4000000 in
set_option maxRecDepth 100000 in
theorem t1_X0_setPride (l : Launch) (hfl : l.stackTraces = false) (G : zG) (x : Nat) (a : Nat → Nat) (sz : Nat) (B : Nat) (σ : zS) (z : Int) (w : Int) (hI : zI B σ) (hzb : -2147483648 ≤ z ∧ z < 2147483648) (hbad : z < 0 ∨ (σ.1 0 : Int) ≤ z) : vx_Met l yX0_setPride wsX0_setPride ({ frames := 7, cells := 1, slots := 6, locals := 111 } : Room) (va_Pc [.ref x, .int (iI z), .int (iI w)] (pT G x a σ sz)) (QiT sz) (XT zIOE sz) 1 6 (nA sz) := by
  refine vx_ofW (cc := cX0_setPride) (maxL := 4) (ret := (some .int)) (by decide) rfl ?_
  intro pp ee s m args below meth c s₁ B9 hml ht hv
  obtain ⟨rfl, hsz, hP, hK, hE⟩ := hv
  subst hsz
  have hx := B9.exec
  have hb := B9.bytes
  have hr := B9.returns
  have hts := atoms_spec (ws := wsX0_setPride) B9.pre
  have hown : s.vm.findClass RX0 = some m.cls := findClass_of_methodNamed B9.named
  have hlocks := B9.notSynchronized
  have hin0 : ∀ w ∈ wsX00, w ∈ wsX0_setPride := by decide +kernel
  have hl := lv_entry ([.ref x, .int (iI z), .int (iI w)]) (n := 4) (Nat.le_of_ble_eq_true rfl)
  rw [lg_entry_eq]
  generalize (lg_sl ([.ref x, .int (iI z), .int (iI w)]) ++ List.replicate (4 - (lg_sl ([.ref x, .int (iI z), .int (iI w)])).length) Slot.unset).toArray = ls at hl ⊢
  have hl : lv_has ls 4 [(0, .ref x), (1, .int (iI z)), (2, .int (iI w))] := hl
  have hIn := hI.n
  have hIb := hI.b
  refine lv_aload_n hx hb dX0_setPride_0 rfl (lv_at hl 0 rfl) ?_
  refine lv_iload_n hx hb dX0_setPride_1 rfl (lv_at hl 1 rfl) ?_
  exact zt_pass (vx_runV (As := [.int (iI z)]) (rest := []) ⟨hx, hb, hml, hown, hts⟩ (t_X0_requirePerson l hfl G x a s.heap.size B σ z hI (by omega) (by omega)) (cwV 1 hts gX0_setPride_X0_requirePerson rfl rfl rfl (by decide +kernel) ⟨Nat.le_of_ble_eq_true rfl, Nat.le_of_ble_eq_true rfl⟩) (preTX hK hP hE) rfl rfl hl.1 rfl (lv_room (Nat.le_of_ble_eq_true rfl)) dX0_setPride_2 ⟨Nat.le_of_ble_eq_true rfl, Nat.le_of_ble_eq_true rfl⟩) ht hlocks
set_option maxHeartbeats 4000000 in
set_option maxRecDepth 100000 in
theorem t2_X0_setPride (l : Launch) (hfl : l.stackTraces = false) (G : zG) (x : Nat) (a : Nat → Nat) (sz : Nat) (B : Nat) (σ : zS) (p : Nat) (z : Int) (hI : zI B σ) (hp : p < σ.1 0) (hzb : -2147483648 ≤ z ∧ z < 2147483648) (hbad : z < 0 ∨ 9 < z) : vx_Met l yX0_setPride wsX0_setPride ({ frames := 7, cells := 1, slots := 6, locals := 110 } : Room) (va_Pc [.ref x, .int (iI (p : Int)), .int (iI z)] (pT G x a σ sz)) (QiT sz) (XT zIAE sz) 1 6 (nA sz) := by
  refine vx_ofW (cc := cX0_setPride) (maxL := 4) (ret := (some .int)) (by decide) rfl ?_
  intro pp ee s m args below meth c s₁ B9 hml ht hv
  obtain ⟨rfl, hsz, hP, hK, hE⟩ := hv
  subst hsz
  have hx := B9.exec
  have hb := B9.bytes
  have hr := B9.returns
  have hts := atoms_spec (ws := wsX0_setPride) B9.pre
  have hown : s.vm.findClass RX0 = some m.cls := findClass_of_methodNamed B9.named
  have hlocks := B9.notSynchronized
  have hin0 : ∀ w ∈ wsX00, w ∈ wsX0_setPride := by decide +kernel
  have hl := lv_entry ([.ref x, .int (iI (p : Int)), .int (iI z)]) (n := 4) (Nat.le_of_ble_eq_true rfl)
  rw [lg_entry_eq]
  generalize (lg_sl ([.ref x, .int (iI (p : Int)), .int (iI z)]) ++ List.replicate (4 - (lg_sl ([.ref x, .int (iI (p : Int)), .int (iI z)])).length) Slot.unset).toArray = ls at hl ⊢
  have hl : lv_has ls 4 [(0, .ref x), (1, .int (iI (p : Int))), (2, .int (iI z))] := hl
  have hIn := hI.n
  have hIb := hI.b
  refine lv_aload_n hx hb dX0_setPride_0 rfl (lv_at hl 0 rfl) ?_
  refine lv_iload_n hx hb dX0_setPride_1 rfl (lv_at hl 1 rfl) ?_
  refine zc_v (va_runV (As := [.int (iI (p : Int))]) (rest := []) ⟨hx, hb, hml, hown, hts⟩ (c_X0_requirePerson l G x a σ p (by omega) (by omega)) (cwV 1 hts gX0_setPride_X0_requirePerson rfl rfl rfl (by decide +kernel) ⟨Nat.le_of_ble_eq_true rfl, Nat.le_of_ble_eq_true rfl⟩) (preVX hK hP) rfl rfl hl.1 rfl (lv_room (Nat.le_of_ble_eq_true rfl)) dX0_setPride_2 ⟨Nat.le_of_ble_eq_true rfl, Nat.le_of_ble_eq_true rfl⟩) ?_
  refine lv_iload_n hx hb dX0_setPride_5 rfl (lv_at hl 2 rfl) ?_
  exact zt_pass (vx_runS (As := [.int (iI z)]) (rest := []) ⟨hx, hb, hml, hown, hts⟩ (t_X0_requirePride l hfl s.heap.size z (by omega) (by omega)) (va_cwS 1 hts gX0_setPride_X0_requirePride rfl rfl rfl (by decide +kernel) ⟨Nat.le_of_ble_eq_true rfl, Nat.le_of_ble_eq_true rfl⟩) (preTS hE) rfl rfl hl.1 rfl (lv_room (Nat.le_of_ble_eq_true rfl)) dX0_setPride_6 ⟨Nat.le_of_ble_eq_true rfl, Nat.le_of_ble_eq_true rfl⟩) ht hlocks
set_option maxHeartbeats 4000000 in
set_option maxRecDepth 100000 in
theorem t1_X0_pass (l : Launch) (hfl : l.stackTraces = false) (G : zG) (x : Nat) (a : Nat → Nat) (sz : Nat) (B : Nat) (σ : zS) (z : Int) (hI : zI B σ) (hzb : -2147483648 ≤ z ∧ z < 2147483648) (hbad : z < 1 ∨ 60 < z) : vx_Met l yX0_pass wsX0_pass ({ frames := 7, cells := 1, slots := 6, locals := 110 } : Room) (va_Pc [.ref x, .int (iI z)] (pT G x a σ sz)) (QiT sz) (XT zIAE sz) 1 6 (nA sz) := by
  refine vx_ofW (cc := cX0_pass) (maxL := 4) (ret := (some .int)) (by decide) rfl ?_
  intro pp ee s m args below meth c s₁ B9 hml ht hv
  obtain ⟨rfl, hsz, hP, hK, hE⟩ := hv
  subst hsz
  have hx := B9.exec
  have hb := B9.bytes
  have hr := B9.returns
  have hts := atoms_spec (ws := wsX0_pass) B9.pre
  have hown : s.vm.findClass RX0 = some m.cls := findClass_of_methodNamed B9.named
  have hlocks := B9.notSynchronized
  have hin0 : ∀ w ∈ wsX00, w ∈ wsX0_pass := by decide +kernel
  have hl := lv_entry ([.ref x, .int (iI z)]) (n := 4) (Nat.le_of_ble_eq_true rfl)
  rw [lg_entry_eq]
  generalize (lg_sl ([.ref x, .int (iI z)]) ++ List.replicate (4 - (lg_sl ([.ref x, .int (iI z)])).length) Slot.unset).toArray = ls at hl ⊢
  have hl : lv_has ls 4 [(0, .ref x), (1, .int (iI z))] := hl
  have hIn := hI.n
  have hIb := hI.b
  refine lv_iload_n hx hb dX0_pass_0 rfl (lv_at hl 1 rfl) ?_
  exact zt_pass (vx_runS (As := [.int (iI z)]) (rest := []) ⟨hx, hb, hml, hown, hts⟩ (t_X0_requireDays l hfl s.heap.size z (by omega) (by omega)) (va_cwS 1 hts gX0_pass_X0_requireDays rfl rfl rfl (by decide +kernel) ⟨Nat.le_of_ble_eq_true rfl, Nat.le_of_ble_eq_true rfl⟩) (preTS hE) rfl rfl hl.1 rfl (lv_room (Nat.le_of_ble_eq_true rfl)) dX0_pass_1 ⟨Nat.le_of_ble_eq_true rfl, Nat.le_of_ble_eq_true rfl⟩) ht hlocks
set_option maxHeartbeats 4000000 in
set_option maxRecDepth 100000 in
theorem t1_X0_balance (l : Launch) (hfl : l.stackTraces = false) (G : zG) (x : Nat) (a : Nat → Nat) (sz : Nat) (B : Nat) (σ : zS) (z : Int) (y : Int) (hI : zI B σ) (hzb : -2147483648 ≤ z ∧ z < 2147483648) (hbad : z < 0 ∨ (σ.1 0 : Int) ≤ z) : vx_Met l yX0_balance wsX0_balance ({ frames := 7, cells := 1, slots := 6, locals := 111 } : Room) (va_Pc [.ref x, .int (iI z), .int (iI y)] (pT G x a σ sz)) (QiT sz) (XT zIOE sz) 1 6 (nA sz) := by
  refine vx_ofW (cc := cX0_balance) (maxL := 3) (ret := (some .int)) (by decide) rfl ?_
  intro pp ee s m args below meth c s₁ B9 hml ht hv
  obtain ⟨rfl, hsz, hP, hK, hE⟩ := hv
  subst hsz
  have hx := B9.exec
  have hb := B9.bytes
  have hr := B9.returns
  have hts := atoms_spec (ws := wsX0_balance) B9.pre
  have hown : s.vm.findClass RX0 = some m.cls := findClass_of_methodNamed B9.named
  have hlocks := B9.notSynchronized
  have hin0 : ∀ w ∈ wsX00, w ∈ wsX0_balance := by decide +kernel
  have hl := lv_entry ([.ref x, .int (iI z), .int (iI y)]) (n := 3) (Nat.le_of_ble_eq_true rfl)
  rw [lg_entry_eq]
  generalize (lg_sl ([.ref x, .int (iI z), .int (iI y)]) ++ List.replicate (3 - (lg_sl ([.ref x, .int (iI z), .int (iI y)])).length) Slot.unset).toArray = ls at hl ⊢
  have hl : lv_has ls 3 [(0, .ref x), (1, .int (iI z)), (2, .int (iI y))] := hl
  have hIn := hI.n
  have hIb := hI.b
  refine lv_aload_n hx hb dX0_balance_0 rfl (lv_at hl 0 rfl) ?_
  refine lv_iload_n hx hb dX0_balance_1 rfl (lv_at hl 1 rfl) ?_
  exact zt_pass (vx_runV (As := [.int (iI z)]) (rest := []) ⟨hx, hb, hml, hown, hts⟩ (t_X0_requirePerson l hfl G x a s.heap.size B σ z hI (by omega) (by omega)) (cwV 1 hts gX0_balance_X0_requirePerson rfl rfl rfl (by decide +kernel) ⟨Nat.le_of_ble_eq_true rfl, Nat.le_of_ble_eq_true rfl⟩) (preTX hK hP hE) rfl rfl hl.1 rfl (lv_room (Nat.le_of_ble_eq_true rfl)) dX0_balance_2 ⟨Nat.le_of_ble_eq_true rfl, Nat.le_of_ble_eq_true rfl⟩) ht hlocks
set_option maxHeartbeats 4000000 in
set_option maxRecDepth 100000 in
theorem t2_X0_balance (l : Launch) (hfl : l.stackTraces = false) (G : zG) (x : Nat) (a : Nat → Nat) (sz : Nat) (B : Nat) (σ : zS) (i : Nat) (z : Int) (hI : zI B σ) (hi : i < σ.1 0) (hzb : -2147483648 ≤ z ∧ z < 2147483648) (hbad : z < 0 ∨ (σ.1 0 : Int) ≤ z) : vx_Met l yX0_balance wsX0_balance ({ frames := 7, cells := 1, slots := 6, locals := 111 } : Room) (va_Pc [.ref x, .int (iI (i : Int)), .int (iI z)] (pT G x a σ sz)) (QiT sz) (XT zIOE sz) 1 6 (nA sz) := by
  refine vx_ofW (cc := cX0_balance) (maxL := 3) (ret := (some .int)) (by decide) rfl ?_
  intro pp ee s m args below meth c s₁ B9 hml ht hv
  obtain ⟨rfl, hsz, hP, hK, hE⟩ := hv
  subst hsz
  have hx := B9.exec
  have hb := B9.bytes
  have hr := B9.returns
  have hts := atoms_spec (ws := wsX0_balance) B9.pre
  have hown : s.vm.findClass RX0 = some m.cls := findClass_of_methodNamed B9.named
  have hlocks := B9.notSynchronized
  have hin0 : ∀ w ∈ wsX00, w ∈ wsX0_balance := by decide +kernel
  have hl := lv_entry ([.ref x, .int (iI (i : Int)), .int (iI z)]) (n := 3) (Nat.le_of_ble_eq_true rfl)
  rw [lg_entry_eq]
  generalize (lg_sl ([.ref x, .int (iI (i : Int)), .int (iI z)]) ++ List.replicate (3 - (lg_sl ([.ref x, .int (iI (i : Int)), .int (iI z)])).length) Slot.unset).toArray = ls at hl ⊢
  have hl : lv_has ls 3 [(0, .ref x), (1, .int (iI (i : Int))), (2, .int (iI z))] := hl
  have hIn := hI.n
  have hIb := hI.b
  refine lv_aload_n hx hb dX0_balance_0 rfl (lv_at hl 0 rfl) ?_
  refine lv_iload_n hx hb dX0_balance_1 rfl (lv_at hl 1 rfl) ?_
  refine zc_v (va_runV (As := [.int (iI (i : Int))]) (rest := []) ⟨hx, hb, hml, hown, hts⟩ (c_X0_requirePerson l G x a σ i (by omega) (by omega)) (cwV 1 hts gX0_balance_X0_requirePerson rfl rfl rfl (by decide +kernel) ⟨Nat.le_of_ble_eq_true rfl, Nat.le_of_ble_eq_true rfl⟩) (preVX hK hP) rfl rfl hl.1 rfl (lv_room (Nat.le_of_ble_eq_true rfl)) dX0_balance_2 ⟨Nat.le_of_ble_eq_true rfl, Nat.le_of_ble_eq_true rfl⟩) ?_
  refine lv_aload_n hx hb dX0_balance_5 rfl (lv_at hl 0 rfl) ?_
  refine lv_iload_n hx hb dX0_balance_6 rfl (lv_at hl 2 rfl) ?_
  exact zt_pass (vx_runV (As := [.int (iI z)]) (rest := []) ⟨hx, hb, hml, hown, hts⟩ (t_X0_requirePerson l hfl G x a s.heap.size B σ z hI (by omega) (by omega)) (cwV 1 hts gX0_balance_X0_requirePerson rfl rfl rfl (by decide +kernel) ⟨Nat.le_of_ble_eq_true rfl, Nat.le_of_ble_eq_true rfl⟩) (preTX hK hP hE) rfl rfl hl.1 rfl (lv_room (Nat.le_of_ble_eq_true rfl)) dX0_balance_7 ⟨Nat.le_of_ble_eq_true rfl, Nat.le_of_ble_eq_true rfl⟩) ht hlocks
set_option maxHeartbeats 4000000 in
set_option maxRecDepth 100000 in
theorem t1_X0_inState (l : Launch) (hfl : l.stackTraces = false) (G : zG) (x : Nat) (a : Nat → Nat) (sz : Nat) (B : Nat) (σ : zS) (z : Int) (hI : zI B σ) (hzb : -2147483648 ≤ z ∧ z < 2147483648) (hbad : z < 0 ∨ 3 < z) : vx_Met l yX0_inState wsX0_inState ({ frames := 6, cells := 1, slots := 6, locals := 90 } : Room) (va_Pc [.ref x, .int (iI z)] (pT G x a σ sz)) (QiT sz) (XT zIAE sz) 1 6 (nA sz) := by
  refine vx_ofW (cc := cX0_inState) (maxL := 4) (ret := (some .int)) (by decide) rfl ?_
  intro pp ee s m args below meth c s₁ B9 hml ht hv
  obtain ⟨rfl, hsz, hP, hK, hE⟩ := hv
  subst hsz
  have hx := B9.exec
  have hb := B9.bytes
  have hr := B9.returns
  have hts := atoms_spec (ws := wsX0_inState) B9.pre
  have hown : s.vm.findClass RX0 = some m.cls := findClass_of_methodNamed B9.named
  have hlocks := B9.notSynchronized
  have hin0 : ∀ w ∈ wsX00, w ∈ wsX0_inState := by decide +kernel
  have w_0 : (.classLink RX0 53 zIAE : Cond) ∈ wsX0_inState := by decide +kernel
  have w_1 : (.initialized zIAE : Cond) ∈ wsX0_inState := by decide +kernel
  have w_2 : ∀ w ∈ (vx_atS RX0 57 zIAE zXN).filter goodWord, w ∈ wsX0_inState := by decide +kernel
  have hl := lv_entry ([.ref x, .int (iI z)]) (n := 4) (Nat.le_of_ble_eq_true rfl)
  rw [lg_entry_eq]
  generalize (lg_sl ([.ref x, .int (iI z)]) ++ List.replicate (4 - (lg_sl ([.ref x, .int (iI z)])).length) Slot.unset).toArray = ls at hl ⊢
  have hl : lv_has ls 4 [(0, .ref x), (1, .int (iI z))] := hl
  have hIn := hI.n
  have hIb := hI.b
  refine lv_iload_n hx hb dX0_inState_0 rfl (lv_at hl 1 rfl) ?_
  refine z_if_lt (tgt := 9) hx hb dX0_inState_1 (by decide) (by omega) (fun c_1 => ?_) (fun c_1 => ?_)
  ·
    exact zt_new hx hb hfl hown hts w_0 w_1 w_2 zB_IAE (by decide +kernel) zO_IAE hE (List.mem_of_getElem? (i := 0) rfl) (by rw [hml]; exact hl.1) dX0_inState_9 dX0_inState_12 dX0_inState_13 dX0_inState_15 dX0_inState_18 ht (Nat.le_of_ble_eq_true rfl) (Nat.le_of_ble_eq_true rfl) (Nat.le_of_ble_eq_true rfl) (Nat.le_of_ble_eq_true rfl) hlocks
  ·
    refine lv_iload_n hx hb dX0_inState_4 rfl (lv_at hl 1 rfl) ?_
    refine lv_iconst (v := iI 3) hx hb dX0_inState_5 rfl ?_
    refine z_icmp_le (tgt := 19) hx hb dX0_inState_6 (by decide) (by omega) (by omega) (fun c_2 => ?_) (fun c_2 => ?_)
    ·
      refine lv_iconst (v := iI 0) hx hb dX0_inState_19 rfl ?_
      refine lv_istore_n (lv' := [(2, .int (iI 0)), (0, .ref x), (1, .int (iI z))]) hx hb dX0_inState_20 rfl hl (by decide) rfl (fun ls hl => ?_)
      refine lv_iconst (v := iI 0) hx hb dX0_inState_21 rfl ?_
      refine lv_istore_n (lv' := [(3, .int (iI 0)), (2, .int (iI 0)), (0, .ref x), (1, .int (iI z))]) hx hb dX0_inState_22 rfl hl (by decide) rfl (fun ls hl => ?_)
      exfalso
      omega
    ·
      exact zt_new hx hb hfl hown hts w_0 w_1 w_2 zB_IAE (by decide +kernel) zO_IAE hE (List.mem_of_getElem? (i := 0) rfl) (by rw [hml]; exact hl.1) dX0_inState_9 dX0_inState_12 dX0_inState_13 dX0_inState_15 dX0_inState_18 ht (Nat.le_of_ble_eq_true rfl) (Nat.le_of_ble_eq_true rfl) (Nat.le_of_ble_eq_true rfl) (Nat.le_of_ble_eq_true rfl) hlocks
set_option maxHeartbeats 4000000 in
set_option maxRecDepth 100000 in
theorem t1_X0_wouldBeScorned (l : Launch) (hfl : l.stackTraces = false) (G : zG) (x : Nat) (a : Nat → Nat) (sz : Nat) (B : Nat) (σ : zS) (z : Int) (w : Int) (hI : zI B σ) (hzb : -2147483648 ≤ z ∧ z < 2147483648) (hbad : z < 0 ∨ (σ.1 1 : Int) ≤ z) : vx_Met l yX0_wouldBeScorned wsX0_wouldBeScorned ({ frames := 7, cells := 1, slots := 6, locals := 111 } : Room) (va_Pc [.ref x, .int (iI z), .int (iI w)] (pT G x a σ sz)) (QiT sz) (XT zIOE sz) 1 6 (nA sz) := by
  refine vx_ofW (cc := cX0_wouldBeScorned) (maxL := 3) (ret := (some .boolean)) (by decide) rfl ?_
  intro pp ee s m args below meth c s₁ B9 hml ht hv
  obtain ⟨rfl, hsz, hP, hK, hE⟩ := hv
  subst hsz
  have hx := B9.exec
  have hb := B9.bytes
  have hr := B9.returns
  have hts := atoms_spec (ws := wsX0_wouldBeScorned) B9.pre
  have hown : s.vm.findClass RX0 = some m.cls := findClass_of_methodNamed B9.named
  have hlocks := B9.notSynchronized
  have hin0 : ∀ w ∈ wsX00, w ∈ wsX0_wouldBeScorned := by decide +kernel
  have hl := lv_entry ([.ref x, .int (iI z), .int (iI w)]) (n := 3) (Nat.le_of_ble_eq_true rfl)
  rw [lg_entry_eq]
  generalize (lg_sl ([.ref x, .int (iI z), .int (iI w)]) ++ List.replicate (3 - (lg_sl ([.ref x, .int (iI z), .int (iI w)])).length) Slot.unset).toArray = ls at hl ⊢
  have hl : lv_has ls 3 [(0, .ref x), (1, .int (iI z)), (2, .int (iI w))] := hl
  have hIn := hI.n
  have hIb := hI.b
  refine lv_aload_n hx hb dX0_wouldBeScorned_0 rfl (lv_at hl 0 rfl) ?_
  refine lv_iload_n hx hb dX0_wouldBeScorned_1 rfl (lv_at hl 1 rfl) ?_
  exact zt_pass (vx_runV (As := [.int (iI z)]) (rest := []) ⟨hx, hb, hml, hown, hts⟩ (t_X0_requireSlight l hfl G x a s.heap.size B σ z hI (by omega) (by omega)) (cwV 1 hts gX0_wouldBeScorned_X0_requireSlight rfl rfl rfl (by decide +kernel) ⟨Nat.le_of_ble_eq_true rfl, Nat.le_of_ble_eq_true rfl⟩) (preTX hK hP hE) rfl rfl hl.1 rfl (lv_room (Nat.le_of_ble_eq_true rfl)) dX0_wouldBeScorned_2 ⟨Nat.le_of_ble_eq_true rfl, Nat.le_of_ble_eq_true rfl⟩) ht hlocks
set_option maxHeartbeats 4000000 in
set_option maxRecDepth 100000 in
theorem t2_X0_wouldBeScorned (l : Launch) (hfl : l.stackTraces = false) (G : zG) (x : Nat) (a : Nat → Nat) (sz : Nat) (B : Nat) (σ : zS) (k : Nat) (z : Int) (hI : zI B σ) (hk : k < σ.1 1) (hzb : -2147483648 ≤ z ∧ z < 2147483648) (hbad : z < 1 ∨ 20 < z) : vx_Met l yX0_wouldBeScorned wsX0_wouldBeScorned ({ frames := 7, cells := 1, slots := 6, locals := 110 } : Room) (va_Pc [.ref x, .int (iI (k : Int)), .int (iI z)] (pT G x a σ sz)) (QiT sz) (XT zIAE sz) 1 6 (nA sz) := by
  refine vx_ofW (cc := cX0_wouldBeScorned) (maxL := 3) (ret := (some .boolean)) (by decide) rfl ?_
  intro pp ee s m args below meth c s₁ B9 hml ht hv
  obtain ⟨rfl, hsz, hP, hK, hE⟩ := hv
  subst hsz
  have hx := B9.exec
  have hb := B9.bytes
  have hr := B9.returns
  have hts := atoms_spec (ws := wsX0_wouldBeScorned) B9.pre
  have hown : s.vm.findClass RX0 = some m.cls := findClass_of_methodNamed B9.named
  have hlocks := B9.notSynchronized
  have hin0 : ∀ w ∈ wsX00, w ∈ wsX0_wouldBeScorned := by decide +kernel
  have hl := lv_entry ([.ref x, .int (iI (k : Int)), .int (iI z)]) (n := 3) (Nat.le_of_ble_eq_true rfl)
  rw [lg_entry_eq]
  generalize (lg_sl ([.ref x, .int (iI (k : Int)), .int (iI z)]) ++ List.replicate (3 - (lg_sl ([.ref x, .int (iI (k : Int)), .int (iI z)])).length) Slot.unset).toArray = ls at hl ⊢
  have hl : lv_has ls 3 [(0, .ref x), (1, .int (iI (k : Int))), (2, .int (iI z))] := hl
  have hIn := hI.n
  have hIb := hI.b
  refine lv_aload_n hx hb dX0_wouldBeScorned_0 rfl (lv_at hl 0 rfl) ?_
  refine lv_iload_n hx hb dX0_wouldBeScorned_1 rfl (lv_at hl 1 rfl) ?_
  refine zc_v (va_runV (As := [.int (iI (k : Int))]) (rest := []) ⟨hx, hb, hml, hown, hts⟩ (c_X0_requireSlight l G x a σ k (by omega) (by omega)) (cwV 1 hts gX0_wouldBeScorned_X0_requireSlight rfl rfl rfl (by decide +kernel) ⟨Nat.le_of_ble_eq_true rfl, Nat.le_of_ble_eq_true rfl⟩) (preVX hK hP) rfl rfl hl.1 rfl (lv_room (Nat.le_of_ble_eq_true rfl)) dX0_wouldBeScorned_2 ⟨Nat.le_of_ble_eq_true rfl, Nat.le_of_ble_eq_true rfl⟩) ?_
  refine lv_iload_n hx hb dX0_wouldBeScorned_5 rfl (lv_at hl 2 rfl) ?_
  exact zt_pass (vx_runS (As := [.int (iI z)]) (rest := []) ⟨hx, hb, hml, hown, hts⟩ (t_X0_requireWords l hfl s.heap.size z (by omega) (by omega)) (va_cwS 1 hts gX0_wouldBeScorned_X0_requireWords rfl rfl rfl (by decide +kernel) ⟨Nat.le_of_ble_eq_true rfl, Nat.le_of_ble_eq_true rfl⟩) (preTS hE) rfl rfl hl.1 rfl (lv_room (Nat.le_of_ble_eq_true rfl)) dX0_wouldBeScorned_6 ⟨Nat.le_of_ble_eq_true rfl, Nat.le_of_ble_eq_true rfl⟩) ht hlocks
set_option maxHeartbeats 4000000 in
set_option maxRecDepth 100000 in
theorem t1_X0_weightIn (l : Launch) (hfl : l.stackTraces = false) (G : zG) (x : Nat) (a : Nat → Nat) (sz : Nat) (B : Nat) (σ : zS) (z : Int) (w : Int) (hI : zI B σ) (hzb : -2147483648 ≤ z ∧ z < 2147483648) (hbad : z < 0 ∨ (σ.1 1 : Int) ≤ z) : vx_Met l yX0_weightIn wsX0_weightIn ({ frames := 7, cells := 1, slots := 6, locals := 111 } : Room) (va_Pc [.ref x, .int (iI z), .int (iI w)] (pT G x a σ sz)) (QiT sz) (XT zIOE sz) 1 6 (nA sz) := by
  refine vx_ofW (cc := cX0_weightIn) (maxL := 5) (ret := (some .int)) (by decide) rfl ?_
  intro pp ee s m args below meth c s₁ B9 hml ht hv
  obtain ⟨rfl, hsz, hP, hK, hE⟩ := hv
  subst hsz
  have hx := B9.exec
  have hb := B9.bytes
  have hr := B9.returns
  have hts := atoms_spec (ws := wsX0_weightIn) B9.pre
  have hown : s.vm.findClass RX0 = some m.cls := findClass_of_methodNamed B9.named
  have hlocks := B9.notSynchronized
  have hin0 : ∀ w ∈ wsX00, w ∈ wsX0_weightIn := by decide +kernel
  have hl := lv_entry ([.ref x, .int (iI z), .int (iI w)]) (n := 5) (Nat.le_of_ble_eq_true rfl)
  rw [lg_entry_eq]
  generalize (lg_sl ([.ref x, .int (iI z), .int (iI w)]) ++ List.replicate (5 - (lg_sl ([.ref x, .int (iI z), .int (iI w)])).length) Slot.unset).toArray = ls at hl ⊢
  have hl : lv_has ls 5 [(0, .ref x), (1, .int (iI z)), (2, .int (iI w))] := hl
  have hIn := hI.n
  have hIb := hI.b
  refine lv_aload_n hx hb dX0_weightIn_0 rfl (lv_at hl 0 rfl) ?_
  refine lv_iload_n hx hb dX0_weightIn_1 rfl (lv_at hl 1 rfl) ?_
  exact zt_pass (vx_runV (As := [.int (iI z)]) (rest := []) ⟨hx, hb, hml, hown, hts⟩ (t_X0_requireSlight l hfl G x a s.heap.size B σ z hI (by omega) (by omega)) (cwV 1 hts gX0_weightIn_X0_requireSlight rfl rfl rfl (by decide +kernel) ⟨Nat.le_of_ble_eq_true rfl, Nat.le_of_ble_eq_true rfl⟩) (preTX hK hP hE) rfl rfl hl.1 rfl (lv_room (Nat.le_of_ble_eq_true rfl)) dX0_weightIn_2 ⟨Nat.le_of_ble_eq_true rfl, Nat.le_of_ble_eq_true rfl⟩) ht hlocks
set_option maxHeartbeats 4000000 in
set_option maxRecDepth 100000 in
theorem t2_X0_weightIn (l : Launch) (hfl : l.stackTraces = false) (G : zG) (x : Nat) (a : Nat → Nat) (sz : Nat) (B : Nat) (σ : zS) (k : Nat) (z : Int) (hI : zI B σ) (hk : k < σ.1 1) (hzb : -2147483648 ≤ z ∧ z < 2147483648) (hbad : z < 1 ∨ 60 < z) : vx_Met l yX0_weightIn wsX0_weightIn ({ frames := 7, cells := 1, slots := 6, locals := 110 } : Room) (va_Pc [.ref x, .int (iI (k : Int)), .int (iI z)] (pT G x a σ sz)) (QiT sz) (XT zIAE sz) 1 6 (nA sz) := by
  refine vx_ofW (cc := cX0_weightIn) (maxL := 5) (ret := (some .int)) (by decide) rfl ?_
  intro pp ee s m args below meth c s₁ B9 hml ht hv
  obtain ⟨rfl, hsz, hP, hK, hE⟩ := hv
  subst hsz
  have hx := B9.exec
  have hb := B9.bytes
  have hr := B9.returns
  have hts := atoms_spec (ws := wsX0_weightIn) B9.pre
  have hown : s.vm.findClass RX0 = some m.cls := findClass_of_methodNamed B9.named
  have hlocks := B9.notSynchronized
  have hin0 : ∀ w ∈ wsX00, w ∈ wsX0_weightIn := by decide +kernel
  have hl := lv_entry ([.ref x, .int (iI (k : Int)), .int (iI z)]) (n := 5) (Nat.le_of_ble_eq_true rfl)
  rw [lg_entry_eq]
  generalize (lg_sl ([.ref x, .int (iI (k : Int)), .int (iI z)]) ++ List.replicate (5 - (lg_sl ([.ref x, .int (iI (k : Int)), .int (iI z)])).length) Slot.unset).toArray = ls at hl ⊢
  have hl : lv_has ls 5 [(0, .ref x), (1, .int (iI (k : Int))), (2, .int (iI z))] := hl
  have hIn := hI.n
  have hIb := hI.b
  refine lv_aload_n hx hb dX0_weightIn_0 rfl (lv_at hl 0 rfl) ?_
  refine lv_iload_n hx hb dX0_weightIn_1 rfl (lv_at hl 1 rfl) ?_
  refine zc_v (va_runV (As := [.int (iI (k : Int))]) (rest := []) ⟨hx, hb, hml, hown, hts⟩ (c_X0_requireSlight l G x a σ k (by omega) (by omega)) (cwV 1 hts gX0_weightIn_X0_requireSlight rfl rfl rfl (by decide +kernel) ⟨Nat.le_of_ble_eq_true rfl, Nat.le_of_ble_eq_true rfl⟩) (preVX hK hP) rfl rfl hl.1 rfl (lv_room (Nat.le_of_ble_eq_true rfl)) dX0_weightIn_2 ⟨Nat.le_of_ble_eq_true rfl, Nat.le_of_ble_eq_true rfl⟩) ?_
  refine lv_iload_n hx hb dX0_weightIn_5 rfl (lv_at hl 2 rfl) ?_
  exact zt_pass (vx_runS (As := [.int (iI z)]) (rest := []) ⟨hx, hb, hml, hown, hts⟩ (t_X0_requireDays l hfl s.heap.size z (by omega) (by omega)) (va_cwS 1 hts gX0_weightIn_X0_requireDays rfl rfl rfl (by decide +kernel) ⟨Nat.le_of_ble_eq_true rfl, Nat.le_of_ble_eq_true rfl⟩) (preTS hE) rfl rfl hl.1 rfl (lv_room (Nat.le_of_ble_eq_true rfl)) dX0_weightIn_6 ⟨Nat.le_of_ble_eq_true rfl, Nat.le_of_ble_eq_true rfl⟩) ht hlocks
set_option maxHeartbeats 4000000 in
set_option maxRecDepth 100000 in
theorem t1_X0_borneIn (l : Launch) (hfl : l.stackTraces = false) (G : zG) (x : Nat) (a : Nat → Nat) (sz : Nat) (B : Nat) (σ : zS) (z : Int) (w : Int) (hI : zI B σ) (hzb : -2147483648 ≤ z ∧ z < 2147483648) (hbad : z < 0 ∨ (σ.1 0 : Int) ≤ z) : vx_Met l yX0_borneIn wsX0_borneIn ({ frames := 7, cells := 1, slots := 6, locals := 111 } : Room) (va_Pc [.ref x, .int (iI z), .int (iI w)] (pT G x a σ sz)) (QiT sz) (XT zIOE sz) 1 6 (nA sz) := by
  refine vx_ofW (cc := cX0_borneIn) (maxL := 5) (ret := (some .int)) (by decide) rfl ?_
  intro pp ee s m args below meth c s₁ B9 hml ht hv
  obtain ⟨rfl, hsz, hP, hK, hE⟩ := hv
  subst hsz
  have hx := B9.exec
  have hb := B9.bytes
  have hr := B9.returns
  have hts := atoms_spec (ws := wsX0_borneIn) B9.pre
  have hown : s.vm.findClass RX0 = some m.cls := findClass_of_methodNamed B9.named
  have hlocks := B9.notSynchronized
  have hin0 : ∀ w ∈ wsX00, w ∈ wsX0_borneIn := by decide +kernel
  have hl := lv_entry ([.ref x, .int (iI z), .int (iI w)]) (n := 5) (Nat.le_of_ble_eq_true rfl)
  rw [lg_entry_eq]
  generalize (lg_sl ([.ref x, .int (iI z), .int (iI w)]) ++ List.replicate (5 - (lg_sl ([.ref x, .int (iI z), .int (iI w)])).length) Slot.unset).toArray = ls at hl ⊢
  have hl : lv_has ls 5 [(0, .ref x), (1, .int (iI z)), (2, .int (iI w))] := hl
  have hIn := hI.n
  have hIb := hI.b
  refine lv_aload_n hx hb dX0_borneIn_0 rfl (lv_at hl 0 rfl) ?_
  refine lv_iload_n hx hb dX0_borneIn_1 rfl (lv_at hl 1 rfl) ?_
  exact zt_pass (vx_runV (As := [.int (iI z)]) (rest := []) ⟨hx, hb, hml, hown, hts⟩ (t_X0_requirePerson l hfl G x a s.heap.size B σ z hI (by omega) (by omega)) (cwV 1 hts gX0_borneIn_X0_requirePerson rfl rfl rfl (by decide +kernel) ⟨Nat.le_of_ble_eq_true rfl, Nat.le_of_ble_eq_true rfl⟩) (preTX hK hP hE) rfl rfl hl.1 rfl (lv_room (Nat.le_of_ble_eq_true rfl)) dX0_borneIn_2 ⟨Nat.le_of_ble_eq_true rfl, Nat.le_of_ble_eq_true rfl⟩) ht hlocks
set_option maxHeartbeats 4000000 in
set_option maxRecDepth 100000 in
theorem t2_X0_borneIn (l : Launch) (hfl : l.stackTraces = false) (G : zG) (x : Nat) (a : Nat → Nat) (sz : Nat) (B : Nat) (σ : zS) (p : Nat) (z : Int) (hI : zI B σ) (hp : p < σ.1 0) (hzb : -2147483648 ≤ z ∧ z < 2147483648) (hbad : z < 1 ∨ 60 < z) : vx_Met l yX0_borneIn wsX0_borneIn ({ frames := 7, cells := 1, slots := 6, locals := 110 } : Room) (va_Pc [.ref x, .int (iI (p : Int)), .int (iI z)] (pT G x a σ sz)) (QiT sz) (XT zIAE sz) 1 6 (nA sz) := by
  refine vx_ofW (cc := cX0_borneIn) (maxL := 5) (ret := (some .int)) (by decide) rfl ?_
  intro pp ee s m args below meth c s₁ B9 hml ht hv
  obtain ⟨rfl, hsz, hP, hK, hE⟩ := hv
  subst hsz
  have hx := B9.exec
  have hb := B9.bytes
  have hr := B9.returns
  have hts := atoms_spec (ws := wsX0_borneIn) B9.pre
  have hown : s.vm.findClass RX0 = some m.cls := findClass_of_methodNamed B9.named
  have hlocks := B9.notSynchronized
  have hin0 : ∀ w ∈ wsX00, w ∈ wsX0_borneIn := by decide +kernel
  have hl := lv_entry ([.ref x, .int (iI (p : Int)), .int (iI z)]) (n := 5) (Nat.le_of_ble_eq_true rfl)
  rw [lg_entry_eq]
  generalize (lg_sl ([.ref x, .int (iI (p : Int)), .int (iI z)]) ++ List.replicate (5 - (lg_sl ([.ref x, .int (iI (p : Int)), .int (iI z)])).length) Slot.unset).toArray = ls at hl ⊢
  have hl : lv_has ls 5 [(0, .ref x), (1, .int (iI (p : Int))), (2, .int (iI z))] := hl
  have hIn := hI.n
  have hIb := hI.b
  refine lv_aload_n hx hb dX0_borneIn_0 rfl (lv_at hl 0 rfl) ?_
  refine lv_iload_n hx hb dX0_borneIn_1 rfl (lv_at hl 1 rfl) ?_
  refine zc_v (va_runV (As := [.int (iI (p : Int))]) (rest := []) ⟨hx, hb, hml, hown, hts⟩ (c_X0_requirePerson l G x a σ p (by omega) (by omega)) (cwV 1 hts gX0_borneIn_X0_requirePerson rfl rfl rfl (by decide +kernel) ⟨Nat.le_of_ble_eq_true rfl, Nat.le_of_ble_eq_true rfl⟩) (preVX hK hP) rfl rfl hl.1 rfl (lv_room (Nat.le_of_ble_eq_true rfl)) dX0_borneIn_2 ⟨Nat.le_of_ble_eq_true rfl, Nat.le_of_ble_eq_true rfl⟩) ?_
  refine lv_iload_n hx hb dX0_borneIn_5 rfl (lv_at hl 2 rfl) ?_
  exact zt_pass (vx_runS (As := [.int (iI z)]) (rest := []) ⟨hx, hb, hml, hown, hts⟩ (t_X0_requireDays l hfl s.heap.size z (by omega) (by omega)) (va_cwS 1 hts gX0_borneIn_X0_requireDays rfl rfl rfl (by decide +kernel) ⟨Nat.le_of_ble_eq_true rfl, Nat.le_of_ble_eq_true rfl⟩) (preTS hE) rfl rfl hl.1 rfl (lv_room (Nat.le_of_ble_eq_true rfl)) dX0_borneIn_6 ⟨Nat.le_of_ble_eq_true rfl, Nat.le_of_ble_eq_true rfl⟩) ht hlocks
