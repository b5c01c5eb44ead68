/-! READS of ApologyLedger with what they may be asked: nothing changes, nothing is made. -/
set_option maxHeartbeats 4000000 in
set_option maxRecDepth 100000 in
theorem c_X0_requirePride (l : Launch)  (z : Int) (hz : 0 ≤ z ∧ z ≤ 9) : Met l yX0_requirePride wsX0_requirePride ({ frames := 0, cells := 0, slots := 0, locals := 0 } : Room) (va_Pc [.int (iI z)] (fun _ => True)) (va_Sv (fun _ => True)) 0 0 (fun _ => False) := by
  refine Met.ofW (cc := cX0_requirePride) (maxL := 1) (ret := none) (by decide) rfl ?_
  intro pp ee s m args below meth c s₁ B9 hml hv
  obtain ⟨rfl, -⟩ := hv
  have hx := B9.exec
  have hb := B9.bytes
  have hr := B9.returns
  have hts := atoms_spec (ws := wsX0_requirePride) B9.pre
  have hown : s.vm.findClass RX0 = some m.cls := findClass_of_methodNamed B9.named
  have hlocks := B9.notSynchronized
  have hl := lv_entry ([.int (iI z)]) (n := 1) (Nat.le_of_ble_eq_true rfl)
  rw [lg_entry_eq]
  generalize (lg_sl ([.int (iI z)]) ++ List.replicate (1 - (lg_sl ([.int (iI z)])).length) Slot.unset).toArray = ls at hl ⊢
  have hl : lv_has ls 1 [(0, .int (iI z))] := hl
  refine lv_iload_n hx hb dX0_requirePride_0 rfl (lv_at hl 0 rfl) ?_
  refine z_if_lt (tgt := 10) hx hb dX0_requirePride_1 (by decide) (by omega) (fun c_1 => ?_) (fun c_1 => ?_)
  ·
    exfalso
    omega
  ·
    refine lv_iload_n hx hb dX0_requirePride_4 rfl (lv_at hl 0 rfl) ?_
    refine lv_bipush (v := iI 9) hx hb dX0_requirePride_5 (by decide) ?_
    refine z_icmp_le (tgt := 20) hx hb dX0_requirePride_7 (by decide) (by omega) (by omega) (fun c_2 => ?_) (fun c_2 => ?_)
    ·
      exact W.vret hx hb hr (fun t ht _ => ⟨rfl, trivial, ht⟩) (fun q hq => absurd hq List.not_mem_nil) dX0_requirePride_20
    ·
      exfalso
      omega
set_option maxHeartbeats 4000000 in
set_option maxRecDepth 100000 in
theorem c_X0_requireWords (l : Launch)  (z : Int) (hz : 1 ≤ z ∧ z ≤ 20) : Met l yX0_requireWords wsX0_requireWords ({ frames := 0, cells := 0, slots := 0, locals := 0 } : Room) (va_Pc [.int (iI z)] (fun _ => True)) (va_Sv (fun _ => True)) 0 0 (fun _ => False) := by
  refine Met.ofW (cc := cX0_requireWords) (maxL := 1) (ret := none) (by decide) rfl ?_
  intro pp ee s m args below meth c s₁ B9 hml hv
  obtain ⟨rfl, -⟩ := hv
  have hx := B9.exec
  have hb := B9.bytes
  have hr := B9.returns
  have hts := atoms_spec (ws := wsX0_requireWords) B9.pre
  have hown : s.vm.findClass RX0 = some m.cls := findClass_of_methodNamed B9.named
  have hlocks := B9.notSynchronized
  have hl := lv_entry ([.int (iI z)]) (n := 1) (Nat.le_of_ble_eq_true rfl)
  rw [lg_entry_eq]
  generalize (lg_sl ([.int (iI z)]) ++ List.replicate (1 - (lg_sl ([.int (iI z)])).length) Slot.unset).toArray = ls at hl ⊢
  have hl : lv_has ls 1 [(0, .int (iI z))] := hl
  refine lv_iload_n hx hb dX0_requireWords_0 rfl (lv_at hl 0 rfl) ?_
  refine lv_iconst (v := iI 1) hx hb dX0_requireWords_1 rfl ?_
  refine z_icmp_lt (tgt := 11) hx hb dX0_requireWords_2 (by decide) (by omega) (by omega) (fun c_1 => ?_) (fun c_1 => ?_)
  ·
    exfalso
    omega
  ·
    refine lv_iload_n hx hb dX0_requireWords_5 rfl (lv_at hl 0 rfl) ?_
    refine lv_bipush (v := iI 20) hx hb dX0_requireWords_6 (by decide) ?_
    refine z_icmp_le (tgt := 21) hx hb dX0_requireWords_8 (by decide) (by omega) (by omega) (fun c_2 => ?_) (fun c_2 => ?_)
    ·
      exact W.vret hx hb hr (fun t ht _ => ⟨rfl, trivial, ht⟩) (fun q hq => absurd hq List.not_mem_nil) dX0_requireWords_21
    ·
      exfalso
      omega
set_option maxHeartbeats 4000000 in
set_option maxRecDepth 100000 in
theorem c_X0_requireDays (l : Launch)  (z : Int) (hz : 1 ≤ z ∧ z ≤ 60) : Met l yX0_requireDays wsX0_requireDays ({ frames := 0, cells := 0, slots := 0, locals := 0 } : Room) (va_Pc [.int (iI z)] (fun _ => True)) (va_Sv (fun _ => True)) 0 0 (fun _ => False) := by
  refine Met.ofW (cc := cX0_requireDays) (maxL := 1) (ret := none) (by decide) rfl ?_
  intro pp ee s m args below meth c s₁ B9 hml hv
  obtain ⟨rfl, -⟩ := hv
  have hx := B9.exec
  have hb := B9.bytes
  have hr := B9.returns
  have hts := atoms_spec (ws := wsX0_requireDays) B9.pre
  have hown : s.vm.findClass RX0 = some m.cls := findClass_of_methodNamed B9.named
  have hlocks := B9.notSynchronized
  have hl := lv_entry ([.int (iI z)]) (n := 1) (Nat.le_of_ble_eq_true rfl)
  rw [lg_entry_eq]
  generalize (lg_sl ([.int (iI z)]) ++ List.replicate (1 - (lg_sl ([.int (iI z)])).length) Slot.unset).toArray = ls at hl ⊢
  have hl : lv_has ls 1 [(0, .int (iI z))] := hl
  refine lv_iload_n hx hb dX0_requireDays_0 rfl (lv_at hl 0 rfl) ?_
  refine lv_iconst (v := iI 1) hx hb dX0_requireDays_1 rfl ?_
  refine z_icmp_lt (tgt := 11) hx hb dX0_requireDays_2 (by decide) (by omega) (by omega) (fun c_1 => ?_) (fun c_1 => ?_)
  ·
    exfalso
    omega
  ·
    refine lv_iload_n hx hb dX0_requireDays_5 rfl (lv_at hl 0 rfl) ?_
    refine lv_bipush (v := iI 60) hx hb dX0_requireDays_6 (by decide) ?_
    refine z_icmp_le (tgt := 21) hx hb dX0_requireDays_8 (by decide) (by omega) (by omega) (fun c_2 => ?_) (fun c_2 => ?_)
    ·
      exact W.vret hx hb hr (fun t ht _ => ⟨rfl, trivial, ht⟩) (fun q hq => absurd hq List.not_mem_nil) dX0_requireDays_21
    ·
      exfalso
      omega
set_option maxHeartbeats 4000000 in
set_option maxRecDepth 100000 in
theorem c_X0_requirePerson (l : Launch) (G : zG) (x : Nat) (a : Nat → Nat) (σ : zS) (p : Nat) (hn : σ.1 0 ≤ 6) (hp : p < σ.1 0) : Met l yX0_requirePerson wsX0_requirePerson ({ frames := 0, cells := 0, slots := 0, locals := 0 } : Room) (va_Pc [.ref x, .int (iI (p : Int))] (pX G x a σ)) (va_Sv (fun _ => True)) 0 0 (fun _ => False) := by
  refine Met.ofW (cc := cX0_requirePerson) (maxL := 2) (ret := none) (by decide) rfl ?_
  intro pp ee s m args below meth c s₁ B9 hml hv
  obtain ⟨rfl, hP, hK⟩ := hv
  have hx := B9.exec
  have hb := B9.bytes
  have hr := B9.returns
  have hts := atoms_spec (ws := wsX0_requirePerson) B9.pre
  have hown : s.vm.findClass RX0 = some m.cls := findClass_of_methodNamed B9.named
  have hlocks := B9.notSynchronized
  have hin0 : ∀ w ∈ wsX00, w ∈ wsX0_requirePerson := by decide +kernel
  have w_0 := hts (.fieldLink RX0 39 "ApologyLedger" "personCount" "I") (by decide +kernel)
  have hl := lv_entry ([.ref x, .int (iI (p : Int))]) (n := 2) (Nat.le_of_ble_eq_true rfl)
  rw [lg_entry_eq]
  generalize (lg_sl ([.ref x, .int (iI (p : Int))]) ++ List.replicate (2 - (lg_sl ([.ref x, .int (iI (p : Int))])).length) Slot.unset).toArray = ls at hl ⊢
  have hl : lv_has ls 2 [(0, .ref x), (1, .int (iI (p : Int)))] := hl
  refine lv_iload_n hx hb dX0_requirePerson_0 rfl (lv_at hl 1 rfl) ?_
  refine z_if_lt (tgt := 12) hx hb dX0_requirePerson_1 (by decide) (by omega) (fun c_1 => ?_) (fun c_1 => ?_)
  ·
    exfalso
    omega
  ·
    refine lv_iload_n hx hb dX0_requirePerson_4 rfl (lv_at hl 1 rfl) ?_
    refine lv_aload_n hx hb dX0_requirePerson_5 rfl (lv_at hl 0 rfl) ?_
    refine x_get (v := .int (iI (σ.1 0 : Nat))) hx hb hts hin0 hown hK hP 0 rfl 2 (by decide) w_0 rfl dX0_requirePerson_6 ?_
    refine z_icmp_lt (tgt := 22) hx hb dX0_requirePerson_9 (by decide) (by omega) (by omega) (fun c_2 => ?_) (fun c_2 => ?_)
    ·
      exact W.vret hx hb hr (fun t ht _ => ⟨rfl, trivial, ht⟩) (fun q hq => absurd hq List.not_mem_nil) dX0_requirePerson_22
    ·
      exfalso
      omega
set_option maxHeartbeats 4000000 in
set_option maxRecDepth 100000 in
theorem c_X0_requireSlight (l : Launch) (G : zG) (x : Nat) (a : Nat → Nat) (σ : zS) (k : Nat) (hn : σ.1 1 ≤ 20) (hk : k < σ.1 1) : Met l yX0_requireSlight wsX0_requireSlight ({ frames := 0, cells := 0, slots := 0, locals := 0 } : Room) (va_Pc [.ref x, .int (iI (k : Int))] (pX G x a σ)) (va_Sv (fun _ => True)) 0 0 (fun _ => False) := by
  refine Met.ofW (cc := cX0_requireSlight) (maxL := 2) (ret := none) (by decide) rfl ?_
  intro pp ee s m args below meth c s₁ B9 hml hv
  obtain ⟨rfl, hP, hK⟩ := hv
  have hx := B9.exec
  have hb := B9.bytes
  have hr := B9.returns
  have hts := atoms_spec (ws := wsX0_requireSlight) B9.pre
  have hown : s.vm.findClass RX0 = some m.cls := findClass_of_methodNamed B9.named
  have hlocks := B9.notSynchronized
  have hin0 : ∀ w ∈ wsX00, w ∈ wsX0_requireSlight := by decide +kernel
  have w_0 := hts (.fieldLink RX0 60 "ApologyLedger" "slightCount" "I") (by decide +kernel)
  have hl := lv_entry ([.ref x, .int (iI (k : Int))]) (n := 2) (Nat.le_of_ble_eq_true rfl)
  rw [lg_entry_eq]
  generalize (lg_sl ([.ref x, .int (iI (k : Int))]) ++ List.replicate (2 - (lg_sl ([.ref x, .int (iI (k : Int))])).length) Slot.unset).toArray = ls at hl ⊢
  have hl : lv_has ls 2 [(0, .ref x), (1, .int (iI (k : Int)))] := hl
  refine lv_iload_n hx hb dX0_requireSlight_0 rfl (lv_at hl 1 rfl) ?_
  refine z_if_lt (tgt := 12) hx hb dX0_requireSlight_1 (by decide) (by omega) (fun c_1 => ?_) (fun c_1 => ?_)
  ·
    exfalso
    omega
  ·
    refine lv_iload_n hx hb dX0_requireSlight_4 rfl (lv_at hl 1 rfl) ?_
    refine lv_aload_n hx hb dX0_requireSlight_5 rfl (lv_at hl 0 rfl) ?_
    refine x_get (v := .int (iI (σ.1 1 : Nat))) hx hb hts hin0 hown hK hP 0 rfl 9 (by decide) w_0 rfl dX0_requireSlight_6 ?_
    refine z_icmp_lt (tgt := 22) hx hb dX0_requireSlight_9 (by decide) (by omega) (by omega) (fun c_2 => ?_) (fun c_2 => ?_)
    ·
      exact W.vret hx hb hr (fun t ht _ => ⟨rfl, trivial, ht⟩) (fun q hq => absurd hq List.not_mem_nil) dX0_requireSlight_22
    ·
      exfalso
      omega
set_option maxHeartbeats 4000000 in
set_option maxRecDepth 100000 in
theorem c_X0_offenderOf (l : Launch) (G : zG) (x : Nat) (a : Nat → Nat) (B : Nat) (σ : zS) (k : Nat) (hI : zI B σ) (hk : k < σ.1 1) : Met l yX0_offenderOf wsX0_offenderOf ({ frames := 1, cells := 0, slots := 0, locals := 21 } : Room) (va_Pc [.ref x, .int (iI (k : Int))] (pX G x a σ)) (vp_Si (fun r => r = iI (σ.2 2 k))) 0 0 (fun _ => False) := by
  refine Met.ofW (cc := cX0_offenderOf) (maxL := 2) (ret := (some .int)) (by decide) rfl ?_
  intro pp ee s m args below meth c s₁ B9 hml hv
  obtain ⟨rfl, hP, hK⟩ := hv
  have hx := B9.exec
  have hb := B9.bytes
  have hr := B9.returns
  have hts := atoms_spec (ws := wsX0_offenderOf) B9.pre
  have hown : s.vm.findClass RX0 = some m.cls := findClass_of_methodNamed B9.named
  have hlocks := B9.notSynchronized
  have hin0 : ∀ w ∈ wsX00, w ∈ wsX0_offenderOf := by decide +kernel
  have w_0 := hts (.fieldLink RX0 17 "ApologyLedger" "offenders" "[I") (by decide +kernel)
  have hl := lv_entry ([.ref x, .int (iI (k : Int))]) (n := 2) (Nat.le_of_ble_eq_true rfl)
  rw [lg_entry_eq]
  generalize (lg_sl ([.ref x, .int (iI (k : Int))]) ++ List.replicate (2 - (lg_sl ([.ref x, .int (iI (k : Int))])).length) Slot.unset).toArray = ls at hl ⊢
  have hl : lv_has ls 2 [(0, .ref x), (1, .int (iI (k : Int)))] := hl
  have hIn := hI.n
  have hIb := hI.b
  refine lv_aload_n hx hb dX0_offenderOf_0 rfl (lv_at hl 0 rfl) ?_
  refine lv_iload_n hx hb dX0_offenderOf_1 rfl (lv_at hl 1 rfl) ?_
  refine zc_v (va_runV (As := [.int (iI (k : Int))]) (rest := []) ⟨hx, hb, hml, hown, hts⟩ (c_X0_requireSlight l G x a σ k (by omega) (by omega)) (cwV 1 hts gX0_offenderOf_X0_requireSlight rfl rfl rfl (by decide +kernel) ⟨Nat.le_of_ble_eq_true rfl, Nat.le_of_ble_eq_true rfl⟩) (preVX hK hP) rfl rfl hl.1 rfl (lv_room (Nat.le_of_ble_eq_true rfl)) dX0_offenderOf_2 ⟨Nat.le_of_ble_eq_true rfl, Nat.le_of_ble_eq_true rfl⟩) ?_
  refine lv_aload_n hx hb dX0_offenderOf_5 rfl (lv_at hl 0 rfl) ?_
  refine x_get (v := .ref (a 2)) hx hb hts hin0 hown hK hP 0 rfl 3 (by decide) w_0 rfl dX0_offenderOf_6 ?_
  refine lv_iload_n hx hb dX0_offenderOf_9 rfl (lv_at hl 1 rfl) ?_
  refine z_iald (v := iI (σ.2 2 k)) hx hb hK hP 3 0 rfl rfl (k := k) (by omega) (by decide) rfl dX0_offenderOf_10 ?_
  have f_1 := hI.r2 (k := k) (by omega)
  refine z_re (v' := iI (σ.2 2 k)) (congrArg iI (by rfl)) ?_
  exact W.iret hx hb hr (fun t ht _ => ⟨_, rfl, rfl, ht⟩) (fun q hq => absurd hq List.not_mem_nil) dX0_offenderOf_11
set_option maxHeartbeats 4000000 in
set_option maxRecDepth 100000 in
theorem c_X0_offendedOf (l : Launch) (G : zG) (x : Nat) (a : Nat → Nat) (B : Nat) (σ : zS) (k : Nat) (hI : zI B σ) (hk : k < σ.1 1) : Met l yX0_offendedOf wsX0_offendedOf ({ frames := 1, cells := 0, slots := 0, locals := 21 } : Room) (va_Pc [.ref x, .int (iI (k : Int))] (pX G x a σ)) (vp_Si (fun r => r = iI (σ.2 3 k))) 0 0 (fun _ => False) := by
  refine Met.ofW (cc := cX0_offendedOf) (maxL := 2) (ret := (some .int)) (by decide) rfl ?_
  intro pp ee s m args below meth c s₁ B9 hml hv
  obtain ⟨rfl, hP, hK⟩ := hv
  have hx := B9.exec
  have hb := B9.bytes
  have hr := B9.returns
  have hts := atoms_spec (ws := wsX0_offendedOf) B9.pre
  have hown : s.vm.findClass RX0 = some m.cls := findClass_of_methodNamed B9.named
  have hlocks := B9.notSynchronized
  have hin0 : ∀ w ∈ wsX00, w ∈ wsX0_offendedOf := by decide +kernel
  have w_0 := hts (.fieldLink RX0 20 "ApologyLedger" "offendedOnes" "[I") (by decide +kernel)
  have hl := lv_entry ([.ref x, .int (iI (k : Int))]) (n := 2) (Nat.le_of_ble_eq_true rfl)
  rw [lg_entry_eq]
  generalize (lg_sl ([.ref x, .int (iI (k : Int))]) ++ List.replicate (2 - (lg_sl ([.ref x, .int (iI (k : Int))])).length) Slot.unset).toArray = ls at hl ⊢
  have hl : lv_has ls 2 [(0, .ref x), (1, .int (iI (k : Int)))] := hl
  have hIn := hI.n
  have hIb := hI.b
  refine lv_aload_n hx hb dX0_offendedOf_0 rfl (lv_at hl 0 rfl) ?_
  refine lv_iload_n hx hb dX0_offendedOf_1 rfl (lv_at hl 1 rfl) ?_
  refine zc_v (va_runV (As := [.int (iI (k : Int))]) (rest := []) ⟨hx, hb, hml, hown, hts⟩ (c_X0_requireSlight l G x a σ k (by omega) (by omega)) (cwV 1 hts gX0_offendedOf_X0_requireSlight rfl rfl rfl (by decide +kernel) ⟨Nat.le_of_ble_eq_true rfl, Nat.le_of_ble_eq_true rfl⟩) (preVX hK hP) rfl rfl hl.1 rfl (lv_room (Nat.le_of_ble_eq_true rfl)) dX0_offendedOf_2 ⟨Nat.le_of_ble_eq_true rfl, Nat.le_of_ble_eq_true rfl⟩) ?_
  refine lv_aload_n hx hb dX0_offendedOf_5 rfl (lv_at hl 0 rfl) ?_
  refine x_get (v := .ref (a 3)) hx hb hts hin0 hown hK hP 0 rfl 4 (by decide) w_0 rfl dX0_offendedOf_6 ?_
  refine lv_iload_n hx hb dX0_offendedOf_9 rfl (lv_at hl 1 rfl) ?_
  refine z_iald (v := iI (σ.2 3 k)) hx hb hK hP 4 0 rfl rfl (k := k) (by omega) (by decide) rfl dX0_offendedOf_10 ?_
  have f_1 := hI.r3 (k := k) (by omega)
  refine z_re (v' := iI (σ.2 3 k)) (congrArg iI (by rfl)) ?_
  exact W.iret hx hb hr (fun t ht _ => ⟨_, rfl, rfl, ht⟩) (fun q hq => absurd hq List.not_mem_nil) dX0_offendedOf_11
set_option maxHeartbeats 4000000 in
set_option maxRecDepth 100000 in
theorem c_X0_weightOf (l : Launch) (G : zG) (x : Nat) (a : Nat → Nat) (B : Nat) (σ : zS) (k : Nat) (hI : zI B σ) (hk : k < σ.1 1) : Met l yX0_weightOf wsX0_weightOf ({ frames := 1, cells := 0, slots := 0, locals := 21 } : Room) (va_Pc [.ref x, .int (iI (k : Int))] (pX G x a σ)) (vp_Si (fun r => r = iI (σ.2 4 k))) 0 0 (fun _ => False) := by
  refine Met.ofW (cc := cX0_weightOf) (maxL := 2) (ret := (some .int)) (by decide) rfl ?_
  intro pp ee s m args below meth c s₁ B9 hml hv
  obtain ⟨rfl, hP, hK⟩ := hv
  have hx := B9.exec
  have hb := B9.bytes
  have hr := B9.returns
  have hts := atoms_spec (ws := wsX0_weightOf) B9.pre
  have hown : s.vm.findClass RX0 = some m.cls := findClass_of_methodNamed B9.named
  have hlocks := B9.notSynchronized
  have hin0 : ∀ w ∈ wsX00, w ∈ wsX0_weightOf := by decide +kernel
  have w_0 := hts (.fieldLink RX0 23 "ApologyLedger" "weights" "[I") (by decide +kernel)
  have hl := lv_entry ([.ref x, .int (iI (k : Int))]) (n := 2) (Nat.le_of_ble_eq_true rfl)
  rw [lg_entry_eq]
  generalize (lg_sl ([.ref x, .int (iI (k : Int))]) ++ List.replicate (2 - (lg_sl ([.ref x, .int (iI (k : Int))])).length) Slot.unset).toArray = ls at hl ⊢
  have hl : lv_has ls 2 [(0, .ref x), (1, .int (iI (k : Int)))] := hl
  have hIn := hI.n
  have hIb := hI.b
  refine lv_aload_n hx hb dX0_weightOf_0 rfl (lv_at hl 0 rfl) ?_
  refine lv_iload_n hx hb dX0_weightOf_1 rfl (lv_at hl 1 rfl) ?_
  refine zc_v (va_runV (As := [.int (iI (k : Int))]) (rest := []) ⟨hx, hb, hml, hown, hts⟩ (c_X0_requireSlight l G x a σ k (by omega) (by omega)) (cwV 1 hts gX0_weightOf_X0_requireSlight rfl rfl rfl (by decide +kernel) ⟨Nat.le_of_ble_eq_true rfl, Nat.le_of_ble_eq_true rfl⟩) (preVX hK hP) rfl rfl hl.1 rfl (lv_room (Nat.le_of_ble_eq_true rfl)) dX0_weightOf_2 ⟨Nat.le_of_ble_eq_true rfl, Nat.le_of_ble_eq_true rfl⟩) ?_
  refine lv_aload_n hx hb dX0_weightOf_5 rfl (lv_at hl 0 rfl) ?_
  refine x_get (v := .ref (a 4)) hx hb hts hin0 hown hK hP 0 rfl 5 (by decide) w_0 rfl dX0_weightOf_6 ?_
  refine lv_iload_n hx hb dX0_weightOf_9 rfl (lv_at hl 1 rfl) ?_
  refine z_iald (v := iI (σ.2 4 k)) hx hb hK hP 5 0 rfl rfl (k := k) (by omega) (by decide) rfl dX0_weightOf_10 ?_
  have f_1 := hI.r4 k
  refine z_re (v' := iI (σ.2 4 k)) (congrArg iI (by rfl)) ?_
  exact W.iret hx hb hr (fun t ht _ => ⟨_, rfl, rfl, ht⟩) (fun q hq => absurd hq List.not_mem_nil) dX0_weightOf_11
set_option maxHeartbeats 4000000 in
set_option maxRecDepth 100000 in
theorem c_X0_stateOf (l : Launch) (G : zG) (x : Nat) (a : Nat → Nat) (B : Nat) (σ : zS) (k : Nat) (hI : zI B σ) (hk : k < σ.1 1) : Met l yX0_stateOf wsX0_stateOf ({ frames := 1, cells := 0, slots := 0, locals := 21 } : Room) (va_Pc [.ref x, .int (iI (k : Int))] (pX G x a σ)) (vp_Si (fun r => r = iI (σ.2 5 k))) 0 0 (fun _ => False) := by
  refine Met.ofW (cc := cX0_stateOf) (maxL := 2) (ret := (some .int)) (by decide) rfl ?_
  intro pp ee s m args below meth c s₁ B9 hml hv
  obtain ⟨rfl, hP, hK⟩ := hv
  have hx := B9.exec
  have hb := B9.bytes
  have hr := B9.returns
  have hts := atoms_spec (ws := wsX0_stateOf) B9.pre
  have hown : s.vm.findClass RX0 = some m.cls := findClass_of_methodNamed B9.named
  have hlocks := B9.notSynchronized
  have hin0 : ∀ w ∈ wsX00, w ∈ wsX0_stateOf := by decide +kernel
  have w_0 := hts (.fieldLink RX0 26 "ApologyLedger" "states" "[I") (by decide +kernel)
  have hl := lv_entry ([.ref x, .int (iI (k : Int))]) (n := 2) (Nat.le_of_ble_eq_true rfl)
  rw [lg_entry_eq]
  generalize (lg_sl ([.ref x, .int (iI (k : Int))]) ++ List.replicate (2 - (lg_sl ([.ref x, .int (iI (k : Int))])).length) Slot.unset).toArray = ls at hl ⊢
  have hl : lv_has ls 2 [(0, .ref x), (1, .int (iI (k : Int)))] := hl
  have hIn := hI.n
  have hIb := hI.b
  refine lv_aload_n hx hb dX0_stateOf_0 rfl (lv_at hl 0 rfl) ?_
  refine lv_iload_n hx hb dX0_stateOf_1 rfl (lv_at hl 1 rfl) ?_
  refine zc_v (va_runV (As := [.int (iI (k : Int))]) (rest := []) ⟨hx, hb, hml, hown, hts⟩ (c_X0_requireSlight l G x a σ k (by omega) (by omega)) (cwV 1 hts gX0_stateOf_X0_requireSlight rfl rfl rfl (by decide +kernel) ⟨Nat.le_of_ble_eq_true rfl, Nat.le_of_ble_eq_true rfl⟩) (preVX hK hP) rfl rfl hl.1 rfl (lv_room (Nat.le_of_ble_eq_true rfl)) dX0_stateOf_2 ⟨Nat.le_of_ble_eq_true rfl, Nat.le_of_ble_eq_true rfl⟩) ?_
  refine lv_aload_n hx hb dX0_stateOf_5 rfl (lv_at hl 0 rfl) ?_
  refine x_get (v := .ref (a 5)) hx hb hts hin0 hown hK hP 0 rfl 6 (by decide) w_0 rfl dX0_stateOf_6 ?_
  refine lv_iload_n hx hb dX0_stateOf_9 rfl (lv_at hl 1 rfl) ?_
  refine z_iald (v := iI (σ.2 5 k)) hx hb hK hP 6 0 rfl rfl (k := k) (by omega) (by decide) rfl dX0_stateOf_10 ?_
  have f_1 := hI.r5 k
  refine z_re (v' := iI (σ.2 5 k)) (congrArg iI (by rfl)) ?_
  exact W.iret hx hb hr (fun t ht _ => ⟨_, rfl, rfl, ht⟩) (fun q hq => absurd hq List.not_mem_nil) dX0_stateOf_11
set_option maxHeartbeats 4000000 in
set_option maxRecDepth 100000 in
theorem c_X0_borneFor (l : Launch) (G : zG) (x : Nat) (a : Nat → Nat) (B : Nat) (σ : zS) (k : Nat) (hI : zI B σ) (hk : k < σ.1 1) : Met l yX0_borneFor wsX0_borneFor ({ frames := 1, cells := 0, slots := 0, locals := 21 } : Room) (va_Pc [.ref x, .int (iI (k : Int))] (pX G x a σ)) (vp_Si (fun r => r = iI (σ.2 6 k))) 0 0 (fun _ => False) := by
  refine Met.ofW (cc := cX0_borneFor) (maxL := 2) (ret := (some .int)) (by decide) rfl ?_
  intro pp ee s m args below meth c s₁ B9 hml hv
  obtain ⟨rfl, hP, hK⟩ := hv
  have hx := B9.exec
  have hb := B9.bytes
  have hr := B9.returns
  have hts := atoms_spec (ws := wsX0_borneFor) B9.pre
  have hown : s.vm.findClass RX0 = some m.cls := findClass_of_methodNamed B9.named
  have hlocks := B9.notSynchronized
  have hin0 : ∀ w ∈ wsX00, w ∈ wsX0_borneFor := by decide +kernel
  have w_0 := hts (.fieldLink RX0 29 "ApologyLedger" "daysBorne" "[I") (by decide +kernel)
  have hl := lv_entry ([.ref x, .int (iI (k : Int))]) (n := 2) (Nat.le_of_ble_eq_true rfl)
  rw [lg_entry_eq]
  generalize (lg_sl ([.ref x, .int (iI (k : Int))]) ++ List.replicate (2 - (lg_sl ([.ref x, .int (iI (k : Int))])).length) Slot.unset).toArray = ls at hl ⊢
  have hl : lv_has ls 2 [(0, .ref x), (1, .int (iI (k : Int)))] := hl
  have hIn := hI.n
  have hIb := hI.b
  refine lv_aload_n hx hb dX0_borneFor_0 rfl (lv_at hl 0 rfl) ?_
  refine lv_iload_n hx hb dX0_borneFor_1 rfl (lv_at hl 1 rfl) ?_
  refine zc_v (va_runV (As := [.int (iI (k : Int))]) (rest := []) ⟨hx, hb, hml, hown, hts⟩ (c_X0_requireSlight l G x a σ k (by omega) (by omega)) (cwV 1 hts gX0_borneFor_X0_requireSlight rfl rfl rfl (by decide +kernel) ⟨Nat.le_of_ble_eq_true rfl, Nat.le_of_ble_eq_true rfl⟩) (preVX hK hP) rfl rfl hl.1 rfl (lv_room (Nat.le_of_ble_eq_true rfl)) dX0_borneFor_2 ⟨Nat.le_of_ble_eq_true rfl, Nat.le_of_ble_eq_true rfl⟩) ?_
  refine lv_aload_n hx hb dX0_borneFor_5 rfl (lv_at hl 0 rfl) ?_
  refine x_get (v := .ref (a 6)) hx hb hts hin0 hown hK hP 0 rfl 7 (by decide) w_0 rfl dX0_borneFor_6 ?_
  refine lv_iload_n hx hb dX0_borneFor_9 rfl (lv_at hl 1 rfl) ?_
  refine z_iald (v := iI (σ.2 6 k)) hx hb hK hP 7 0 rfl rfl (k := k) (by omega) (by decide) rfl dX0_borneFor_10 ?_
  have f_1 := hI.r6 k
  refine z_re (v' := iI (σ.2 6 k)) (congrArg iI (by rfl)) ?_
  exact W.iret hx hb hr (fun t ht _ => ⟨_, rfl, rfl, ht⟩) (fun q hq => absurd hq List.not_mem_nil) dX0_borneFor_11
set_option maxHeartbeats 4000000 in
set_option maxRecDepth 100000 in
theorem c_X0_quietFor (l : Launch) (G : zG) (x : Nat) (a : Nat → Nat) (B : Nat) (σ : zS) (k : Nat) (hI : zI B σ) (hk : k < σ.1 1) : Met l yX0_quietFor wsX0_quietFor ({ frames := 1, cells := 0, slots := 0, locals := 21 } : Room) (va_Pc [.ref x, .int (iI (k : Int))] (pX G x a σ)) (vp_Si (fun r => r = iI (σ.2 7 k))) 0 0 (fun _ => False) := by
  refine Met.ofW (cc := cX0_quietFor) (maxL := 2) (ret := (some .int)) (by decide) rfl ?_
  intro pp ee s m args below meth c s₁ B9 hml hv
  obtain ⟨rfl, hP, hK⟩ := hv
  have hx := B9.exec
  have hb := B9.bytes
  have hr := B9.returns
  have hts := atoms_spec (ws := wsX0_quietFor) B9.pre
  have hown : s.vm.findClass RX0 = some m.cls := findClass_of_methodNamed B9.named
  have hlocks := B9.notSynchronized
  have hin0 : ∀ w ∈ wsX00, w ∈ wsX0_quietFor := by decide +kernel
  have w_0 := hts (.fieldLink RX0 32 "ApologyLedger" "daysQuiet" "[I") (by decide +kernel)
  have hl := lv_entry ([.ref x, .int (iI (k : Int))]) (n := 2) (Nat.le_of_ble_eq_true rfl)
  rw [lg_entry_eq]
  generalize (lg_sl ([.ref x, .int (iI (k : Int))]) ++ List.replicate (2 - (lg_sl ([.ref x, .int (iI (k : Int))])).length) Slot.unset).toArray = ls at hl ⊢
  have hl : lv_has ls 2 [(0, .ref x), (1, .int (iI (k : Int)))] := hl
  have hIn := hI.n
  have hIb := hI.b
  refine lv_aload_n hx hb dX0_quietFor_0 rfl (lv_at hl 0 rfl) ?_
  refine lv_iload_n hx hb dX0_quietFor_1 rfl (lv_at hl 1 rfl) ?_
  refine zc_v (va_runV (As := [.int (iI (k : Int))]) (rest := []) ⟨hx, hb, hml, hown, hts⟩ (c_X0_requireSlight l G x a σ k (by omega) (by omega)) (cwV 1 hts gX0_quietFor_X0_requireSlight rfl rfl rfl (by decide +kernel) ⟨Nat.le_of_ble_eq_true rfl, Nat.le_of_ble_eq_true rfl⟩) (preVX hK hP) rfl rfl hl.1 rfl (lv_room (Nat.le_of_ble_eq_true rfl)) dX0_quietFor_2 ⟨Nat.le_of_ble_eq_true rfl, Nat.le_of_ble_eq_true rfl⟩) ?_
  refine lv_aload_n hx hb dX0_quietFor_5 rfl (lv_at hl 0 rfl) ?_
  refine x_get (v := .ref (a 7)) hx hb hts hin0 hown hK hP 0 rfl 8 (by decide) w_0 rfl dX0_quietFor_6 ?_
  refine lv_iload_n hx hb dX0_quietFor_9 rfl (lv_at hl 1 rfl) ?_
  refine z_iald (v := iI (σ.2 7 k)) hx hb hK hP 8 0 rfl rfl (k := k) (by omega) (by decide) rfl dX0_quietFor_10 ?_
  have f_1 := hI.r7 k
  refine z_re (v' := iI (σ.2 7 k)) (congrArg iI (by rfl)) ?_
  exact W.iret hx hb hr (fun t ht _ => ⟨_, rfl, rfl, ht⟩) (fun q hq => absurd hq List.not_mem_nil) dX0_quietFor_11
set_option maxHeartbeats 4000000 in
set_option maxRecDepth 100000 in
theorem c_X0_isInHall (l : Launch) (G : zG) (x : Nat) (a : Nat → Nat) (B : Nat) (σ : zS) (p : Nat) (hI : zI B σ) (hp : p < σ.1 0) : Met l yX0_isInHall wsX0_isInHall ({ frames := 1, cells := 0, slots := 0, locals := 21 } : Room) (va_Pc [.ref x, .int (iI (p : Int))] (pX G x a σ)) (vp_Si (fun r => r = iI (σ.2 1 p))) 0 0 (fun _ => False) := by
  refine Met.ofW (cc := cX0_isInHall) (maxL := 2) (ret := (some .boolean)) (by decide) rfl ?_
  intro pp ee s m args below meth c s₁ B9 hml hv
  obtain ⟨rfl, hP, hK⟩ := hv
  have hx := B9.exec
  have hb := B9.bytes
  have hr := B9.returns
  have hts := atoms_spec (ws := wsX0_isInHall) B9.pre
  have hown : s.vm.findClass RX0 = some m.cls := findClass_of_methodNamed B9.named
  have hlocks := B9.notSynchronized
  have hin0 : ∀ w ∈ wsX00, w ∈ wsX0_isInHall := by decide +kernel
  have w_0 := hts (.fieldLink RX0 13 "ApologyLedger" "present" "[Z") (by decide +kernel)
  have hl := lv_entry ([.ref x, .int (iI (p : Int))]) (n := 2) (Nat.le_of_ble_eq_true rfl)
  rw [lg_entry_eq]
  generalize (lg_sl ([.ref x, .int (iI (p : Int))]) ++ List.replicate (2 - (lg_sl ([.ref x, .int (iI (p : Int))])).length) Slot.unset).toArray = ls at hl ⊢
  have hl : lv_has ls 2 [(0, .ref x), (1, .int (iI (p : Int)))] := hl
  have hIn := hI.n
  have hIb := hI.b
  refine lv_aload_n hx hb dX0_isInHall_0 rfl (lv_at hl 0 rfl) ?_
  refine lv_iload_n hx hb dX0_isInHall_1 rfl (lv_at hl 1 rfl) ?_
  refine zc_v (va_runV (As := [.int (iI (p : Int))]) (rest := []) ⟨hx, hb, hml, hown, hts⟩ (c_X0_requirePerson l G x a σ p (by omega) (by omega)) (cwV 1 hts gX0_isInHall_X0_requirePerson rfl rfl rfl (by decide +kernel) ⟨Nat.le_of_ble_eq_true rfl, Nat.le_of_ble_eq_true rfl⟩) (preVX hK hP) rfl rfl hl.1 rfl (lv_room (Nat.le_of_ble_eq_true rfl)) dX0_isInHall_2 ⟨Nat.le_of_ble_eq_true rfl, Nat.le_of_ble_eq_true rfl⟩) ?_
  refine lv_aload_n hx hb dX0_isInHall_5 rfl (lv_at hl 0 rfl) ?_
  refine x_get (v := .ref (a 1)) hx hb hts hin0 hown hK hP 0 rfl 1 (by decide) w_0 rfl dX0_isInHall_6 ?_
  refine lv_iload_n hx hb dX0_isInHall_9 rfl (lv_at hl 1 rfl) ?_
  refine z_zald (v := iI (σ.2 1 p)) hx hb hK hP 2 1 rfl rfl (k := p) (by omega) (by decide) rfl dX0_isInHall_10 ?_
  have f_1 := hI.r1 p
  refine z_re (v' := iI (σ.2 1 p)) (congrArg iI (by rfl)) ?_
  exact W.zret hx hb hr (z_nb (by omega)) (fun t ht _ => ⟨_, rfl, rfl, ht⟩) (fun q hq => absurd hq List.not_mem_nil) dX0_isInHall_11
set_option maxHeartbeats 4000000 in
set_option maxRecDepth 100000 in
theorem c_X0_prideOf (l : Launch) (G : zG) (x : Nat) (a : Nat → Nat) (B : Nat) (σ : zS) (p : Nat) (hI : zI B σ) (hp : p < σ.1 0) : Met l yX0_prideOf wsX0_prideOf ({ frames := 1, cells := 0, slots := 0, locals := 21 } : Room) (va_Pc [.ref x, .int (iI (p : Int))] (pX G x a σ)) (vp_Si (fun r => r = iI (σ.2 0 p))) 0 0 (fun _ => False) := by
  refine Met.ofW (cc := cX0_prideOf) (maxL := 2) (ret := (some .int)) (by decide) rfl ?_
  intro pp ee s m args below meth c s₁ B9 hml hv
  obtain ⟨rfl, hP, hK⟩ := hv
  have hx := B9.exec
  have hb := B9.bytes
  have hr := B9.returns
  have hts := atoms_spec (ws := wsX0_prideOf) B9.pre
  have hown : s.vm.findClass RX0 = some m.cls := findClass_of_methodNamed B9.named
  have hlocks := B9.notSynchronized
  have hin0 : ∀ w ∈ wsX00, w ∈ wsX0_prideOf := by decide +kernel
  have w_0 := hts (.fieldLink RX0 9 "ApologyLedger" "prides" "[I") (by decide +kernel)
  have hl := lv_entry ([.ref x, .int (iI (p : Int))]) (n := 2) (Nat.le_of_ble_eq_true rfl)
  rw [lg_entry_eq]
  generalize (lg_sl ([.ref x, .int (iI (p : Int))]) ++ List.replicate (2 - (lg_sl ([.ref x, .int (iI (p : Int))])).length) Slot.unset).toArray = ls at hl ⊢
  have hl : lv_has ls 2 [(0, .ref x), (1, .int (iI (p : Int)))] := hl
  have hIn := hI.n
  have hIb := hI.b
  refine lv_aload_n hx hb dX0_prideOf_0 rfl (lv_at hl 0 rfl) ?_
  refine lv_iload_n hx hb dX0_prideOf_1 rfl (lv_at hl 1 rfl) ?_
  refine zc_v (va_runV (As := [.int (iI (p : Int))]) (rest := []) ⟨hx, hb, hml, hown, hts⟩ (c_X0_requirePerson l G x a σ p (by omega) (by omega)) (cwV 1 hts gX0_prideOf_X0_requirePerson rfl rfl rfl (by decide +kernel) ⟨Nat.le_of_ble_eq_true rfl, Nat.le_of_ble_eq_true rfl⟩) (preVX hK hP) rfl rfl hl.1 rfl (lv_room (Nat.le_of_ble_eq_true rfl)) dX0_prideOf_2 ⟨Nat.le_of_ble_eq_true rfl, Nat.le_of_ble_eq_true rfl⟩) ?_
  refine lv_aload_n hx hb dX0_prideOf_5 rfl (lv_at hl 0 rfl) ?_
  refine x_get (v := .ref (a 0)) hx hb hts hin0 hown hK hP 0 rfl 0 (by decide) w_0 rfl dX0_prideOf_6 ?_
  refine lv_iload_n hx hb dX0_prideOf_9 rfl (lv_at hl 1 rfl) ?_
  refine z_iald (v := iI (σ.2 0 p)) hx hb hK hP 1 0 rfl rfl (k := p) (by omega) (by decide) rfl dX0_prideOf_10 ?_
  have f_1 := hI.r0 p
  refine z_re (v' := iI (σ.2 0 p)) (congrArg iI (by rfl)) ?_
  exact W.iret hx hb hr (fun t ht _ => ⟨_, rfl, rfl, ht⟩) (fun q hq => absurd hq List.not_mem_nil) dX0_prideOf_11
set_option maxHeartbeats 4000000 in
set_option maxRecDepth 100000 in
theorem c_X0_requireOpen (l : Launch) (G : zG) (x : Nat) (a : Nat → Nat) (B : Nat) (σ : zS) (k : Nat) (hI : zI B σ) (hk : k < σ.1 1) (ho : σ.2 5 k = 0) : Met l yX0_requireOpen wsX0_requireOpen ({ frames := 2, cells := 0, slots := 0, locals := 42 } : Room) (va_Pc [.ref x, .int (iI (k : Int))] (pX G x a σ)) (va_Sv (fun _ => True)) 0 0 (fun _ => False) := by
  refine Met.ofW (cc := cX0_requireOpen) (maxL := 2) (ret := none) (by decide) rfl ?_
  intro pp ee s m args below meth c s₁ B9 hml hv
  obtain ⟨rfl, hP, hK⟩ := hv
  have hx := B9.exec
  have hb := B9.bytes
  have hr := B9.returns
  have hts := atoms_spec (ws := wsX0_requireOpen) B9.pre
  have hown : s.vm.findClass RX0 = some m.cls := findClass_of_methodNamed B9.named
  have hlocks := B9.notSynchronized
  have hin0 : ∀ w ∈ wsX00, w ∈ wsX0_requireOpen := by decide +kernel
  have hl := lv_entry ([.ref x, .int (iI (k : Int))]) (n := 2) (Nat.le_of_ble_eq_true rfl)
  rw [lg_entry_eq]
  generalize (lg_sl ([.ref x, .int (iI (k : Int))]) ++ List.replicate (2 - (lg_sl ([.ref x, .int (iI (k : Int))])).length) Slot.unset).toArray = ls at hl ⊢
  have hl : lv_has ls 2 [(0, .ref x), (1, .int (iI (k : Int)))] := hl
  have hIn := hI.n
  have hIb := hI.b
  refine lv_aload_n hx hb dX0_requireOpen_0 rfl (lv_at hl 0 rfl) ?_
  refine lv_iload_n hx hb dX0_requireOpen_1 rfl (lv_at hl 1 rfl) ?_
  refine zc_i (va_runV (As := [.int (iI (k : Int))]) (rest := []) ⟨hx, hb, hml, hown, hts⟩ (c_X0_stateOf l G x a B σ k hI (by omega)) (cwV 1 hts gX0_requireOpen_X0_stateOf rfl rfl rfl (by decide +kernel) ⟨Nat.le_of_ble_eq_true rfl, Nat.le_of_ble_eq_true rfl⟩) (preVX hK hP) rfl rfl hl.1 rfl (lv_room (Nat.le_of_ble_eq_true rfl)) dX0_requireOpen_2 ⟨Nat.le_of_ble_eq_true rfl, Nat.le_of_ble_eq_true rfl⟩) ?_
  have f_1 := hI.r5 k
  refine z_if_eq (tgt := 18) hx hb dX0_requireOpen_5 (by decide) (by omega) (fun c_2 => ?_) (fun c_2 => ?_)
  ·
    exact W.vret hx hb hr (fun t ht _ => ⟨rfl, trivial, ht⟩) (fun q hq => absurd hq List.not_mem_nil) dX0_requireOpen_18
  ·
    exfalso
    omega
set_option maxHeartbeats 4000000 in
set_option maxRecDepth 100000 in
theorem c_X0_day (l : Launch) (G : zG) (x : Nat) (a : Nat → Nat) (B : Nat) (σ : zS) (hI : zI B σ) : Met l yX0_day wsX0_day ({ frames := 0, cells := 0, slots := 0, locals := 0 } : Room) (va_Pc [.ref x] (pX G x a σ)) (vp_Si (fun r => r = iI ((σ.1 2 : Nat) : Int))) 0 0 (fun _ => False) := by
  refine Met.ofW (cc := cX0_day) (maxL := 1) (ret := (some .int)) (by decide) rfl ?_
  intro pp ee s m args below meth c s₁ B9 hml hv
  obtain ⟨rfl, hP, hK⟩ := hv
  have hx := B9.exec
  have hb := B9.bytes
  have hr := B9.returns
  have hts := atoms_spec (ws := wsX0_day) B9.pre
  have hown : s.vm.findClass RX0 = some m.cls := findClass_of_methodNamed B9.named
  have hlocks := B9.notSynchronized
  have hin0 : ∀ w ∈ wsX00, w ∈ wsX0_day := by decide +kernel
  have w_0 := hts (.fieldLink RX0 110 "ApologyLedger" "today" "I") (by decide +kernel)
  have hl := lv_entry ([.ref x]) (n := 1) (Nat.le_of_ble_eq_true rfl)
  rw [lg_entry_eq]
  generalize (lg_sl ([.ref x]) ++ List.replicate (1 - (lg_sl ([.ref x])).length) Slot.unset).toArray = ls at hl ⊢
  have hl : lv_has ls 1 [(0, .ref x)] := hl
  have hIn := hI.n
  have hIb := hI.b
  refine lv_aload_n hx hb dX0_day_0 rfl (lv_at hl 0 rfl) ?_
  refine x_get (v := .int (iI (σ.1 2 : Nat))) hx hb hts hin0 hown hK hP 0 rfl 10 (by decide) w_0 rfl dX0_day_1 ?_
  refine z_re (v' := iI ((σ.1 2 : Nat) : Int)) (congrArg iI (by rfl)) ?_
  exact W.iret hx hb hr (fun t ht _ => ⟨_, rfl, rfl, ht⟩) (fun q hq => absurd hq List.not_mem_nil) dX0_day_4
set_option maxHeartbeats 4000000 in
set_option maxRecDepth 100000 in
theorem c_X0_persons (l : Launch) (G : zG) (x : Nat) (a : Nat → Nat) (B : Nat) (σ : zS) (hI : zI B σ) : Met l yX0_persons wsX0_persons ({ frames := 0, cells := 0, slots := 0, locals := 0 } : Room) (va_Pc [.ref x] (pX G x a σ)) (vp_Si (fun r => r = iI ((σ.1 0 : Nat) : Int))) 0 0 (fun _ => False) := by
  refine Met.ofW (cc := cX0_persons) (maxL := 1) (ret := (some .int)) (by decide) rfl ?_
  intro pp ee s m args below meth c s₁ B9 hml hv
  obtain ⟨rfl, hP, hK⟩ := hv
  have hx := B9.exec
  have hb := B9.bytes
  have hr := B9.returns
  have hts := atoms_spec (ws := wsX0_persons) B9.pre
  have hown : s.vm.findClass RX0 = some m.cls := findClass_of_methodNamed B9.named
  have hlocks := B9.notSynchronized
  have hin0 : ∀ w ∈ wsX00, w ∈ wsX0_persons := by decide +kernel
  have w_0 := hts (.fieldLink RX0 39 "ApologyLedger" "personCount" "I") (by decide +kernel)
  have hl := lv_entry ([.ref x]) (n := 1) (Nat.le_of_ble_eq_true rfl)
  rw [lg_entry_eq]
  generalize (lg_sl ([.ref x]) ++ List.replicate (1 - (lg_sl ([.ref x])).length) Slot.unset).toArray = ls at hl ⊢
  have hl : lv_has ls 1 [(0, .ref x)] := hl
  have hIn := hI.n
  have hIb := hI.b
  refine lv_aload_n hx hb dX0_persons_0 rfl (lv_at hl 0 rfl) ?_
  refine x_get (v := .int (iI (σ.1 0 : Nat))) hx hb hts hin0 hown hK hP 0 rfl 2 (by decide) w_0 rfl dX0_persons_1 ?_
  refine z_re (v' := iI ((σ.1 0 : Nat) : Int)) (congrArg iI (by rfl)) ?_
  exact W.iret hx hb hr (fun t ht _ => ⟨_, rfl, rfl, ht⟩) (fun q hq => absurd hq List.not_mem_nil) dX0_persons_4
set_option maxHeartbeats 4000000 in
set_option maxRecDepth 100000 in
theorem c_X0_slights (l : Launch) (G : zG) (x : Nat) (a : Nat → Nat) (B : Nat) (σ : zS) (hI : zI B σ) : Met l yX0_slights wsX0_slights ({ frames := 0, cells := 0, slots := 0, locals := 0 } : Room) (va_Pc [.ref x] (pX G x a σ)) (vp_Si (fun r => r = iI ((σ.1 1 : Nat) : Int))) 0 0 (fun _ => False) := by
  refine Met.ofW (cc := cX0_slights) (maxL := 1) (ret := (some .int)) (by decide) rfl ?_
  intro pp ee s m args below meth c s₁ B9 hml hv
  obtain ⟨rfl, hP, hK⟩ := hv
  have hx := B9.exec
  have hb := B9.bytes
  have hr := B9.returns
  have hts := atoms_spec (ws := wsX0_slights) B9.pre
  have hown : s.vm.findClass RX0 = some m.cls := findClass_of_methodNamed B9.named
  have hlocks := B9.notSynchronized
  have hin0 : ∀ w ∈ wsX00, w ∈ wsX0_slights := by decide +kernel
  have w_0 := hts (.fieldLink RX0 60 "ApologyLedger" "slightCount" "I") (by decide +kernel)
  have hl := lv_entry ([.ref x]) (n := 1) (Nat.le_of_ble_eq_true rfl)
  rw [lg_entry_eq]
  generalize (lg_sl ([.ref x]) ++ List.replicate (1 - (lg_sl ([.ref x])).length) Slot.unset).toArray = ls at hl ⊢
  have hl : lv_has ls 1 [(0, .ref x)] := hl
  have hIn := hI.n
  have hIb := hI.b
  refine lv_aload_n hx hb dX0_slights_0 rfl (lv_at hl 0 rfl) ?_
  refine x_get (v := .int (iI (σ.1 1 : Nat))) hx hb hts hin0 hown hK hP 0 rfl 9 (by decide) w_0 rfl dX0_slights_1 ?_
  refine z_re (v' := iI ((σ.1 1 : Nat) : Int)) (congrArg iI (by rfl)) ?_
  exact W.iret hx hb hr (fun t ht _ => ⟨_, rfl, rfl, ht⟩) (fun q hq => absurd hq List.not_mem_nil) dX0_slights_4
set_option maxHeartbeats 4000000 in
set_option maxRecDepth 100000 in
theorem c_X0_scorned (l : Launch) (G : zG) (x : Nat) (a : Nat → Nat) (B : Nat) (σ : zS) (hI : zI B σ) : Met l yX0_scorned wsX0_scorned ({ frames := 0, cells := 0, slots := 0, locals := 0 } : Room) (va_Pc [.ref x] (pX G x a σ)) (vp_Si (fun r => r = iI ((σ.1 3 : Nat) : Int))) 0 0 (fun _ => False) := by
  refine Met.ofW (cc := cX0_scorned) (maxL := 1) (ret := (some .int)) (by decide) rfl ?_
  intro pp ee s m args below meth c s₁ B9 hml hv
  obtain ⟨rfl, hP, hK⟩ := hv
  have hx := B9.exec
  have hb := B9.bytes
  have hr := B9.returns
  have hts := atoms_spec (ws := wsX0_scorned) B9.pre
  have hown : s.vm.findClass RX0 = some m.cls := findClass_of_methodNamed B9.named
  have hlocks := B9.notSynchronized
  have hin0 : ∀ w ∈ wsX00, w ∈ wsX0_scorned := by decide +kernel
  have w_0 := hts (.fieldLink RX0 85 "ApologyLedger" "scornedCount" "I") (by decide +kernel)
  have hl := lv_entry ([.ref x]) (n := 1) (Nat.le_of_ble_eq_true rfl)
  rw [lg_entry_eq]
  generalize (lg_sl ([.ref x]) ++ List.replicate (1 - (lg_sl ([.ref x])).length) Slot.unset).toArray = ls at hl ⊢
  have hl : lv_has ls 1 [(0, .ref x)] := hl
  have hIn := hI.n
  have hIb := hI.b
  refine lv_aload_n hx hb dX0_scorned_0 rfl (lv_at hl 0 rfl) ?_
  refine x_get (v := .int (iI (σ.1 3 : Nat))) hx hb hts hin0 hown hK hP 0 rfl 11 (by decide) w_0 rfl dX0_scorned_1 ?_
  refine z_re (v' := iI ((σ.1 3 : Nat) : Int)) (congrArg iI (by rfl)) ?_
  exact W.iret hx hb hr (fun t ht _ => ⟨_, rfl, rfl, ht⟩) (fun q hq => absurd hq List.not_mem_nil) dX0_scorned_4
set_option maxHeartbeats 4000000 in
set_option maxRecDepth 100000 in
theorem c_X0_inHall (l : Launch) (G : zG) (x : Nat) (a : Nat → Nat) (B : Nat) (σ : zS) (hI : zI B σ) : Met l yX0_inHall wsX0_inHall ({ frames := 0, cells := 0, slots := 0, locals := 0 } : Room) (va_Pc [.ref x] (pX G x a σ)) (vp_Si (fun r => r = iI (inh σ))) 0 0 (fun _ => False) := by
  refine Met.ofW (cc := cX0_inHall) (maxL := 3) (ret := (some .int)) (by decide) rfl ?_
  intro pp ee s m args below meth c s₁ B9 hml hv
  obtain ⟨rfl, hP, hK⟩ := hv
  have hx := B9.exec
  have hb := B9.bytes
  have hr := B9.returns
  have hts := atoms_spec (ws := wsX0_inHall) B9.pre
  have hown : s.vm.findClass RX0 = some m.cls := findClass_of_methodNamed B9.named
  have hlocks := B9.notSynchronized
  have hin0 : ∀ w ∈ wsX00, w ∈ wsX0_inHall := by decide +kernel
  have w_0 := hts (.fieldLink RX0 39 "ApologyLedger" "personCount" "I") (by decide +kernel)
  have w_1 := hts (.fieldLink RX0 13 "ApologyLedger" "present" "[Z") (by decide +kernel)
  have hl := lv_entry ([.ref x]) (n := 3) (Nat.le_of_ble_eq_true rfl)
  rw [lg_entry_eq]
  generalize (lg_sl ([.ref x]) ++ List.replicate (3 - (lg_sl ([.ref x])).length) Slot.unset).toArray = ls at hl ⊢
  have hl : lv_has ls 3 [(0, .ref x)] := hl
  have hIn := hI.n
  have hIb := hI.b
  refine lv_iconst (v := iI 0) hx hb dX0_inHall_0 rfl ?_
  refine lv_istore_n (lv' := [(1, .int (iI 0)), (0, .ref x)]) hx hb dX0_inHall_1 rfl hl (by decide) rfl (fun ls hl => ?_)
  refine lv_iconst (v := iI 0) hx hb dX0_inHall_2 rfl ?_
  refine lv_istore_n (lv' := [(2, .int (iI 0)), (1, .int (iI 0)), (0, .ref x)]) hx hb dX0_inHall_3 rfl hl (by decide) rfl (fun ls hl => ?_)
  have LP4 : ∀ (r4 : Nat) (j : Nat) (s1 : Int), j ≤ σ.1 0 → σ.1 0 - j < r4 → s1 = zs (fun p => if σ.2 1 p = 1 then 1 else 0) j → ∀ (ls : Array Slot), lv_has ls 3 [(2, .int (iI (j : Int))), (1, .int (iI s1)), (0, .ref x)] → W pp l ee (headSpec wsX0_inHall ({ frames := 0, cells := 0, slots := 0, locals := 0 } : Room)).room s m ([.ref x] : List Value).toArray below meth c s.heap [] 0 0 (MQ below (vp_Si (fun r => r = iI (inh σ))) ([.ref x] : List Value).toArray s 0 0 (fun _ => False)) (F0 m 4 ls []) := by
    intro r4
    induction r4 with
    | zero => intro j s1 hv4_0 hv4_1; exfalso; omega
    | succ r4 ih4 =>
      intro j s1 hv4_0 hv4_1 hv4_2 ls hl
      refine lv_iload_n hx hb dX0_inHall_4 rfl (lv_at hl 0 rfl) ?_
      refine lv_aload_n hx hb dX0_inHall_5 rfl (lv_at hl 2 rfl) ?_
      refine x_get (v := .int (iI (σ.1 0 : Nat))) hx hb hts hin0 hown hK hP 0 rfl 2 (by decide) w_0 rfl dX0_inHall_6 ?_
      refine z_icmp_ge (tgt := 30) hx hb dX0_inHall_9 (by decide) (by omega) (by omega) (fun c_1 => ?_) (fun c_1 => ?_)
      ·
        refine lv_iload_n hx hb dX0_inHall_30 rfl (lv_at hl 1 rfl) ?_
        refine z_re (v' := iI (inh σ)) (congrArg iI (by rw [hv4_2, show j = σ.1 0 from by omega]; rfl)) ?_
        exact W.iret hx hb hr (fun t ht _ => ⟨_, rfl, rfl, ht⟩) (fun q hq => absurd hq List.not_mem_nil) dX0_inHall_31
      ·
        refine lv_aload_n hx hb dX0_inHall_12 rfl (lv_at hl 2 rfl) ?_
        refine x_get (v := .ref (a 1)) hx hb hts hin0 hown hK hP 0 rfl 1 (by decide) w_1 rfl dX0_inHall_13 ?_
        refine lv_iload_n hx hb dX0_inHall_16 rfl (lv_at hl 0 rfl) ?_
        refine z_zald (v := iI (σ.2 1 j)) hx hb hK hP 2 1 rfl rfl (k := j) (by omega) (by decide) rfl dX0_inHall_17 ?_
        have f_2 := hI.r1 j
        refine z_if_eq (tgt := 24) hx hb dX0_inHall_18 (by decide) (by omega) (fun c_3 => ?_) (fun c_3 => ?_)
        ·
          refine lv_iinc (v := iI ((j : Int) + 1)) (lv' := [(2, .int (iI ((j : Int) + 1))), (1, .int (iI s1)), (0, .ref x)]) hx hb dX0_inHall_24 hl (k := 0) rfl (iI_add _ _) (by decide) rfl (fun ls hl => ?_)
          refine lv_goto (tgt := 4) hx hb dX0_inHall_27 (by decide) ?_
          exact ih4 (j + 1) s1 (by omega) (by omega) (by rw [zs_s, ← hv4_2]; (try dsimp only); split <;> omega) ls (lv_sub hl [0, 1, 2] rfl)
        ·
          refine lv_iinc (v := iI (s1 + 1)) (lv' := [(1, .int (iI (s1 + 1))), (2, .int (iI (j : Int))), (0, .ref x)]) hx hb dX0_inHall_21 hl (k := 1) rfl (iI_add _ _) (by decide) rfl (fun ls hl => ?_)
          refine lv_iinc (v := iI ((j : Int) + 1)) (lv' := [(2, .int (iI ((j : Int) + 1))), (1, .int (iI (s1 + 1))), (0, .ref x)]) hx hb dX0_inHall_24 hl (k := 1) rfl (iI_add _ _) (by decide) rfl (fun ls hl => ?_)
          refine lv_goto (tgt := 4) hx hb dX0_inHall_27 (by decide) ?_
          exact ih4 (j + 1) (s1 + 1) (by omega) (by omega) (by rw [zs_s, ← hv4_2]; (try dsimp only); split <;> omega) ls (lv_sub hl [0, 1, 2] rfl)
  exact LP4 (σ.1 0 - (0) + 1) 0 0 (by omega) (by omega) (by rfl) ls (lv_sub hl [0, 1, 2] rfl)
set_option maxHeartbeats 4000000 in
set_option maxRecDepth 100000 in
theorem c_X0_borneBy (l : Launch) (G : zG) (x : Nat) (a : Nat → Nat) (B : Nat) (σ : zS) (p : Nat) (hI : zI B σ) (hp : p < σ.1 0) : Met l yX0_borneBy wsX0_borneBy ({ frames := 1, cells := 0, slots := 0, locals := 21 } : Room) (va_Pc [.ref x, .int (iI (p : Int))] (pX G x a σ)) (vp_Si (fun r => r = iI (bor σ (p : Int)))) 0 0 (fun _ => False) := by
  refine Met.ofW (cc := cX0_borneBy) (maxL := 4) (ret := (some .int)) (by decide) rfl ?_
  intro pp ee s m args below meth c s₁ B9 hml hv
  obtain ⟨rfl, hP, hK⟩ := hv
  have hx := B9.exec
  have hb := B9.bytes
  have hr := B9.returns
  have hts := atoms_spec (ws := wsX0_borneBy) B9.pre
  have hown : s.vm.findClass RX0 = some m.cls := findClass_of_methodNamed B9.named
  have hlocks := B9.notSynchronized
  have hin0 : ∀ w ∈ wsX00, w ∈ wsX0_borneBy := by decide +kernel
  have w_0 := hts (.fieldLink RX0 60 "ApologyLedger" "slightCount" "I") (by decide +kernel)
  have w_1 := hts (.fieldLink RX0 26 "ApologyLedger" "states" "[I") (by decide +kernel)
  have w_2 := hts (.fieldLink RX0 20 "ApologyLedger" "offendedOnes" "[I") (by decide +kernel)
  have w_3 := hts (.fieldLink RX0 23 "ApologyLedger" "weights" "[I") (by decide +kernel)
  have hl := lv_entry ([.ref x, .int (iI (p : Int))]) (n := 4) (Nat.le_of_ble_eq_true rfl)
  rw [lg_entry_eq]
  generalize (lg_sl ([.ref x, .int (iI (p : Int))]) ++ List.replicate (4 - (lg_sl ([.ref x, .int (iI (p : Int))])).length) Slot.unset).toArray = ls at hl ⊢
  have hl : lv_has ls 4 [(0, .ref x), (1, .int (iI (p : Int)))] := hl
  have hIn := hI.n
  have hIb := hI.b
  refine lv_aload_n hx hb dX0_borneBy_0 rfl (lv_at hl 0 rfl) ?_
  refine lv_iload_n hx hb dX0_borneBy_1 rfl (lv_at hl 1 rfl) ?_
  refine zc_v (va_runV (As := [.int (iI (p : Int))]) (rest := []) ⟨hx, hb, hml, hown, hts⟩ (c_X0_requirePerson l G x a σ p (by omega) (by omega)) (cwV 1 hts gX0_borneBy_X0_requirePerson rfl rfl rfl (by decide +kernel) ⟨Nat.le_of_ble_eq_true rfl, Nat.le_of_ble_eq_true rfl⟩) (preVX hK hP) rfl rfl hl.1 rfl (lv_room (Nat.le_of_ble_eq_true rfl)) dX0_borneBy_2 ⟨Nat.le_of_ble_eq_true rfl, Nat.le_of_ble_eq_true rfl⟩) ?_
  refine lv_iconst (v := iI 0) hx hb dX0_borneBy_5 rfl ?_
  refine lv_istore_n (lv' := [(2, .int (iI 0)), (0, .ref x), (1, .int (iI (p : Int)))]) hx hb dX0_borneBy_6 rfl hl (by decide) rfl (fun ls hl => ?_)
  refine lv_iconst (v := iI 0) hx hb dX0_borneBy_7 rfl ?_
  refine lv_istore_n (lv' := [(3, .int (iI 0)), (2, .int (iI 0)), (0, .ref x), (1, .int (iI (p : Int)))]) hx hb dX0_borneBy_8 rfl hl (by decide) rfl (fun ls hl => ?_)
  have LP9 : ∀ (r9 : Nat) (j : Nat) (s1 : Int), j ≤ σ.1 1 → σ.1 1 - j < r9 → s1 = zs (fun k => if σ.2 5 k = 0 ∧ σ.2 3 k = (p : Int) then σ.2 4 k else 0) j → ∀ (ls : Array Slot), lv_has ls 4 [(3, .int (iI (j : Int))), (2, .int (iI s1)), (0, .ref x), (1, .int (iI (p : Int)))] → W pp l ee (headSpec wsX0_borneBy ({ frames := 1, cells := 0, slots := 0, locals := 21 } : Room)).room s m ([.ref x, .int (iI (p : Int))] : List Value).toArray below meth c s.heap [] 0 0 (MQ below (vp_Si (fun r => r = iI (bor σ (p : Int)))) ([.ref x, .int (iI (p : Int))] : List Value).toArray s 0 0 (fun _ => False)) (F0 m 9 ls []) := by
    intro r9
    induction r9 with
    | zero => intro j s1 hv9_0 hv9_1; exfalso; omega
    | succ r9 ih9 =>
      intro j s1 hv9_0 hv9_1 hv9_2 ls hl
      refine lv_iload_n hx hb dX0_borneBy_9 rfl (lv_at hl 0 rfl) ?_
      refine lv_aload_n hx hb dX0_borneBy_10 rfl (lv_at hl 2 rfl) ?_
      refine x_get (v := .int (iI (σ.1 1 : Nat))) hx hb hts hin0 hown hK hP 0 rfl 9 (by decide) w_0 rfl dX0_borneBy_11 ?_
      refine z_icmp_ge (tgt := 51) hx hb dX0_borneBy_14 (by decide) (by omega) (by omega) (fun c_1 => ?_) (fun c_1 => ?_)
      ·
        refine lv_iload_n hx hb dX0_borneBy_51 rfl (lv_at hl 1 rfl) ?_
        refine z_re (v' := iI (bor σ (p : Int))) (congrArg iI (by rw [hv9_2, show j = σ.1 1 from by omega]; rfl)) ?_
        exact W.iret hx hb hr (fun t ht _ => ⟨_, rfl, rfl, ht⟩) (fun q hq => absurd hq List.not_mem_nil) dX0_borneBy_52
      ·
        refine lv_aload_n hx hb dX0_borneBy_17 rfl (lv_at hl 2 rfl) ?_
        refine x_get (v := .ref (a 5)) hx hb hts hin0 hown hK hP 0 rfl 6 (by decide) w_1 rfl dX0_borneBy_18 ?_
        refine lv_iload_n hx hb dX0_borneBy_21 rfl (lv_at hl 0 rfl) ?_
        refine z_iald (v := iI (σ.2 5 j)) hx hb hK hP 6 0 rfl rfl (k := j) (by omega) (by decide) rfl dX0_borneBy_22 ?_
        have f_2 := hI.r5 j
        refine z_if_ne (tgt := 45) hx hb dX0_borneBy_23 (by decide) (by omega) (fun c_3 => ?_) (fun c_3 => ?_)
        ·
          refine lv_iinc (v := iI ((j : Int) + 1)) (lv' := [(3, .int (iI ((j : Int) + 1))), (2, .int (iI s1)), (0, .ref x), (1, .int (iI (p : Int)))]) hx hb dX0_borneBy_45 hl (k := 0) rfl (iI_add _ _) (by decide) rfl (fun ls hl => ?_)
          refine lv_goto (tgt := 9) hx hb dX0_borneBy_48 (by decide) ?_
          exact ih9 (j + 1) s1 (by omega) (by omega) (by rw [zs_s, ← hv9_2]; (try dsimp only); split <;> omega) ls (lv_sub hl [0, 1, 2, 3] rfl)
        ·
          refine lv_aload_n hx hb dX0_borneBy_26 rfl (lv_at hl 2 rfl) ?_
          refine x_get (v := .ref (a 3)) hx hb hts hin0 hown hK hP 0 rfl 4 (by decide) w_2 rfl dX0_borneBy_27 ?_
          refine lv_iload_n hx hb dX0_borneBy_30 rfl (lv_at hl 0 rfl) ?_
          refine z_iald (v := iI (σ.2 3 j)) hx hb hK hP 4 0 rfl rfl (k := j) (by omega) (by decide) rfl dX0_borneBy_31 ?_
          have f_4 := hI.r3 (k := j) (by omega)
          refine lv_iload_n hx hb dX0_borneBy_32 rfl (lv_at hl 3 rfl) ?_
          refine z_icmp_ne (tgt := 45) hx hb dX0_borneBy_33 (by decide) (by omega) (by omega) (fun c_5 => ?_) (fun c_5 => ?_)
          ·
            refine lv_iinc (v := iI ((j : Int) + 1)) (lv' := [(3, .int (iI ((j : Int) + 1))), (2, .int (iI s1)), (0, .ref x), (1, .int (iI (p : Int)))]) hx hb dX0_borneBy_45 hl (k := 0) rfl (iI_add _ _) (by decide) rfl (fun ls hl => ?_)
            refine lv_goto (tgt := 9) hx hb dX0_borneBy_48 (by decide) ?_
            exact ih9 (j + 1) s1 (by omega) (by omega) (by rw [zs_s, ← hv9_2]; (try dsimp only); split <;> omega) ls (lv_sub hl [0, 1, 2, 3] rfl)
          ·
            refine lv_iload_n hx hb dX0_borneBy_36 rfl (lv_at hl 1 rfl) ?_
            refine lv_aload_n hx hb dX0_borneBy_37 rfl (lv_at hl 2 rfl) ?_
            refine x_get (v := .ref (a 4)) hx hb hts hin0 hown hK hP 0 rfl 5 (by decide) w_3 rfl dX0_borneBy_38 ?_
            refine lv_iload_n hx hb dX0_borneBy_41 rfl (lv_at hl 0 rfl) ?_
            refine z_iald (v := iI (σ.2 4 j)) hx hb hK hP 5 0 rfl rfl (k := j) (by omega) (by decide) rfl dX0_borneBy_42 ?_
            have f_6 := hI.r4 j
            refine z_iadd hx hb dX0_borneBy_43 ?_
            refine lv_istore_n (lv' := [(2, .int (iI (s1 + (σ.2 4 j)))), (3, .int (iI (j : Int))), (0, .ref x), (1, .int (iI (p : Int)))]) hx hb dX0_borneBy_44 rfl hl (by decide) rfl (fun ls hl => ?_)
            refine lv_iinc (v := iI ((j : Int) + 1)) (lv' := [(3, .int (iI ((j : Int) + 1))), (2, .int (iI (s1 + (σ.2 4 j)))), (0, .ref x), (1, .int (iI (p : Int)))]) hx hb dX0_borneBy_45 hl (k := 1) rfl (iI_add _ _) (by decide) rfl (fun ls hl => ?_)
            refine lv_goto (tgt := 9) hx hb dX0_borneBy_48 (by decide) ?_
            exact ih9 (j + 1) (s1 + (σ.2 4 j)) (by omega) (by omega) (by rw [zs_s, ← hv9_2]; (try dsimp only); split <;> omega) ls (lv_sub hl [0, 1, 2, 3] rfl)
  exact LP9 (σ.1 1 - (0) + 1) 0 0 (by omega) (by omega) (by rfl) ls (lv_sub hl [0, 1, 2, 3] rfl)
set_option maxHeartbeats 4000000 in
set_option maxRecDepth 100000 in
theorem c_X0_owedBy (l : Launch) (G : zG) (x : Nat) (a : Nat → Nat) (B : Nat) (σ : zS) (p : Nat) (hI : zI B σ) (hp : p < σ.1 0) : Met l yX0_owedBy wsX0_owedBy ({ frames := 1, cells := 0, slots := 0, locals := 21 } : Room) (va_Pc [.ref x, .int (iI (p : Int))] (pX G x a σ)) (vp_Si (fun r => r = iI (owe σ (p : Int)))) 0 0 (fun _ => False) := by
  refine Met.ofW (cc := cX0_owedBy) (maxL := 4) (ret := (some .int)) (by decide) rfl ?_
  intro pp ee s m args below meth c s₁ B9 hml hv
  obtain ⟨rfl, hP, hK⟩ := hv
  have hx := B9.exec
  have hb := B9.bytes
  have hr := B9.returns
  have hts := atoms_spec (ws := wsX0_owedBy) B9.pre
  have hown : s.vm.findClass RX0 = some m.cls := findClass_of_methodNamed B9.named
  have hlocks := B9.notSynchronized
  have hin0 : ∀ w ∈ wsX00, w ∈ wsX0_owedBy := by decide +kernel
  have w_0 := hts (.fieldLink RX0 60 "ApologyLedger" "slightCount" "I") (by decide +kernel)
  have w_1 := hts (.fieldLink RX0 26 "ApologyLedger" "states" "[I") (by decide +kernel)
  have w_2 := hts (.fieldLink RX0 17 "ApologyLedger" "offenders" "[I") (by decide +kernel)
  have w_3 := hts (.fieldLink RX0 23 "ApologyLedger" "weights" "[I") (by decide +kernel)
  have hl := lv_entry ([.ref x, .int (iI (p : Int))]) (n := 4) (Nat.le_of_ble_eq_true rfl)
  rw [lg_entry_eq]
  generalize (lg_sl ([.ref x, .int (iI (p : Int))]) ++ List.replicate (4 - (lg_sl ([.ref x, .int (iI (p : Int))])).length) Slot.unset).toArray = ls at hl ⊢
  have hl : lv_has ls 4 [(0, .ref x), (1, .int (iI (p : Int)))] := hl
  have hIn := hI.n
  have hIb := hI.b
  refine lv_aload_n hx hb dX0_owedBy_0 rfl (lv_at hl 0 rfl) ?_
  refine lv_iload_n hx hb dX0_owedBy_1 rfl (lv_at hl 1 rfl) ?_
  refine zc_v (va_runV (As := [.int (iI (p : Int))]) (rest := []) ⟨hx, hb, hml, hown, hts⟩ (c_X0_requirePerson l G x a σ p (by omega) (by omega)) (cwV 1 hts gX0_owedBy_X0_requirePerson rfl rfl rfl (by decide +kernel) ⟨Nat.le_of_ble_eq_true rfl, Nat.le_of_ble_eq_true rfl⟩) (preVX hK hP) rfl rfl hl.1 rfl (lv_room (Nat.le_of_ble_eq_true rfl)) dX0_owedBy_2 ⟨Nat.le_of_ble_eq_true rfl, Nat.le_of_ble_eq_true rfl⟩) ?_
  refine lv_iconst (v := iI 0) hx hb dX0_owedBy_5 rfl ?_
  refine lv_istore_n (lv' := [(2, .int (iI 0)), (0, .ref x), (1, .int (iI (p : Int)))]) hx hb dX0_owedBy_6 rfl hl (by decide) rfl (fun ls hl => ?_)
  refine lv_iconst (v := iI 0) hx hb dX0_owedBy_7 rfl ?_
  refine lv_istore_n (lv' := [(3, .int (iI 0)), (2, .int (iI 0)), (0, .ref x), (1, .int (iI (p : Int)))]) hx hb dX0_owedBy_8 rfl hl (by decide) rfl (fun ls hl => ?_)
  have LP9 : ∀ (r9 : Nat) (j : Nat) (s1 : Int), j ≤ σ.1 1 → σ.1 1 - j < r9 → s1 = zs (fun k => if σ.2 5 k = 0 ∧ σ.2 2 k = (p : Int) then σ.2 4 k else 0) j → ∀ (ls : Array Slot), lv_has ls 4 [(3, .int (iI (j : Int))), (2, .int (iI s1)), (0, .ref x), (1, .int (iI (p : Int)))] → W pp l ee (headSpec wsX0_owedBy ({ frames := 1, cells := 0, slots := 0, locals := 21 } : Room)).room s m ([.ref x, .int (iI (p : Int))] : List Value).toArray below meth c s.heap [] 0 0 (MQ below (vp_Si (fun r => r = iI (owe σ (p : Int)))) ([.ref x, .int (iI (p : Int))] : List Value).toArray s 0 0 (fun _ => False)) (F0 m 9 ls []) := by
    intro r9
    induction r9 with
    | zero => intro j s1 hv9_0 hv9_1; exfalso; omega
    | succ r9 ih9 =>
      intro j s1 hv9_0 hv9_1 hv9_2 ls hl
      refine lv_iload_n hx hb dX0_owedBy_9 rfl (lv_at hl 0 rfl) ?_
      refine lv_aload_n hx hb dX0_owedBy_10 rfl (lv_at hl 2 rfl) ?_
      refine x_get (v := .int (iI (σ.1 1 : Nat))) hx hb hts hin0 hown hK hP 0 rfl 9 (by decide) w_0 rfl dX0_owedBy_11 ?_
      refine z_icmp_ge (tgt := 51) hx hb dX0_owedBy_14 (by decide) (by omega) (by omega) (fun c_1 => ?_) (fun c_1 => ?_)
      ·
        refine lv_iload_n hx hb dX0_owedBy_51 rfl (lv_at hl 1 rfl) ?_
        refine z_re (v' := iI (owe σ (p : Int))) (congrArg iI (by rw [hv9_2, show j = σ.1 1 from by omega]; rfl)) ?_
        exact W.iret hx hb hr (fun t ht _ => ⟨_, rfl, rfl, ht⟩) (fun q hq => absurd hq List.not_mem_nil) dX0_owedBy_52
      ·
        refine lv_aload_n hx hb dX0_owedBy_17 rfl (lv_at hl 2 rfl) ?_
        refine x_get (v := .ref (a 5)) hx hb hts hin0 hown hK hP 0 rfl 6 (by decide) w_1 rfl dX0_owedBy_18 ?_
        refine lv_iload_n hx hb dX0_owedBy_21 rfl (lv_at hl 0 rfl) ?_
        refine z_iald (v := iI (σ.2 5 j)) hx hb hK hP 6 0 rfl rfl (k := j) (by omega) (by decide) rfl dX0_owedBy_22 ?_
        have f_2 := hI.r5 j
        refine z_if_ne (tgt := 45) hx hb dX0_owedBy_23 (by decide) (by omega) (fun c_3 => ?_) (fun c_3 => ?_)
        ·
          refine lv_iinc (v := iI ((j : Int) + 1)) (lv' := [(3, .int (iI ((j : Int) + 1))), (2, .int (iI s1)), (0, .ref x), (1, .int (iI (p : Int)))]) hx hb dX0_owedBy_45 hl (k := 0) rfl (iI_add _ _) (by decide) rfl (fun ls hl => ?_)
          refine lv_goto (tgt := 9) hx hb dX0_owedBy_48 (by decide) ?_
          exact ih9 (j + 1) s1 (by omega) (by omega) (by rw [zs_s, ← hv9_2]; (try dsimp only); split <;> omega) ls (lv_sub hl [0, 1, 2, 3] rfl)
        ·
          refine lv_aload_n hx hb dX0_owedBy_26 rfl (lv_at hl 2 rfl) ?_
          refine x_get (v := .ref (a 2)) hx hb hts hin0 hown hK hP 0 rfl 3 (by decide) w_2 rfl dX0_owedBy_27 ?_
          refine lv_iload_n hx hb dX0_owedBy_30 rfl (lv_at hl 0 rfl) ?_
          refine z_iald (v := iI (σ.2 2 j)) hx hb hK hP 3 0 rfl rfl (k := j) (by omega) (by decide) rfl dX0_owedBy_31 ?_
          have f_4 := hI.r2 (k := j) (by omega)
          refine lv_iload_n hx hb dX0_owedBy_32 rfl (lv_at hl 3 rfl) ?_
          refine z_icmp_ne (tgt := 45) hx hb dX0_owedBy_33 (by decide) (by omega) (by omega) (fun c_5 => ?_) (fun c_5 => ?_)
          ·
            refine lv_iinc (v := iI ((j : Int) + 1)) (lv' := [(3, .int (iI ((j : Int) + 1))), (2, .int (iI s1)), (0, .ref x), (1, .int (iI (p : Int)))]) hx hb dX0_owedBy_45 hl (k := 0) rfl (iI_add _ _) (by decide) rfl (fun ls hl => ?_)
            refine lv_goto (tgt := 9) hx hb dX0_owedBy_48 (by decide) ?_
            exact ih9 (j + 1) s1 (by omega) (by omega) (by rw [zs_s, ← hv9_2]; (try dsimp only); split <;> omega) ls (lv_sub hl [0, 1, 2, 3] rfl)
          ·
            refine lv_iload_n hx hb dX0_owedBy_36 rfl (lv_at hl 1 rfl) ?_
            refine lv_aload_n hx hb dX0_owedBy_37 rfl (lv_at hl 2 rfl) ?_
            refine x_get (v := .ref (a 4)) hx hb hts hin0 hown hK hP 0 rfl 5 (by decide) w_3 rfl dX0_owedBy_38 ?_
            refine lv_iload_n hx hb dX0_owedBy_41 rfl (lv_at hl 0 rfl) ?_
            refine z_iald (v := iI (σ.2 4 j)) hx hb hK hP 5 0 rfl rfl (k := j) (by omega) (by decide) rfl dX0_owedBy_42 ?_
            have f_6 := hI.r4 j
            refine z_iadd hx hb dX0_owedBy_43 ?_
            refine lv_istore_n (lv' := [(2, .int (iI (s1 + (σ.2 4 j)))), (3, .int (iI (j : Int))), (0, .ref x), (1, .int (iI (p : Int)))]) hx hb dX0_owedBy_44 rfl hl (by decide) rfl (fun ls hl => ?_)
            refine lv_iinc (v := iI ((j : Int) + 1)) (lv' := [(3, .int (iI ((j : Int) + 1))), (2, .int (iI (s1 + (σ.2 4 j)))), (0, .ref x), (1, .int (iI (p : Int)))]) hx hb dX0_owedBy_45 hl (k := 1) rfl (iI_add _ _) (by decide) rfl (fun ls hl => ?_)
            refine lv_goto (tgt := 9) hx hb dX0_owedBy_48 (by decide) ?_
            exact ih9 (j + 1) (s1 + (σ.2 4 j)) (by omega) (by omega) (by rw [zs_s, ← hv9_2]; (try dsimp only); split <;> omega) ls (lv_sub hl [0, 1, 2, 3] rfl)
  exact LP9 (σ.1 1 - (0) + 1) 0 0 (by omega) (by omega) (by rfl) ls (lv_sub hl [0, 1, 2, 3] rfl)
set_option maxHeartbeats 4000000 in
set_option maxRecDepth 100000 in
theorem c_X0_weightBetween (l : Launch) (G : zG) (x : Nat) (a : Nat → Nat) (B : Nat) (σ : zS) (i : Nat) (o : Nat) (hI : zI B σ) (hi : i < σ.1 0) (ho : o < σ.1 0) : Met l yX0_weightBetween wsX0_weightBetween ({ frames := 0, cells := 0, slots := 0, locals := 0 } : Room) (va_Pc [.ref x, .int (iI (i : Int)), .int (iI (o : Int))] (pX G x a σ)) (vp_Si (fun r => r = iI (btw σ (i : Int) (o : Int)))) 0 0 (fun _ => False) := by
  refine Met.ofW (cc := cX0_weightBetween) (maxL := 5) (ret := (some .int)) (by decide) rfl ?_
  intro pp ee s m args below meth c s₁ B9 hml hv
  obtain ⟨rfl, hP, hK⟩ := hv
  have hx := B9.exec
  have hb := B9.bytes
  have hr := B9.returns
  have hts := atoms_spec (ws := wsX0_weightBetween) B9.pre
  have hown : s.vm.findClass RX0 = some m.cls := findClass_of_methodNamed B9.named
  have hlocks := B9.notSynchronized
  have hin0 : ∀ w ∈ wsX00, w ∈ wsX0_weightBetween := by decide +kernel
  have w_0 := hts (.fieldLink RX0 60 "ApologyLedger" "slightCount" "I") (by decide +kernel)
  have w_1 := hts (.fieldLink RX0 26 "ApologyLedger" "states" "[I") (by decide +kernel)
  have w_2 := hts (.fieldLink RX0 17 "ApologyLedger" "offenders" "[I") (by decide +kernel)
  have w_3 := hts (.fieldLink RX0 20 "ApologyLedger" "offendedOnes" "[I") (by decide +kernel)
  have w_4 := hts (.fieldLink RX0 23 "ApologyLedger" "weights" "[I") (by decide +kernel)
  have hl := lv_entry ([.ref x, .int (iI (i : Int)), .int (iI (o : Int))]) (n := 5) (Nat.le_of_ble_eq_true rfl)
  rw [lg_entry_eq]
  generalize (lg_sl ([.ref x, .int (iI (i : Int)), .int (iI (o : Int))]) ++ List.replicate (5 - (lg_sl ([.ref x, .int (iI (i : Int)), .int (iI (o : Int))])).length) Slot.unset).toArray = ls at hl ⊢
  have hl : lv_has ls 5 [(0, .ref x), (1, .int (iI (i : Int))), (2, .int (iI (o : Int)))] := hl
  have hIn := hI.n
  have hIb := hI.b
  refine lv_iconst (v := iI 0) hx hb dX0_weightBetween_0 rfl ?_
  refine lv_istore_n (lv' := [(3, .int (iI 0)), (0, .ref x), (1, .int (iI (i : Int))), (2, .int (iI (o : Int)))]) hx hb dX0_weightBetween_1 rfl hl (by decide) rfl (fun ls hl => ?_)
  refine lv_iconst (v := iI 0) hx hb dX0_weightBetween_2 rfl ?_
  refine lv_istore (lv' := [(4, .int (iI 0)), (3, .int (iI 0)), (0, .ref x), (1, .int (iI (i : Int))), (2, .int (iI (o : Int)))]) hx hb dX0_weightBetween_3 hl (by decide) rfl (fun ls hl => ?_)
  have LP5 : ∀ (r5 : Nat) (j : Nat) (s1 : Int), j ≤ σ.1 1 → σ.1 1 - j < r5 → s1 = zs (fun k => if σ.2 5 k = 0 ∧ σ.2 2 k = (i : Int) ∧ σ.2 3 k = (o : Int) then σ.2 4 k else 0) j → ∀ (ls : Array Slot), lv_has ls 5 [(4, .int (iI (j : Int))), (3, .int (iI s1)), (0, .ref x), (1, .int (iI (i : Int))), (2, .int (iI (o : Int)))] → W pp l ee (headSpec wsX0_weightBetween ({ frames := 0, cells := 0, slots := 0, locals := 0 } : Room)).room s m ([.ref x, .int (iI (i : Int)), .int (iI (o : Int))] : List Value).toArray below meth c s.heap [] 0 0 (MQ below (vp_Si (fun r => r = iI (btw σ (i : Int) (o : Int)))) ([.ref x, .int (iI (i : Int)), .int (iI (o : Int))] : List Value).toArray s 0 0 (fun _ => False)) (F0 m 5 ls []) := by
    intro r5
    induction r5 with
    | zero => intro j s1 hv5_0 hv5_1; exfalso; omega
    | succ r5 ih5 =>
      intro j s1 hv5_0 hv5_1 hv5_2 ls hl
      refine lv_iload hx hb dX0_weightBetween_5 (lv_at hl 0 rfl) ?_
      refine lv_aload_n hx hb dX0_weightBetween_7 rfl (lv_at hl 2 rfl) ?_
      refine x_get (v := .int (iI (σ.1 1 : Nat))) hx hb hts hin0 hown hK hP 0 rfl 9 (by decide) w_0 rfl dX0_weightBetween_8 ?_
      refine z_icmp_ge (tgt := 62) hx hb dX0_weightBetween_11 (by decide) (by omega) (by omega) (fun c_1 => ?_) (fun c_1 => ?_)
      ·
        refine lv_iload_n hx hb dX0_weightBetween_62 rfl (lv_at hl 1 rfl) ?_
        refine z_re (v' := iI (btw σ (i : Int) (o : Int))) (congrArg iI (by rw [hv5_2, show j = σ.1 1 from by omega]; rfl)) ?_
        exact W.iret hx hb hr (fun t ht _ => ⟨_, rfl, rfl, ht⟩) (fun q hq => absurd hq List.not_mem_nil) dX0_weightBetween_63
      ·
        refine lv_aload_n hx hb dX0_weightBetween_14 rfl (lv_at hl 2 rfl) ?_
        refine x_get (v := .ref (a 5)) hx hb hts hin0 hown hK hP 0 rfl 6 (by decide) w_1 rfl dX0_weightBetween_15 ?_
        refine lv_iload hx hb dX0_weightBetween_18 (lv_at hl 0 rfl) ?_
        refine z_iald (v := iI (σ.2 5 j)) hx hb hK hP 6 0 rfl rfl (k := j) (by omega) (by decide) rfl dX0_weightBetween_20 ?_
        have f_2 := hI.r5 j
        refine z_if_ne (tgt := 56) hx hb dX0_weightBetween_21 (by decide) (by omega) (fun c_3 => ?_) (fun c_3 => ?_)
        ·
          refine lv_iinc (v := iI ((j : Int) + 1)) (lv' := [(4, .int (iI ((j : Int) + 1))), (3, .int (iI s1)), (0, .ref x), (1, .int (iI (i : Int))), (2, .int (iI (o : Int)))]) hx hb dX0_weightBetween_56 hl (k := 0) rfl (iI_add _ _) (by decide) rfl (fun ls hl => ?_)
          refine lv_goto (tgt := 5) hx hb dX0_weightBetween_59 (by decide) ?_
          exact ih5 (j + 1) s1 (by omega) (by omega) (by rw [zs_s, ← hv5_2]; (try dsimp only); split <;> omega) ls (lv_sub hl [0, 1, 2, 3, 4] rfl)
        ·
          refine lv_aload_n hx hb dX0_weightBetween_24 rfl (lv_at hl 2 rfl) ?_
          refine x_get (v := .ref (a 2)) hx hb hts hin0 hown hK hP 0 rfl 3 (by decide) w_2 rfl dX0_weightBetween_25 ?_
          refine lv_iload hx hb dX0_weightBetween_28 (lv_at hl 0 rfl) ?_
          refine z_iald (v := iI (σ.2 2 j)) hx hb hK hP 3 0 rfl rfl (k := j) (by omega) (by decide) rfl dX0_weightBetween_30 ?_
          have f_4 := hI.r2 (k := j) (by omega)
          refine lv_iload_n hx hb dX0_weightBetween_31 rfl (lv_at hl 3 rfl) ?_
          refine z_icmp_ne (tgt := 56) hx hb dX0_weightBetween_32 (by decide) (by omega) (by omega) (fun c_5 => ?_) (fun c_5 => ?_)
          ·
            refine lv_iinc (v := iI ((j : Int) + 1)) (lv' := [(4, .int (iI ((j : Int) + 1))), (3, .int (iI s1)), (0, .ref x), (1, .int (iI (i : Int))), (2, .int (iI (o : Int)))]) hx hb dX0_weightBetween_56 hl (k := 0) rfl (iI_add _ _) (by decide) rfl (fun ls hl => ?_)
            refine lv_goto (tgt := 5) hx hb dX0_weightBetween_59 (by decide) ?_
            exact ih5 (j + 1) s1 (by omega) (by omega) (by rw [zs_s, ← hv5_2]; (try dsimp only); split <;> omega) ls (lv_sub hl [0, 1, 2, 3, 4] rfl)
          ·
            refine lv_aload_n hx hb dX0_weightBetween_35 rfl (lv_at hl 2 rfl) ?_
            refine x_get (v := .ref (a 3)) hx hb hts hin0 hown hK hP 0 rfl 4 (by decide) w_3 rfl dX0_weightBetween_36 ?_
            refine lv_iload hx hb dX0_weightBetween_39 (lv_at hl 0 rfl) ?_
            refine z_iald (v := iI (σ.2 3 j)) hx hb hK hP 4 0 rfl rfl (k := j) (by omega) (by decide) rfl dX0_weightBetween_41 ?_
            have f_6 := hI.r3 (k := j) (by omega)
            refine lv_iload_n hx hb dX0_weightBetween_42 rfl (lv_at hl 4 rfl) ?_
            refine z_icmp_ne (tgt := 56) hx hb dX0_weightBetween_43 (by decide) (by omega) (by omega) (fun c_7 => ?_) (fun c_7 => ?_)
            ·
              refine lv_iinc (v := iI ((j : Int) + 1)) (lv' := [(4, .int (iI ((j : Int) + 1))), (3, .int (iI s1)), (0, .ref x), (1, .int (iI (i : Int))), (2, .int (iI (o : Int)))]) hx hb dX0_weightBetween_56 hl (k := 0) rfl (iI_add _ _) (by decide) rfl (fun ls hl => ?_)
              refine lv_goto (tgt := 5) hx hb dX0_weightBetween_59 (by decide) ?_
              exact ih5 (j + 1) s1 (by omega) (by omega) (by rw [zs_s, ← hv5_2]; (try dsimp only); split <;> omega) ls (lv_sub hl [0, 1, 2, 3, 4] rfl)
            ·
              refine lv_iload_n hx hb dX0_weightBetween_46 rfl (lv_at hl 1 rfl) ?_
              refine lv_aload_n hx hb dX0_weightBetween_47 rfl (lv_at hl 2 rfl) ?_
              refine x_get (v := .ref (a 4)) hx hb hts hin0 hown hK hP 0 rfl 5 (by decide) w_4 rfl dX0_weightBetween_48 ?_
              refine lv_iload hx hb dX0_weightBetween_51 (lv_at hl 0 rfl) ?_
              refine z_iald (v := iI (σ.2 4 j)) hx hb hK hP 5 0 rfl rfl (k := j) (by omega) (by decide) rfl dX0_weightBetween_53 ?_
              have f_8 := hI.r4 j
              refine z_iadd hx hb dX0_weightBetween_54 ?_
              refine lv_istore_n (lv' := [(3, .int (iI (s1 + (σ.2 4 j)))), (4, .int (iI (j : Int))), (0, .ref x), (1, .int (iI (i : Int))), (2, .int (iI (o : Int)))]) hx hb dX0_weightBetween_55 rfl hl (by decide) rfl (fun ls hl => ?_)
              refine lv_iinc (v := iI ((j : Int) + 1)) (lv' := [(4, .int (iI ((j : Int) + 1))), (3, .int (iI (s1 + (σ.2 4 j)))), (0, .ref x), (1, .int (iI (i : Int))), (2, .int (iI (o : Int)))]) hx hb dX0_weightBetween_56 hl (k := 1) rfl (iI_add _ _) (by decide) rfl (fun ls hl => ?_)
              refine lv_goto (tgt := 5) hx hb dX0_weightBetween_59 (by decide) ?_
              exact ih5 (j + 1) (s1 + (σ.2 4 j)) (by omega) (by omega) (by rw [zs_s, ← hv5_2]; (try dsimp only); split <;> omega) ls (lv_sub hl [0, 1, 2, 3, 4] rfl)
  exact LP5 (σ.1 1 - (0) + 1) 0 0 (by omega) (by omega) (by rfl) ls (lv_sub hl [0, 1, 2, 3, 4] rfl)
set_option maxHeartbeats 4000000 in
set_option maxRecDepth 100000 in
theorem c_X0_balance (l : Launch) (G : zG) (x : Nat) (a : Nat → Nat) (B : Nat) (σ : zS) (i : Nat) (o : Nat) (hI : zI B σ) (hi : i < σ.1 0) (ho : o < σ.1 0) : Met l yX0_balance wsX0_balance ({ frames := 1, cells := 0, slots := 0, locals := 24 } : Room) (va_Pc [.ref x, .int (iI (i : Int)), .int (iI (o : Int))] (pX G x a σ)) (vp_Si (fun r => r = iI (btw σ (i : Int) (o : Int) - btw σ (o : Int) (i : Int)))) 0 0 (fun _ => False) := by
  refine Met.ofW (cc := cX0_balance) (maxL := 3) (ret := (some .int)) (by decide) rfl ?_
  intro pp ee s m args below meth c s₁ B9 hml hv
  obtain ⟨rfl, hP, hK⟩ := hv
  have hx := B9.exec
  have hb := B9.bytes
  have hr := B9.returns
  have hts := atoms_spec (ws := wsX0_balance) B9.pre
  have hown : s.vm.findClass RX0 = some m.cls := findClass_of_methodNamed B9.named
  have hlocks := B9.notSynchronized
  have hin0 : ∀ w ∈ wsX00, w ∈ wsX0_balance := by decide +kernel
  have hl := lv_entry ([.ref x, .int (iI (i : Int)), .int (iI (o : Int))]) (n := 3) (Nat.le_of_ble_eq_true rfl)
  rw [lg_entry_eq]
  generalize (lg_sl ([.ref x, .int (iI (i : Int)), .int (iI (o : Int))]) ++ List.replicate (3 - (lg_sl ([.ref x, .int (iI (i : Int)), .int (iI (o : Int))])).length) Slot.unset).toArray = ls at hl ⊢
  have hl : lv_has ls 3 [(0, .ref x), (1, .int (iI (i : Int))), (2, .int (iI (o : Int)))] := hl
  have hIn := hI.n
  have hIb := hI.b
  refine lv_aload_n hx hb dX0_balance_0 rfl (lv_at hl 0 rfl) ?_
  refine lv_iload_n hx hb dX0_balance_1 rfl (lv_at hl 1 rfl) ?_
  refine zc_v (va_runV (As := [.int (iI (i : Int))]) (rest := []) ⟨hx, hb, hml, hown, hts⟩ (c_X0_requirePerson l G x a σ i (by omega) (by omega)) (cwV 1 hts gX0_balance_X0_requirePerson rfl rfl rfl (by decide +kernel) ⟨Nat.le_of_ble_eq_true rfl, Nat.le_of_ble_eq_true rfl⟩) (preVX hK hP) rfl rfl hl.1 rfl (lv_room (Nat.le_of_ble_eq_true rfl)) dX0_balance_2 ⟨Nat.le_of_ble_eq_true rfl, Nat.le_of_ble_eq_true rfl⟩) ?_
  refine lv_aload_n hx hb dX0_balance_5 rfl (lv_at hl 0 rfl) ?_
  refine lv_iload_n hx hb dX0_balance_6 rfl (lv_at hl 2 rfl) ?_
  refine zc_v (va_runV (As := [.int (iI (o : Int))]) (rest := []) ⟨hx, hb, hml, hown, hts⟩ (c_X0_requirePerson l G x a σ o (by omega) (by omega)) (cwV 1 hts gX0_balance_X0_requirePerson rfl rfl rfl (by decide +kernel) ⟨Nat.le_of_ble_eq_true rfl, Nat.le_of_ble_eq_true rfl⟩) (preVX hK hP) rfl rfl hl.1 rfl (lv_room (Nat.le_of_ble_eq_true rfl)) dX0_balance_7 ⟨Nat.le_of_ble_eq_true rfl, Nat.le_of_ble_eq_true rfl⟩) ?_
  refine lv_aload_n hx hb dX0_balance_10 rfl (lv_at hl 0 rfl) ?_
  refine lv_iload_n hx hb dX0_balance_11 rfl (lv_at hl 1 rfl) ?_
  refine lv_iload_n hx hb dX0_balance_12 rfl (lv_at hl 2 rfl) ?_
  refine zc_i (va_runV (As := [.int (iI (i : Int)), .int (iI (o : Int))]) (rest := []) ⟨hx, hb, hml, hown, hts⟩ (c_X0_weightBetween l G x a B σ i o hI (by omega) (by omega)) (cwV 2 hts gX0_balance_X0_weightBetween rfl rfl rfl (by decide +kernel) ⟨Nat.le_of_ble_eq_true rfl, Nat.le_of_ble_eq_true rfl⟩) (preVX hK hP) rfl rfl hl.1 rfl (lv_room (Nat.le_of_ble_eq_true rfl)) dX0_balance_13 ⟨Nat.le_of_ble_eq_true rfl, Nat.le_of_ble_eq_true rfl⟩) ?_
  have f_1 := btw_bd hI (i : Int) (o : Int)
  refine lv_aload_n hx hb dX0_balance_16 rfl (lv_at hl 0 rfl) ?_
  refine lv_iload_n hx hb dX0_balance_17 rfl (lv_at hl 2 rfl) ?_
  refine lv_iload_n hx hb dX0_balance_18 rfl (lv_at hl 1 rfl) ?_
  refine zc_i (va_runV (As := [.int (iI (o : Int)), .int (iI (i : Int))]) (rest := [.int (iI (btw σ (i : Int) (o : Int)))]) ⟨hx, hb, hml, hown, hts⟩ (c_X0_weightBetween l G x a B σ o i hI (by omega) (by omega)) (cwV 2 hts gX0_balance_X0_weightBetween rfl rfl rfl (by decide +kernel) ⟨Nat.le_of_ble_eq_true rfl, Nat.le_of_ble_eq_true rfl⟩) (preVX hK hP) rfl rfl hl.1 rfl (lv_room (Nat.le_of_ble_eq_true rfl)) dX0_balance_19 ⟨Nat.le_of_ble_eq_true rfl, Nat.le_of_ble_eq_true rfl⟩) ?_
  have f_2 := btw_bd hI (i : Int) (i : Int)
  refine z_isub hx hb dX0_balance_22 ?_
  refine z_re (v' := iI (btw σ (i : Int) (o : Int) - btw σ (o : Int) (i : Int))) (congrArg iI (by rfl)) ?_
  exact W.iret hx hb hr (fun t ht _ => ⟨_, rfl, rfl, ht⟩) (fun q hq => absurd hq List.not_mem_nil) dX0_balance_23
set_option maxHeartbeats 4000000 in
set_option maxRecDepth 100000 in
theorem c_X0_witnessesFor (l : Launch) (G : zG) (x : Nat) (a : Nat → Nat) (B : Nat) (σ : zS) (k : Nat) (hI : zI B σ) (hk : k < σ.1 1) : Met l yX0_witnessesFor wsX0_witnessesFor ({ frames := 1, cells := 0, slots := 0, locals := 21 } : Room) (va_Pc [.ref x, .int (iI (k : Int))] (pX G x a σ)) (vp_Si (fun r => r = iI (wit σ k))) 0 0 (fun _ => False) := by
  refine Met.ofW (cc := cX0_witnessesFor) (maxL := 4) (ret := (some .int)) (by decide) rfl ?_
  intro pp ee s m args below meth c s₁ B9 hml hv
  obtain ⟨rfl, hP, hK⟩ := hv
  have hx := B9.exec
  have hb := B9.bytes
  have hr := B9.returns
  have hts := atoms_spec (ws := wsX0_witnessesFor) B9.pre
  have hown : s.vm.findClass RX0 = some m.cls := findClass_of_methodNamed B9.named
  have hlocks := B9.notSynchronized
  have hin0 : ∀ w ∈ wsX00, w ∈ wsX0_witnessesFor := by decide +kernel
  have w_0 := hts (.fieldLink RX0 39 "ApologyLedger" "personCount" "I") (by decide +kernel)
  have w_1 := hts (.fieldLink RX0 13 "ApologyLedger" "present" "[Z") (by decide +kernel)
  have w_2 := hts (.fieldLink RX0 17 "ApologyLedger" "offenders" "[I") (by decide +kernel)
  have w_3 := hts (.fieldLink RX0 20 "ApologyLedger" "offendedOnes" "[I") (by decide +kernel)
  have hl := lv_entry ([.ref x, .int (iI (k : Int))]) (n := 4) (Nat.le_of_ble_eq_true rfl)
  rw [lg_entry_eq]
  generalize (lg_sl ([.ref x, .int (iI (k : Int))]) ++ List.replicate (4 - (lg_sl ([.ref x, .int (iI (k : Int))])).length) Slot.unset).toArray = ls at hl ⊢
  have hl : lv_has ls 4 [(0, .ref x), (1, .int (iI (k : Int)))] := hl
  have hIn := hI.n
  have hIb := hI.b
  refine lv_aload_n hx hb dX0_witnessesFor_0 rfl (lv_at hl 0 rfl) ?_
  refine lv_iload_n hx hb dX0_witnessesFor_1 rfl (lv_at hl 1 rfl) ?_
  refine zc_v (va_runV (As := [.int (iI (k : Int))]) (rest := []) ⟨hx, hb, hml, hown, hts⟩ (c_X0_requireSlight l G x a σ k (by omega) (by omega)) (cwV 1 hts gX0_witnessesFor_X0_requireSlight rfl rfl rfl (by decide +kernel) ⟨Nat.le_of_ble_eq_true rfl, Nat.le_of_ble_eq_true rfl⟩) (preVX hK hP) rfl rfl hl.1 rfl (lv_room (Nat.le_of_ble_eq_true rfl)) dX0_witnessesFor_2 ⟨Nat.le_of_ble_eq_true rfl, Nat.le_of_ble_eq_true rfl⟩) ?_
  refine lv_iconst (v := iI 0) hx hb dX0_witnessesFor_5 rfl ?_
  refine lv_istore_n (lv' := [(2, .int (iI 0)), (0, .ref x), (1, .int (iI (k : Int)))]) hx hb dX0_witnessesFor_6 rfl hl (by decide) rfl (fun ls hl => ?_)
  refine lv_iconst (v := iI 0) hx hb dX0_witnessesFor_7 rfl ?_
  refine lv_istore_n (lv' := [(3, .int (iI 0)), (2, .int (iI 0)), (0, .ref x), (1, .int (iI (k : Int)))]) hx hb dX0_witnessesFor_8 rfl hl (by decide) rfl (fun ls hl => ?_)
  have LP9 : ∀ (r9 : Nat) (j : Nat) (s1 : Int), j ≤ σ.1 0 → σ.1 0 - j < r9 → s1 = zs (fun p => if σ.2 1 p = 1 ∧ (p : Int) ≠ σ.2 2 k ∧ (p : Int) ≠ σ.2 3 k then 1 else 0) j → ∀ (ls : Array Slot), lv_has ls 4 [(3, .int (iI (j : Int))), (2, .int (iI s1)), (0, .ref x), (1, .int (iI (k : Int)))] → W pp l ee (headSpec wsX0_witnessesFor ({ frames := 1, cells := 0, slots := 0, locals := 21 } : Room)).room s m ([.ref x, .int (iI (k : Int))] : List Value).toArray below meth c s.heap [] 0 0 (MQ below (vp_Si (fun r => r = iI (wit σ k))) ([.ref x, .int (iI (k : Int))] : List Value).toArray s 0 0 (fun _ => False)) (F0 m 9 ls []) := by
    intro r9
    induction r9 with
    | zero => intro j s1 hv9_0 hv9_1; exfalso; omega
    | succ r9 ih9 =>
      intro j s1 hv9_0 hv9_1 hv9_2 ls hl
      refine lv_iload_n hx hb dX0_witnessesFor_9 rfl (lv_at hl 0 rfl) ?_
      refine lv_aload_n hx hb dX0_witnessesFor_10 rfl (lv_at hl 2 rfl) ?_
      refine x_get (v := .int (iI (σ.1 0 : Nat))) hx hb hts hin0 hown hK hP 0 rfl 2 (by decide) w_0 rfl dX0_witnessesFor_11 ?_
      refine z_icmp_ge (tgt := 55) hx hb dX0_witnessesFor_14 (by decide) (by omega) (by omega) (fun c_1 => ?_) (fun c_1 => ?_)
      ·
        refine lv_iload_n hx hb dX0_witnessesFor_55 rfl (lv_at hl 1 rfl) ?_
        refine z_re (v' := iI (wit σ k)) (congrArg iI (by rw [hv9_2, show j = σ.1 0 from by omega]; rfl)) ?_
        exact W.iret hx hb hr (fun t ht _ => ⟨_, rfl, rfl, ht⟩) (fun q hq => absurd hq List.not_mem_nil) dX0_witnessesFor_56
      ·
        refine lv_aload_n hx hb dX0_witnessesFor_17 rfl (lv_at hl 2 rfl) ?_
        refine x_get (v := .ref (a 1)) hx hb hts hin0 hown hK hP 0 rfl 1 (by decide) w_1 rfl dX0_witnessesFor_18 ?_
        refine lv_iload_n hx hb dX0_witnessesFor_21 rfl (lv_at hl 0 rfl) ?_
        refine z_zald (v := iI (σ.2 1 j)) hx hb hK hP 2 1 rfl rfl (k := j) (by omega) (by decide) rfl dX0_witnessesFor_22 ?_
        have f_2 := hI.r1 j
        refine z_if_eq (tgt := 49) hx hb dX0_witnessesFor_23 (by decide) (by omega) (fun c_3 => ?_) (fun c_3 => ?_)
        ·
          refine lv_iinc (v := iI ((j : Int) + 1)) (lv' := [(3, .int (iI ((j : Int) + 1))), (2, .int (iI s1)), (0, .ref x), (1, .int (iI (k : Int)))]) hx hb dX0_witnessesFor_49 hl (k := 0) rfl (iI_add _ _) (by decide) rfl (fun ls hl => ?_)
          refine lv_goto (tgt := 9) hx hb dX0_witnessesFor_52 (by decide) ?_
          exact ih9 (j + 1) s1 (by omega) (by omega) (by rw [zs_s, ← hv9_2]; (try dsimp only); split <;> omega) ls (lv_sub hl [0, 1, 2, 3] rfl)
        ·
          refine lv_iload_n hx hb dX0_witnessesFor_26 rfl (lv_at hl 0 rfl) ?_
          refine lv_aload_n hx hb dX0_witnessesFor_27 rfl (lv_at hl 2 rfl) ?_
          refine x_get (v := .ref (a 2)) hx hb hts hin0 hown hK hP 0 rfl 3 (by decide) w_2 rfl dX0_witnessesFor_28 ?_
          refine lv_iload_n hx hb dX0_witnessesFor_31 rfl (lv_at hl 3 rfl) ?_
          refine z_iald (v := iI (σ.2 2 k)) hx hb hK hP 3 0 rfl rfl (k := k) (by omega) (by decide) rfl dX0_witnessesFor_32 ?_
          have f_4 := hI.r2 (k := k) (by omega)
          refine z_icmp_eq (tgt := 49) hx hb dX0_witnessesFor_33 (by decide) (by omega) (by omega) (fun c_5 => ?_) (fun c_5 => ?_)
          ·
            refine lv_iinc (v := iI ((j : Int) + 1)) (lv' := [(3, .int (iI ((j : Int) + 1))), (2, .int (iI s1)), (0, .ref x), (1, .int (iI (k : Int)))]) hx hb dX0_witnessesFor_49 hl (k := 0) rfl (iI_add _ _) (by decide) rfl (fun ls hl => ?_)
            refine lv_goto (tgt := 9) hx hb dX0_witnessesFor_52 (by decide) ?_
            exact ih9 (j + 1) s1 (by omega) (by omega) (by rw [zs_s, ← hv9_2]; (try dsimp only); split <;> omega) ls (lv_sub hl [0, 1, 2, 3] rfl)
          ·
            refine lv_iload_n hx hb dX0_witnessesFor_36 rfl (lv_at hl 0 rfl) ?_
            refine lv_aload_n hx hb dX0_witnessesFor_37 rfl (lv_at hl 2 rfl) ?_
            refine x_get (v := .ref (a 3)) hx hb hts hin0 hown hK hP 0 rfl 4 (by decide) w_3 rfl dX0_witnessesFor_38 ?_
            refine lv_iload_n hx hb dX0_witnessesFor_41 rfl (lv_at hl 3 rfl) ?_
            refine z_iald (v := iI (σ.2 3 k)) hx hb hK hP 4 0 rfl rfl (k := k) (by omega) (by decide) rfl dX0_witnessesFor_42 ?_
            have f_6 := hI.r3 (k := k) (by omega)
            refine z_icmp_eq (tgt := 49) hx hb dX0_witnessesFor_43 (by decide) (by omega) (by omega) (fun c_7 => ?_) (fun c_7 => ?_)
            ·
              refine lv_iinc (v := iI ((j : Int) + 1)) (lv' := [(3, .int (iI ((j : Int) + 1))), (2, .int (iI s1)), (0, .ref x), (1, .int (iI (k : Int)))]) hx hb dX0_witnessesFor_49 hl (k := 0) rfl (iI_add _ _) (by decide) rfl (fun ls hl => ?_)
              refine lv_goto (tgt := 9) hx hb dX0_witnessesFor_52 (by decide) ?_
              exact ih9 (j + 1) s1 (by omega) (by omega) (by rw [zs_s, ← hv9_2]; (try dsimp only); split <;> omega) ls (lv_sub hl [0, 1, 2, 3] rfl)
            ·
              refine lv_iinc (v := iI (s1 + 1)) (lv' := [(2, .int (iI (s1 + 1))), (3, .int (iI (j : Int))), (0, .ref x), (1, .int (iI (k : Int)))]) hx hb dX0_witnessesFor_46 hl (k := 1) rfl (iI_add _ _) (by decide) rfl (fun ls hl => ?_)
              refine lv_iinc (v := iI ((j : Int) + 1)) (lv' := [(3, .int (iI ((j : Int) + 1))), (2, .int (iI (s1 + 1))), (0, .ref x), (1, .int (iI (k : Int)))]) hx hb dX0_witnessesFor_49 hl (k := 1) rfl (iI_add _ _) (by decide) rfl (fun ls hl => ?_)
              refine lv_goto (tgt := 9) hx hb dX0_witnessesFor_52 (by decide) ?_
              exact ih9 (j + 1) (s1 + 1) (by omega) (by omega) (by rw [zs_s, ← hv9_2]; (try dsimp only); split <;> omega) ls (lv_sub hl [0, 1, 2, 3] rfl)
  exact LP9 (σ.1 0 - (0) + 1) 0 0 (by omega) (by omega) (by rfl) ls (lv_sub hl [0, 1, 2, 3] rfl)
set_option maxHeartbeats 4000000 in
set_option maxRecDepth 100000 in
theorem c_X0_inState (l : Launch) (G : zG) (x : Nat) (a : Nat → Nat) (B : Nat) (σ : zS) (z : Int) (hI : zI B σ) (hz : 0 ≤ z ∧ z ≤ 3) : Met l yX0_inState wsX0_inState ({ frames := 0, cells := 0, slots := 0, locals := 0 } : Room) (va_Pc [.ref x, .int (iI z)] (pX G x a σ)) (vp_Si (fun r => r = iI (cnt σ z))) 0 0 (fun _ => False) := by
  refine Met.ofW (cc := cX0_inState) (maxL := 4) (ret := (some .int)) (by decide) rfl ?_
  intro pp ee s m args below meth c s₁ B9 hml hv
  obtain ⟨rfl, hP, hK⟩ := hv
  have hx := B9.exec
  have hb := B9.bytes
  have hr := B9.returns
  have hts := atoms_spec (ws := wsX0_inState) B9.pre
  have hown : s.vm.findClass RX0 = some m.cls := findClass_of_methodNamed B9.named
  have hlocks := B9.notSynchronized
  have hin0 : ∀ w ∈ wsX00, w ∈ wsX0_inState := by decide +kernel
  have w_0 := hts (.fieldLink RX0 60 "ApologyLedger" "slightCount" "I") (by decide +kernel)
  have w_1 := hts (.fieldLink RX0 26 "ApologyLedger" "states" "[I") (by decide +kernel)
  have hl := lv_entry ([.ref x, .int (iI z)]) (n := 4) (Nat.le_of_ble_eq_true rfl)
  rw [lg_entry_eq]
  generalize (lg_sl ([.ref x, .int (iI z)]) ++ List.replicate (4 - (lg_sl ([.ref x, .int (iI z)])).length) Slot.unset).toArray = ls at hl ⊢
  have hl : lv_has ls 4 [(0, .ref x), (1, .int (iI z))] := hl
  have hIn := hI.n
  have hIb := hI.b
  refine lv_iload_n hx hb dX0_inState_0 rfl (lv_at hl 1 rfl) ?_
  refine z_if_lt (tgt := 9) hx hb dX0_inState_1 (by decide) (by omega) (fun c_1 => ?_) (fun c_1 => ?_)
  ·
    exfalso
    omega
  ·
    refine lv_iload_n hx hb dX0_inState_4 rfl (lv_at hl 1 rfl) ?_
    refine lv_iconst (v := iI 3) hx hb dX0_inState_5 rfl ?_
    refine z_icmp_le (tgt := 19) hx hb dX0_inState_6 (by decide) (by omega) (by omega) (fun c_2 => ?_) (fun c_2 => ?_)
    ·
      refine lv_iconst (v := iI 0) hx hb dX0_inState_19 rfl ?_
      refine lv_istore_n (lv' := [(2, .int (iI 0)), (0, .ref x), (1, .int (iI z))]) hx hb dX0_inState_20 rfl hl (by decide) rfl (fun ls hl => ?_)
      refine lv_iconst (v := iI 0) hx hb dX0_inState_21 rfl ?_
      refine lv_istore_n (lv' := [(3, .int (iI 0)), (2, .int (iI 0)), (0, .ref x), (1, .int (iI z))]) hx hb dX0_inState_22 rfl hl (by decide) rfl (fun ls hl => ?_)
      have LP23 : ∀ (r23 : Nat) (j : Nat) (s1 : Int), j ≤ σ.1 1 → σ.1 1 - j < r23 → s1 = zs (fun k => if σ.2 5 k = z then 1 else 0) j → ∀ (ls : Array Slot), lv_has ls 4 [(3, .int (iI (j : Int))), (2, .int (iI s1)), (0, .ref x), (1, .int (iI z))] → W pp l ee (headSpec wsX0_inState ({ frames := 0, cells := 0, slots := 0, locals := 0 } : Room)).room s m ([.ref x, .int (iI z)] : List Value).toArray below meth c s.heap [] 0 0 (MQ below (vp_Si (fun r => r = iI (cnt σ z))) ([.ref x, .int (iI z)] : List Value).toArray s 0 0 (fun _ => False)) (F0 m 23 ls []) := by
        intro r23
        induction r23 with
        | zero => intro j s1 hv23_0 hv23_1; exfalso; omega
        | succ r23 ih23 =>
          intro j s1 hv23_0 hv23_1 hv23_2 ls hl
          refine lv_iload_n hx hb dX0_inState_23 rfl (lv_at hl 0 rfl) ?_
          refine lv_aload_n hx hb dX0_inState_24 rfl (lv_at hl 2 rfl) ?_
          refine x_get (v := .int (iI (σ.1 1 : Nat))) hx hb hts hin0 hown hK hP 0 rfl 9 (by decide) w_0 rfl dX0_inState_25 ?_
          refine z_icmp_ge (tgt := 50) hx hb dX0_inState_28 (by decide) (by omega) (by omega) (fun c_3 => ?_) (fun c_3 => ?_)
          ·
            refine lv_iload_n hx hb dX0_inState_50 rfl (lv_at hl 1 rfl) ?_
            refine z_re (v' := iI (cnt σ z)) (congrArg iI (by rw [hv23_2, show j = σ.1 1 from by omega]; rfl)) ?_
            exact W.iret hx hb hr (fun t ht _ => ⟨_, rfl, rfl, ht⟩) (fun q hq => absurd hq List.not_mem_nil) dX0_inState_51
          ·
            refine lv_aload_n hx hb dX0_inState_31 rfl (lv_at hl 2 rfl) ?_
            refine x_get (v := .ref (a 5)) hx hb hts hin0 hown hK hP 0 rfl 6 (by decide) w_1 rfl dX0_inState_32 ?_
            refine lv_iload_n hx hb dX0_inState_35 rfl (lv_at hl 0 rfl) ?_
            refine z_iald (v := iI (σ.2 5 j)) hx hb hK hP 6 0 rfl rfl (k := j) (by omega) (by decide) rfl dX0_inState_36 ?_
            have f_4 := hI.r5 j
            refine lv_iload_n hx hb dX0_inState_37 rfl (lv_at hl 3 rfl) ?_
            refine z_icmp_ne (tgt := 44) hx hb dX0_inState_38 (by decide) (by omega) (by omega) (fun c_5 => ?_) (fun c_5 => ?_)
            ·
              refine lv_iinc (v := iI ((j : Int) + 1)) (lv' := [(3, .int (iI ((j : Int) + 1))), (2, .int (iI s1)), (0, .ref x), (1, .int (iI z))]) hx hb dX0_inState_44 hl (k := 0) rfl (iI_add _ _) (by decide) rfl (fun ls hl => ?_)
              refine lv_goto (tgt := 23) hx hb dX0_inState_47 (by decide) ?_
              exact ih23 (j + 1) s1 (by omega) (by omega) (by rw [zs_s, ← hv23_2]; (try dsimp only); split <;> omega) ls (lv_sub hl [0, 1, 2, 3] rfl)
            ·
              refine lv_iinc (v := iI (s1 + 1)) (lv' := [(2, .int (iI (s1 + 1))), (3, .int (iI (j : Int))), (0, .ref x), (1, .int (iI z))]) hx hb dX0_inState_41 hl (k := 1) rfl (iI_add _ _) (by decide) rfl (fun ls hl => ?_)
              refine lv_iinc (v := iI ((j : Int) + 1)) (lv' := [(3, .int (iI ((j : Int) + 1))), (2, .int (iI (s1 + 1))), (0, .ref x), (1, .int (iI z))]) hx hb dX0_inState_44 hl (k := 1) rfl (iI_add _ _) (by decide) rfl (fun ls hl => ?_)
              refine lv_goto (tgt := 23) hx hb dX0_inState_47 (by decide) ?_
              exact ih23 (j + 1) (s1 + 1) (by omega) (by omega) (by rw [zs_s, ← hv23_2]; (try dsimp only); split <;> omega) ls (lv_sub hl [0, 1, 2, 3] rfl)
      exact LP23 (σ.1 1 - (0) + 1) 0 0 (by omega) (by omega) (by rfl) ls (lv_sub hl [0, 1, 2, 3] rfl)
    ·
      exfalso
      omega
set_option maxHeartbeats 4000000 in
set_option maxRecDepth 100000 in
theorem c_X0_sorest (l : Launch) (G : zG) (x : Nat) (a : Nat → Nat) (B : Nat) (σ : zS) (hI : zI B σ) : Met l yX0_sorest wsX0_sorest ({ frames := 2, cells := 0, slots := 0, locals := 44 } : Room) (va_Pc [.ref x] (pX G x a σ)) (vp_Si (fun r => r = iI (sor σ))) 0 0 (fun _ => False) := by
  refine Met.ofW (cc := cX0_sorest) (maxL := 5) (ret := (some .int)) (by decide) rfl ?_
  intro pp ee s m args below meth c s₁ B9 hml hv
  obtain ⟨rfl, hP, hK⟩ := hv
  have hx := B9.exec
  have hb := B9.bytes
  have hr := B9.returns
  have hts := atoms_spec (ws := wsX0_sorest) B9.pre
  have hown : s.vm.findClass RX0 = some m.cls := findClass_of_methodNamed B9.named
  have hlocks := B9.notSynchronized
  have hin0 : ∀ w ∈ wsX00, w ∈ wsX0_sorest := by decide +kernel
  have w_0 := hts (.fieldLink RX0 39 "ApologyLedger" "personCount" "I") (by decide +kernel)
  have hl := lv_entry ([.ref x]) (n := 5) (Nat.le_of_ble_eq_true rfl)
  rw [lg_entry_eq]
  generalize (lg_sl ([.ref x]) ++ List.replicate (5 - (lg_sl ([.ref x])).length) Slot.unset).toArray = ls at hl ⊢
  have hl : lv_has ls 5 [(0, .ref x)] := hl
  have hIn := hI.n
  have hIb := hI.b
  refine lv_iconst (v := iI (-1)) hx hb dX0_sorest_0 rfl ?_
  refine lv_istore_n (lv' := [(1, .int (iI (-1))), (0, .ref x)]) hx hb dX0_sorest_1 rfl hl (by decide) rfl (fun ls hl => ?_)
  refine lv_iconst (v := iI (-1)) hx hb dX0_sorest_2 rfl ?_
  refine lv_istore_n (lv' := [(2, .int (iI (-1))), (1, .int (iI (-1))), (0, .ref x)]) hx hb dX0_sorest_3 rfl hl (by decide) rfl (fun ls hl => ?_)
  refine lv_iconst (v := iI 0) hx hb dX0_sorest_4 rfl ?_
  refine lv_istore_n (lv' := [(3, .int (iI 0)), (2, .int (iI (-1))), (1, .int (iI (-1))), (0, .ref x)]) hx hb dX0_sorest_5 rfl hl (by decide) rfl (fun ls hl => ?_)
  have LP6 : ∀ (r6 : Nat) (j : Nat) (s1 : Int) (s2 : Int), j ≤ σ.1 0 → σ.1 0 - j < r6 → s1 = arg (fun _ => True) (fun p => bor σ p) j → (s1 = -1 ∧ s2 = -1) ∨ (s1 ≠ -1 ∧ s2 = bor σ (s1.toNat : Int)) → ∀ (ls : Array Slot), lv_has ls 5 [(3, .int (iI (j : Int))), (2, .int (iI s2)), (1, .int (iI s1)), (0, .ref x)] → W pp l ee (headSpec wsX0_sorest ({ frames := 2, cells := 0, slots := 0, locals := 44 } : Room)).room s m ([.ref x] : List Value).toArray below meth c s.heap [] 0 0 (MQ below (vp_Si (fun r => r = iI (sor σ))) ([.ref x] : List Value).toArray s 0 0 (fun _ => False)) (F0 m 6 ls []) := by
    intro r6
    induction r6 with
    | zero => intro j s1 s2 hv6_0 hv6_1; exfalso; omega
    | succ r6 ih6 =>
      intro j s1 s2 hv6_0 hv6_1 hv6_2 hv6_3 ls hl
      have f_1 := bor_bd hI (s1.toNat : Int)
      have f_2 := bor_bd hI (j : Int)
      refine lv_iload_n hx hb dX0_sorest_6 rfl (lv_at hl 0 rfl) ?_
      refine lv_aload_n hx hb dX0_sorest_7 rfl (lv_at hl 3 rfl) ?_
      refine x_get (v := .int (iI (σ.1 0 : Nat))) hx hb hts hin0 hown hK hP 0 rfl 2 (by decide) w_0 rfl dX0_sorest_8 ?_
      refine z_icmp_ge (tgt := 38) hx hb dX0_sorest_11 (by decide) (by omega) (by omega) (fun c_3 => ?_) (fun c_3 => ?_)
      ·
        refine lv_iload_n hx hb dX0_sorest_38 rfl (lv_at hl 2 rfl) ?_
        refine z_re (v' := iI (sor σ)) (congrArg iI (by rw [hv6_2, show j = σ.1 0 from by omega]; rfl)) ?_
        exact W.iret hx hb hr (fun t ht _ => ⟨_, rfl, rfl, ht⟩) (fun q hq => absurd hq List.not_mem_nil) dX0_sorest_39
      ·
        refine lv_aload_n hx hb dX0_sorest_14 rfl (lv_at hl 3 rfl) ?_
        refine lv_iload_n hx hb dX0_sorest_15 rfl (lv_at hl 0 rfl) ?_
        refine zc_i (va_runV (As := [.int (iI (j : Int))]) (rest := []) ⟨hx, hb, hml, hown, hts⟩ (c_X0_borneBy l G x a B σ j hI (by omega)) (cwV 1 hts gX0_sorest_X0_borneBy rfl rfl rfl (by decide +kernel) ⟨Nat.le_of_ble_eq_true rfl, Nat.le_of_ble_eq_true rfl⟩) (preVX hK hP) rfl rfl hl.1 rfl (lv_room (Nat.le_of_ble_eq_true rfl)) dX0_sorest_16 ⟨Nat.le_of_ble_eq_true rfl, Nat.le_of_ble_eq_true rfl⟩) ?_
        have f_4 := bor_bd hI (j : Int)
        refine lv_istore (lv' := [(4, .int (iI (bor σ (j : Int)))), (3, .int (iI (j : Int))), (2, .int (iI s2)), (1, .int (iI s1)), (0, .ref x)]) hx hb dX0_sorest_19 hl (by decide) rfl (fun ls hl => ?_)
        refine lv_iload hx hb dX0_sorest_21 (lv_at hl 0 rfl) ?_
        refine lv_iload_n hx hb dX0_sorest_23 rfl (lv_at hl 2 rfl) ?_
        refine z_icmp_le (tgt := 32) hx hb dX0_sorest_24 (by decide) (by omega) (by omega) (fun c_5 => ?_) (fun c_5 => ?_)
        ·
          refine lv_iinc (v := iI ((j : Int) + 1)) (lv' := [(3, .int (iI ((j : Int) + 1))), (4, .int (iI (bor σ (j : Int)))), (2, .int (iI s2)), (1, .int (iI s1)), (0, .ref x)]) hx hb dX0_sorest_32 hl (k := 1) rfl (iI_add _ _) (by decide) rfl (fun ls hl => ?_)
          refine lv_goto (tgt := 6) hx hb dX0_sorest_35 (by decide) ?_
          exact ih6 (j + 1) s1 s2 (by omega) (by omega) (by rw [arg_s, ← hv6_2]; (try dsimp only); simp only [true_and]; split <;> omega) (by first | omega | (right; exact ⟨by omega, by simp⟩)) ls (lv_sub hl [0, 2, 3, 4] rfl)
        ·
          refine lv_iload_n hx hb dX0_sorest_27 rfl (lv_at hl 1 rfl) ?_
          refine lv_istore_n (lv' := [(1, .int (iI (j : Int))), (4, .int (iI (bor σ (j : Int)))), (3, .int (iI (j : Int))), (2, .int (iI s2)), (0, .ref x)]) hx hb dX0_sorest_28 rfl hl (by decide) rfl (fun ls hl => ?_)
          refine lv_iload hx hb dX0_sorest_29 (lv_at hl 1 rfl) ?_
          refine lv_istore_n (lv' := [(2, .int (iI (bor σ (j : Int)))), (1, .int (iI (j : Int))), (4, .int (iI (bor σ (j : Int)))), (3, .int (iI (j : Int))), (0, .ref x)]) hx hb dX0_sorest_31 rfl hl (by decide) rfl (fun ls hl => ?_)
          refine lv_iinc (v := iI ((j : Int) + 1)) (lv' := [(3, .int (iI ((j : Int) + 1))), (2, .int (iI (bor σ (j : Int)))), (1, .int (iI (j : Int))), (4, .int (iI (bor σ (j : Int)))), (0, .ref x)]) hx hb dX0_sorest_32 hl (k := 3) rfl (iI_add _ _) (by decide) rfl (fun ls hl => ?_)
          refine lv_goto (tgt := 6) hx hb dX0_sorest_35 (by decide) ?_
          exact ih6 (j + 1) (j : Int) (bor σ (j : Int)) (by omega) (by omega) (by rw [arg_s, ← hv6_2]; (try dsimp only); simp only [true_and]; split <;> omega) (by first | omega | (right; exact ⟨by omega, by simp⟩)) ls (lv_sub hl [0, 1, 2, 4] rfl)
  exact LP6 (σ.1 0 - (0) + 1) 0 (-1) (-1) (by omega) (by omega) (by rfl) (by left; exact ⟨rfl, rfl⟩) ls (lv_sub hl [0, 1, 2, 3] rfl)
set_option maxHeartbeats 4000000 in
set_option maxRecDepth 100000 in
theorem c_X0_heaviest (l : Launch) (G : zG) (x : Nat) (a : Nat → Nat) (B : Nat) (σ : zS) (hI : zI B σ) : Met l yX0_heaviest wsX0_heaviest ({ frames := 0, cells := 0, slots := 0, locals := 0 } : Room) (va_Pc [.ref x] (pX G x a σ)) (vp_Si (fun r => r = iI (hea σ))) 0 0 (fun _ => False) := by
  refine Met.ofW (cc := cX0_heaviest) (maxL := 4) (ret := (some .int)) (by decide) rfl ?_
  intro pp ee s m args below meth c s₁ B9 hml hv
  obtain ⟨rfl, hP, hK⟩ := hv
  have hx := B9.exec
  have hb := B9.bytes
  have hr := B9.returns
  have hts := atoms_spec (ws := wsX0_heaviest) B9.pre
  have hown : s.vm.findClass RX0 = some m.cls := findClass_of_methodNamed B9.named
  have hlocks := B9.notSynchronized
  have hin0 : ∀ w ∈ wsX00, w ∈ wsX0_heaviest := by decide +kernel
  have w_0 := hts (.fieldLink RX0 60 "ApologyLedger" "slightCount" "I") (by decide +kernel)
  have w_1 := hts (.fieldLink RX0 26 "ApologyLedger" "states" "[I") (by decide +kernel)
  have w_2 := hts (.fieldLink RX0 23 "ApologyLedger" "weights" "[I") (by decide +kernel)
  have hl := lv_entry ([.ref x]) (n := 4) (Nat.le_of_ble_eq_true rfl)
  rw [lg_entry_eq]
  generalize (lg_sl ([.ref x]) ++ List.replicate (4 - (lg_sl ([.ref x])).length) Slot.unset).toArray = ls at hl ⊢
  have hl : lv_has ls 4 [(0, .ref x)] := hl
  have hIn := hI.n
  have hIb := hI.b
  refine lv_iconst (v := iI (-1)) hx hb dX0_heaviest_0 rfl ?_
  refine lv_istore_n (lv' := [(1, .int (iI (-1))), (0, .ref x)]) hx hb dX0_heaviest_1 rfl hl (by decide) rfl (fun ls hl => ?_)
  refine lv_iconst (v := iI (-1)) hx hb dX0_heaviest_2 rfl ?_
  refine lv_istore_n (lv' := [(2, .int (iI (-1))), (1, .int (iI (-1))), (0, .ref x)]) hx hb dX0_heaviest_3 rfl hl (by decide) rfl (fun ls hl => ?_)
  refine lv_iconst (v := iI 0) hx hb dX0_heaviest_4 rfl ?_
  refine lv_istore_n (lv' := [(3, .int (iI 0)), (2, .int (iI (-1))), (1, .int (iI (-1))), (0, .ref x)]) hx hb dX0_heaviest_5 rfl hl (by decide) rfl (fun ls hl => ?_)
  have LP6 : ∀ (r6 : Nat) (j : Nat) (s1 : Int) (s2 : Int), j ≤ σ.1 1 → σ.1 1 - j < r6 → s1 = arg (fun k => σ.2 5 k = 0) (fun k => σ.2 4 k) j → (s1 = -1 ∧ s2 = -1) ∨ (s1 ≠ -1 ∧ s2 = σ.2 4 s1.toNat) → ∀ (ls : Array Slot), lv_has ls 4 [(3, .int (iI (j : Int))), (2, .int (iI s2)), (1, .int (iI s1)), (0, .ref x)] → W pp l ee (headSpec wsX0_heaviest ({ frames := 0, cells := 0, slots := 0, locals := 0 } : Room)).room s m ([.ref x] : List Value).toArray below meth c s.heap [] 0 0 (MQ below (vp_Si (fun r => r = iI (hea σ))) ([.ref x] : List Value).toArray s 0 0 (fun _ => False)) (F0 m 6 ls []) := by
    intro r6
    induction r6 with
    | zero => intro j s1 s2 hv6_0 hv6_1; exfalso; omega
    | succ r6 ih6 =>
      intro j s1 s2 hv6_0 hv6_1 hv6_2 hv6_3 ls hl
      have f_1 := hI.r4 s1.toNat
      refine lv_iload_n hx hb dX0_heaviest_6 rfl (lv_at hl 0 rfl) ?_
      refine lv_aload_n hx hb dX0_heaviest_7 rfl (lv_at hl 3 rfl) ?_
      refine x_get (v := .int (iI (σ.1 1 : Nat))) hx hb hts hin0 hown hK hP 0 rfl 9 (by decide) w_0 rfl dX0_heaviest_8 ?_
      refine z_icmp_ge (tgt := 48) hx hb dX0_heaviest_11 (by decide) (by omega) (by omega) (fun c_2 => ?_) (fun c_2 => ?_)
      ·
        refine lv_iload_n hx hb dX0_heaviest_48 rfl (lv_at hl 2 rfl) ?_
        refine z_re (v' := iI (hea σ)) (congrArg iI (by rw [hv6_2, show j = σ.1 1 from by omega]; rfl)) ?_
        exact W.iret hx hb hr (fun t ht _ => ⟨_, rfl, rfl, ht⟩) (fun q hq => absurd hq List.not_mem_nil) dX0_heaviest_49
      ·
        refine lv_aload_n hx hb dX0_heaviest_14 rfl (lv_at hl 3 rfl) ?_
        refine x_get (v := .ref (a 5)) hx hb hts hin0 hown hK hP 0 rfl 6 (by decide) w_1 rfl dX0_heaviest_15 ?_
        refine lv_iload_n hx hb dX0_heaviest_18 rfl (lv_at hl 0 rfl) ?_
        refine z_iald (v := iI (σ.2 5 j)) hx hb hK hP 6 0 rfl rfl (k := j) (by omega) (by decide) rfl dX0_heaviest_19 ?_
        have f_3 := hI.r5 j
        refine z_if_ne (tgt := 42) hx hb dX0_heaviest_20 (by decide) (by omega) (fun c_4 => ?_) (fun c_4 => ?_)
        ·
          refine lv_iinc (v := iI ((j : Int) + 1)) (lv' := [(3, .int (iI ((j : Int) + 1))), (2, .int (iI s2)), (1, .int (iI s1)), (0, .ref x)]) hx hb dX0_heaviest_42 hl (k := 0) rfl (iI_add _ _) (by decide) rfl (fun ls hl => ?_)
          refine lv_goto (tgt := 6) hx hb dX0_heaviest_45 (by decide) ?_
          exact ih6 (j + 1) s1 s2 (by omega) (by omega) (by rw [arg_s, ← hv6_2]; (try dsimp only); split <;> omega) (by first | omega | (right; exact ⟨by omega, by simp⟩)) ls (lv_sub hl [0, 1, 2, 3] rfl)
        ·
          refine lv_aload_n hx hb dX0_heaviest_23 rfl (lv_at hl 3 rfl) ?_
          refine x_get (v := .ref (a 4)) hx hb hts hin0 hown hK hP 0 rfl 5 (by decide) w_2 rfl dX0_heaviest_24 ?_
          refine lv_iload_n hx hb dX0_heaviest_27 rfl (lv_at hl 0 rfl) ?_
          refine z_iald (v := iI (σ.2 4 j)) hx hb hK hP 5 0 rfl rfl (k := j) (by omega) (by decide) rfl dX0_heaviest_28 ?_
          have f_5 := hI.r4 j
          refine lv_iload_n hx hb dX0_heaviest_29 rfl (lv_at hl 1 rfl) ?_
          refine z_icmp_le (tgt := 42) hx hb dX0_heaviest_30 (by decide) (by omega) (by omega) (fun c_6 => ?_) (fun c_6 => ?_)
          ·
            refine lv_iinc (v := iI ((j : Int) + 1)) (lv' := [(3, .int (iI ((j : Int) + 1))), (2, .int (iI s2)), (1, .int (iI s1)), (0, .ref x)]) hx hb dX0_heaviest_42 hl (k := 0) rfl (iI_add _ _) (by decide) rfl (fun ls hl => ?_)
            refine lv_goto (tgt := 6) hx hb dX0_heaviest_45 (by decide) ?_
            exact ih6 (j + 1) s1 s2 (by omega) (by omega) (by rw [arg_s, ← hv6_2]; (try dsimp only); split <;> omega) (by first | omega | (right; exact ⟨by omega, by simp⟩)) ls (lv_sub hl [0, 1, 2, 3] rfl)
          ·
            refine lv_iload_n hx hb dX0_heaviest_33 rfl (lv_at hl 0 rfl) ?_
            refine lv_istore_n (lv' := [(1, .int (iI (j : Int))), (3, .int (iI (j : Int))), (2, .int (iI s2)), (0, .ref x)]) hx hb dX0_heaviest_34 rfl hl (by decide) rfl (fun ls hl => ?_)
            refine lv_aload_n hx hb dX0_heaviest_35 rfl (lv_at hl 3 rfl) ?_
            refine x_get (v := .ref (a 4)) hx hb hts hin0 hown hK hP 0 rfl 5 (by decide) w_2 rfl dX0_heaviest_36 ?_
            refine lv_iload_n hx hb dX0_heaviest_39 rfl (lv_at hl 1 rfl) ?_
            refine z_iald (v := iI (σ.2 4 j)) hx hb hK hP 5 0 rfl rfl (k := j) (by omega) (by decide) rfl dX0_heaviest_40 ?_
            have f_7 := hI.r4 j
            refine lv_istore_n (lv' := [(2, .int (iI (σ.2 4 j))), (1, .int (iI (j : Int))), (3, .int (iI (j : Int))), (0, .ref x)]) hx hb dX0_heaviest_41 rfl hl (by decide) rfl (fun ls hl => ?_)
            refine lv_iinc (v := iI ((j : Int) + 1)) (lv' := [(3, .int (iI ((j : Int) + 1))), (2, .int (iI (σ.2 4 j))), (1, .int (iI (j : Int))), (0, .ref x)]) hx hb dX0_heaviest_42 hl (k := 2) rfl (iI_add _ _) (by decide) rfl (fun ls hl => ?_)
            refine lv_goto (tgt := 6) hx hb dX0_heaviest_45 (by decide) ?_
            exact ih6 (j + 1) (j : Int) (σ.2 4 j) (by omega) (by omega) (by rw [arg_s, ← hv6_2]; (try dsimp only); split <;> omega) (by first | omega | (right; exact ⟨by omega, by simp⟩)) ls (lv_sub hl [0, 1, 2, 3] rfl)
  exact LP6 (σ.1 1 - (0) + 1) 0 (-1) (-1) (by omega) (by omega) (by rfl) (by left; exact ⟨rfl, rfl⟩) ls (lv_sub hl [0, 1, 2, 3] rfl)
set_option maxHeartbeats 4000000 in
set_option maxRecDepth 100000 in
theorem c_X0_weightWhenBorne (l : Launch)  (w : Int) (d : Int) (hw : 0 ≤ w ∧ w ≤ 99) (hd : 0 ≤ d ∧ d ≤ 1000000) : Met l yX0_weightWhenBorne wsX0_weightWhenBorne ({ frames := 1, cells := 0, slots := 0, locals := 24 } : Room) (va_Pc [.int (iI w), .int (iI d)] (fun _ => True)) (vp_Si (fun r => r = iI (wwb w d))) 0 0 (fun _ => False) := by
  refine Met.ofW (cc := cX0_weightWhenBorne) (maxL := 2) (ret := (some .int)) (by decide) rfl ?_
  intro pp ee s m args below meth c s₁ B9 hml hv
  obtain ⟨rfl, -⟩ := hv
  have hx := B9.exec
  have hb := B9.bytes
  have hr := B9.returns
  have hts := atoms_spec (ws := wsX0_weightWhenBorne) B9.pre
  have hown : s.vm.findClass RX0 = some m.cls := findClass_of_methodNamed B9.named
  have hlocks := B9.notSynchronized
  have w_0 := hts (.methodLink RX0 121 Lib.Math.max.name) (by decide +kernel)
  have w_1 := hts (.static Lib.Math.max.name) (by decide +kernel)
  have w_2 := hts (.initialized "java/lang/Math") (by decide +kernel)
  have w_3 := hts (.code Lib.Math.max.name Lib.Math.max.code 2 (some .int)) (by decide +kernel)
  have w_4 := hts (.methodLink RX0 98 Lib.Math.min.name) (by decide +kernel)
  have w_5 := hts (.static Lib.Math.min.name) (by decide +kernel)
  have w_6 := hts (.code Lib.Math.min.name Lib.Math.min.code 2 (some .int)) (by decide +kernel)
  have hl := lv_entry ([.int (iI w), .int (iI d)]) (n := 2) (Nat.le_of_ble_eq_true rfl)
  rw [lg_entry_eq]
  generalize (lg_sl ([.int (iI w), .int (iI d)]) ++ List.replicate (2 - (lg_sl ([.int (iI w), .int (iI d)])).length) Slot.unset).toArray = ls at hl ⊢
  have hl : lv_has ls 2 [(0, .int (iI w)), (1, .int (iI d))] := hl
  refine lv_iload_n hx hb dX0_weightWhenBorne_0 rfl (lv_at hl 1 rfl) ?_
  refine lv_iconst (v := iI 5) hx hb dX0_weightWhenBorne_1 rfl ?_
  refine z_irem hx hb dX0_weightWhenBorne_2 (by omega) (by omega) ?_
  refine z_if_eq (tgt := 8) hx hb dX0_weightWhenBorne_3 (by decide) (by omega) (fun c_1 => ?_) (fun c_1 => ?_)
  ·
    refine lv_iload_n hx hb dX0_weightWhenBorne_8 rfl (lv_at hl 0 rfl) ?_
    refine lv_iconst (v := iI 1) hx hb dX0_weightWhenBorne_9 rfl ?_
    refine lv_iload_n hx hb dX0_weightWhenBorne_10 rfl (lv_at hl 0 rfl) ?_
    refine lv_bipush (v := iI 10) hx hb dX0_weightWhenBorne_11 (by decide) ?_
    refine z_idiv hx hb dX0_weightWhenBorne_13 (by omega) (by omega) ?_
    refine z_max hx hb (by rw [hml]; exact hl.1.symm) hown w_0 w_1 w_2 w_3 (Nat.le_of_ble_eq_true rfl) (Nat.le_of_ble_eq_true rfl) (Nat.le_of_ble_eq_true rfl) (Nat.le_of_ble_eq_true rfl) (by omega) (by omega) dX0_weightWhenBorne_14 ?_
    refine z_iadd hx hb dX0_weightWhenBorne_17 ?_
    refine lv_bipush (v := iI 99) hx hb dX0_weightWhenBorne_18 (by decide) ?_
    refine z_min hx hb (by rw [hml]; exact hl.1.symm) hown w_4 w_5 w_2 w_6 (Nat.le_of_ble_eq_true rfl) (Nat.le_of_ble_eq_true rfl) (Nat.le_of_ble_eq_true rfl) (Nat.le_of_ble_eq_true rfl) (by omega) (by omega) dX0_weightWhenBorne_20 ?_
    refine z_re (v' := iI (wwb w d)) (congrArg iI (by unfold wwb; split <;> omega)) ?_
    exact W.iret hx hb hr (fun t ht _ => ⟨_, rfl, rfl, ht⟩) (fun q hq => absurd hq List.not_mem_nil) dX0_weightWhenBorne_23
  ·
    refine lv_iload_n hx hb dX0_weightWhenBorne_6 rfl (lv_at hl 0 rfl) ?_
    refine z_re (v' := iI (wwb w d)) (congrArg iI (by unfold wwb; split <;> omega)) ?_
    exact W.iret hx hb hr (fun t ht _ => ⟨_, rfl, rfl, ht⟩) (fun q hq => absurd hq List.not_mem_nil) dX0_weightWhenBorne_7
set_option maxHeartbeats 4000000 in
set_option maxRecDepth 100000 in
theorem c_X0_weightIn (l : Launch) (G : zG) (x : Nat) (a : Nat → Nat) (B : Nat) (σ : zS) (k : Nat) (d : Int) (hI : zI B σ) (hk : k < σ.1 1) (hd : 1 ≤ d ∧ d ≤ 60) : Met l yX0_weightIn wsX0_weightIn ({ frames := 2, cells := 0, slots := 0, locals := 45 } : Room) (va_Pc [.ref x, .int (iI (k : Int)), .int (iI d)] (pX G x a σ)) (vp_Si (fun r => r = iI (lat σ k d))) 0 0 (fun _ => False) := by
  refine Met.ofW (cc := cX0_weightIn) (maxL := 5) (ret := (some .int)) (by decide) rfl ?_
  intro pp ee s m args below meth c s₁ B9 hml hv
  obtain ⟨rfl, hP, hK⟩ := hv
  have hx := B9.exec
  have hb := B9.bytes
  have hr := B9.returns
  have hts := atoms_spec (ws := wsX0_weightIn) B9.pre
  have hown : s.vm.findClass RX0 = some m.cls := findClass_of_methodNamed B9.named
  have hlocks := B9.notSynchronized
  have hin0 : ∀ w ∈ wsX00, w ∈ wsX0_weightIn := by decide +kernel
  have w_0 := hts (.fieldLink RX0 26 "ApologyLedger" "states" "[I") (by decide +kernel)
  have w_1 := hts (.fieldLink RX0 32 "ApologyLedger" "daysQuiet" "[I") (by decide +kernel)
  have w_2 := hts (.fieldLink RX0 23 "ApologyLedger" "weights" "[I") (by decide +kernel)
  have w_3 := hts (.fieldLink RX0 29 "ApologyLedger" "daysBorne" "[I") (by decide +kernel)
  have hl := lv_entry ([.ref x, .int (iI (k : Int)), .int (iI d)]) (n := 5) (Nat.le_of_ble_eq_true rfl)
  rw [lg_entry_eq]
  generalize (lg_sl ([.ref x, .int (iI (k : Int)), .int (iI d)]) ++ List.replicate (5 - (lg_sl ([.ref x, .int (iI (k : Int)), .int (iI d)])).length) Slot.unset).toArray = ls at hl ⊢
  have hl : lv_has ls 5 [(0, .ref x), (1, .int (iI (k : Int))), (2, .int (iI d))] := hl
  have hIn := hI.n
  have hIb := hI.b
  refine lv_aload_n hx hb dX0_weightIn_0 rfl (lv_at hl 0 rfl) ?_
  refine lv_iload_n hx hb dX0_weightIn_1 rfl (lv_at hl 1 rfl) ?_
  refine zc_v (va_runV (As := [.int (iI (k : Int))]) (rest := []) ⟨hx, hb, hml, hown, hts⟩ (c_X0_requireSlight l G x a σ k (by omega) (by omega)) (cwV 1 hts gX0_weightIn_X0_requireSlight rfl rfl rfl (by decide +kernel) ⟨Nat.le_of_ble_eq_true rfl, Nat.le_of_ble_eq_true rfl⟩) (preVX hK hP) rfl rfl hl.1 rfl (lv_room (Nat.le_of_ble_eq_true rfl)) dX0_weightIn_2 ⟨Nat.le_of_ble_eq_true rfl, Nat.le_of_ble_eq_true rfl⟩) ?_
  refine lv_iload_n hx hb dX0_weightIn_5 rfl (lv_at hl 2 rfl) ?_
  refine zc_v (va_runS (As := [.int (iI d)]) (rest := []) ⟨hx, hb, hml, hown, hts⟩ (c_X0_requireDays l  d (by omega)) (va_cwS 1 hts gX0_weightIn_X0_requireDays rfl rfl rfl (by decide +kernel) ⟨Nat.le_of_ble_eq_true rfl, Nat.le_of_ble_eq_true rfl⟩) preS0 rfl rfl hl.1 rfl (lv_room (Nat.le_of_ble_eq_true rfl)) dX0_weightIn_6 ⟨Nat.le_of_ble_eq_true rfl, Nat.le_of_ble_eq_true rfl⟩) ?_
  refine lv_aload_n hx hb dX0_weightIn_9 rfl (lv_at hl 0 rfl) ?_
  refine x_get (v := .ref (a 5)) hx hb hts hin0 hown hK hP 0 rfl 6 (by decide) w_0 rfl dX0_weightIn_10 ?_
  refine lv_iload_n hx hb dX0_weightIn_13 rfl (lv_at hl 1 rfl) ?_
  refine z_iald (v := iI (σ.2 5 k)) hx hb hK hP 6 0 rfl rfl (k := k) (by omega) (by decide) rfl dX0_weightIn_14 ?_
  have f_1 := hI.r5 k
  refine z_if_ne (tgt := 31) hx hb dX0_weightIn_15 (by decide) (by omega) (fun c_2 => ?_) (fun c_2 => ?_)
  ·
    refine lv_iconst (v := iI 0) hx hb dX0_weightIn_31 rfl ?_
    refine z_re (v' := iI (lat σ k d)) (congrArg iI (by rw [lat, if_neg (by omega)])) ?_
    exact W.iret hx hb hr (fun t ht _ => ⟨_, rfl, rfl, ht⟩) (fun q hq => absurd hq List.not_mem_nil) dX0_weightIn_32
  ·
    refine lv_aload_n hx hb dX0_weightIn_18 rfl (lv_at hl 0 rfl) ?_
    refine x_get (v := .ref (a 7)) hx hb hts hin0 hown hK hP 0 rfl 8 (by decide) w_1 rfl dX0_weightIn_19 ?_
    refine lv_iload_n hx hb dX0_weightIn_22 rfl (lv_at hl 1 rfl) ?_
    refine z_iald (v := iI (σ.2 7 k)) hx hb hK hP 8 0 rfl rfl (k := k) (by omega) (by decide) rfl dX0_weightIn_23 ?_
    have f_3 := hI.r7 k
    refine lv_iload_n hx hb dX0_weightIn_24 rfl (lv_at hl 2 rfl) ?_
    refine z_iadd hx hb dX0_weightIn_25 ?_
    refine lv_bipush (v := iI 30) hx hb dX0_weightIn_26 (by decide) ?_
    refine z_icmp_lt (tgt := 33) hx hb dX0_weightIn_28 (by decide) (by omega) (by omega) (fun c_4 => ?_) (fun c_4 => ?_)
    ·
      refine lv_aload_n hx hb dX0_weightIn_33 rfl (lv_at hl 0 rfl) ?_
      refine x_get (v := .ref (a 4)) hx hb hts hin0 hown hK hP 0 rfl 5 (by decide) w_2 rfl dX0_weightIn_34 ?_
      refine lv_iload_n hx hb dX0_weightIn_37 rfl (lv_at hl 1 rfl) ?_
      refine z_iald (v := iI (σ.2 4 k)) hx hb hK hP 5 0 rfl rfl (k := k) (by omega) (by decide) rfl dX0_weightIn_38 ?_
      have f_5 := hI.r4 k
      refine lv_istore_n (lv' := [(3, .int (iI (σ.2 4 k))), (0, .ref x), (1, .int (iI (k : Int))), (2, .int (iI d))]) hx hb dX0_weightIn_39 rfl hl (by decide) rfl (fun ls hl => ?_)
      refine lv_iconst (v := iI 1) hx hb dX0_weightIn_40 rfl ?_
      refine lv_istore (lv' := [(4, .int (iI 1)), (3, .int (iI (σ.2 4 k))), (0, .ref x), (1, .int (iI (k : Int))), (2, .int (iI d))]) hx hb dX0_weightIn_41 hl (by decide) rfl (fun ls hl => ?_)
      have LP43 : ∀ (r43 : Nat) (j : Nat) (s1 : Int), j ≤ d.toNat → d.toNat - j < r43 → s1 = itg ((σ.2 6 k + j) / 5 - σ.2 6 k / 5).toNat (σ.2 4 k) → ∀ (ls : Array Slot), lv_has ls 5 [(4, .int (iI ((j : Int) + 1))), (3, .int (iI s1)), (0, .ref x), (1, .int (iI (k : Int))), (2, .int (iI d))] → W pp l ee (headSpec wsX0_weightIn ({ frames := 2, cells := 0, slots := 0, locals := 45 } : Room)).room s m ([.ref x, .int (iI (k : Int)), .int (iI d)] : List Value).toArray below meth c s.heap [] 0 0 (MQ below (vp_Si (fun r => r = iI (lat σ k d))) ([.ref x, .int (iI (k : Int)), .int (iI d)] : List Value).toArray s 0 0 (fun _ => False)) (F0 m 43 ls []) := by
        intro r43
        induction r43 with
        | zero => intro j s1 hv43_0 hv43_1; exfalso; omega
        | succ r43 ih43 =>
          intro j s1 hv43_0 hv43_1 hv43_2 ls hl
          have f_6 := itg_bd ((σ.2 6 k + j) / 5 - σ.2 6 k / 5).toNat (hI.r4 k)
          have f_7 := hI.r6 k
          refine lv_iload hx hb dX0_weightIn_43 (lv_at hl 0 rfl) ?_
          refine lv_iload_n hx hb dX0_weightIn_45 rfl (lv_at hl 4 rfl) ?_
          refine z_icmp_gt (tgt := 69) hx hb dX0_weightIn_46 (by decide) (by omega) (by omega) (fun c_8 => ?_) (fun c_8 => ?_)
          ·
            refine lv_iload_n hx hb dX0_weightIn_69 rfl (lv_at hl 1 rfl) ?_
            refine z_re (v' := iI (lat σ k d)) (congrArg iI (by rw [lat, if_pos (by omega), hv43_2, show (j : Int) = d from by omega])) ?_
            exact W.iret hx hb hr (fun t ht _ => ⟨_, rfl, rfl, ht⟩) (fun q hq => absurd hq List.not_mem_nil) dX0_weightIn_70
          ·
            refine lv_iload_n hx hb dX0_weightIn_49 rfl (lv_at hl 1 rfl) ?_
            refine lv_aload_n hx hb dX0_weightIn_50 rfl (lv_at hl 2 rfl) ?_
            refine x_get (v := .ref (a 6)) hx hb hts hin0 hown hK hP 0 rfl 7 (by decide) w_3 rfl dX0_weightIn_51 ?_
            refine lv_iload_n hx hb dX0_weightIn_54 rfl (lv_at hl 3 rfl) ?_
            refine z_iald (v := iI (σ.2 6 k)) hx hb hK hP 7 0 rfl rfl (k := k) (by omega) (by decide) rfl dX0_weightIn_55 ?_
            have f_9 := hI.r6 k
            refine lv_iload hx hb dX0_weightIn_56 (lv_at hl 0 rfl) ?_
            refine z_iadd hx hb dX0_weightIn_58 ?_
            refine zc_i (va_runS (As := [.int (iI s1), .int (iI ((σ.2 6 k) + ((j : Int) + 1)))]) (rest := []) ⟨hx, hb, hml, hown, hts⟩ (c_X0_weightWhenBorne l  s1 ((σ.2 6 k) + ((j : Int) + 1)) (by omega) (by omega)) (va_cwS 2 hts gX0_weightIn_X0_weightWhenBorne rfl rfl rfl (by decide +kernel) ⟨Nat.le_of_ble_eq_true rfl, Nat.le_of_ble_eq_true rfl⟩) preS0 rfl rfl hl.1 rfl (lv_room (Nat.le_of_ble_eq_true rfl)) dX0_weightIn_59 ⟨Nat.le_of_ble_eq_true rfl, Nat.le_of_ble_eq_true rfl⟩) ?_
            have f_10 := wwb_bd s1 ((σ.2 6 k) + ((j : Int) + 1)) (by omega)
            refine lv_istore_n (lv' := [(3, .int (iI (wwb s1 ((σ.2 6 k) + ((j : Int) + 1))))), (4, .int (iI ((j : Int) + 1))), (0, .ref x), (1, .int (iI (k : Int))), (2, .int (iI d))]) hx hb dX0_weightIn_62 rfl hl (by decide) rfl (fun ls hl => ?_)
            refine lv_iinc (v := iI (((j : Int) + 1) + 1)) (lv' := [(4, .int (iI (((j : Int) + 1) + 1))), (3, .int (iI (wwb s1 ((σ.2 6 k) + ((j : Int) + 1))))), (0, .ref x), (1, .int (iI (k : Int))), (2, .int (iI d))]) hx hb dX0_weightIn_63 hl (k := 1) rfl (iI_add _ _) (by decide) rfl (fun ls hl => ?_)
            refine lv_goto (tgt := 43) hx hb dX0_weightIn_66 (by decide) ?_
            exact ih43 (j + 1) (wwb s1 ((σ.2 6 k) + ((j : Int) + 1))) (by omega) (by omega) (by rw [hv43_2]; exact itg_step (σ.2 4 k) (σ.2 6 k) j (by omega)) ls (lv_sub hl [0, 1, 2, 3, 4] rfl)
      exact LP43 (d.toNat - (0) + 1) 0 (σ.2 4 k) (by omega) (by omega) (by simp [itg]) ls (lv_sub hl [0, 1, 2, 3, 4] rfl)
    ·
      refine lv_iconst (v := iI 0) hx hb dX0_weightIn_31 rfl ?_
      refine z_re (v' := iI (lat σ k d)) (congrArg iI (by rw [lat, if_neg (by omega)])) ?_
      exact W.iret hx hb hr (fun t ht _ => ⟨_, rfl, rfl, ht⟩) (fun q hq => absurd hq List.not_mem_nil) dX0_weightIn_32
set_option maxHeartbeats 4000000 in
set_option maxRecDepth 100000 in
theorem c_X0_daysUntilForgotten (l : Launch) (G : zG) (x : Nat) (a : Nat → Nat) (B : Nat) (σ : zS) (k : Nat) (hI : zI B σ) (hk : k < σ.1 1) : Met l yX0_daysUntilForgotten wsX0_daysUntilForgotten ({ frames := 1, cells := 0, slots := 0, locals := 21 } : Room) (va_Pc [.ref x, .int (iI (k : Int))] (pX G x a σ)) (vp_Si (fun r => r = iI (unt σ k))) 0 0 (fun _ => False) := by
  refine Met.ofW (cc := cX0_daysUntilForgotten) (maxL := 2) (ret := (some .int)) (by decide) rfl ?_
  intro pp ee s m args below meth c s₁ B9 hml hv
  obtain ⟨rfl, hP, hK⟩ := hv
  have hx := B9.exec
  have hb := B9.bytes
  have hr := B9.returns
  have hts := atoms_spec (ws := wsX0_daysUntilForgotten) B9.pre
  have hown : s.vm.findClass RX0 = some m.cls := findClass_of_methodNamed B9.named
  have hlocks := B9.notSynchronized
  have hin0 : ∀ w ∈ wsX00, w ∈ wsX0_daysUntilForgotten := by decide +kernel
  have w_0 := hts (.fieldLink RX0 26 "ApologyLedger" "states" "[I") (by decide +kernel)
  have w_1 := hts (.fieldLink RX0 32 "ApologyLedger" "daysQuiet" "[I") (by decide +kernel)
  have hl := lv_entry ([.ref x, .int (iI (k : Int))]) (n := 2) (Nat.le_of_ble_eq_true rfl)
  rw [lg_entry_eq]
  generalize (lg_sl ([.ref x, .int (iI (k : Int))]) ++ List.replicate (2 - (lg_sl ([.ref x, .int (iI (k : Int))])).length) Slot.unset).toArray = ls at hl ⊢
  have hl : lv_has ls 2 [(0, .ref x), (1, .int (iI (k : Int)))] := hl
  have hIn := hI.n
  have hIb := hI.b
  refine lv_aload_n hx hb dX0_daysUntilForgotten_0 rfl (lv_at hl 0 rfl) ?_
  refine lv_iload_n hx hb dX0_daysUntilForgotten_1 rfl (lv_at hl 1 rfl) ?_
  refine zc_v (va_runV (As := [.int (iI (k : Int))]) (rest := []) ⟨hx, hb, hml, hown, hts⟩ (c_X0_requireSlight l G x a σ k (by omega) (by omega)) (cwV 1 hts gX0_daysUntilForgotten_X0_requireSlight rfl rfl rfl (by decide +kernel) ⟨Nat.le_of_ble_eq_true rfl, Nat.le_of_ble_eq_true rfl⟩) (preVX hK hP) rfl rfl hl.1 rfl (lv_room (Nat.le_of_ble_eq_true rfl)) dX0_daysUntilForgotten_2 ⟨Nat.le_of_ble_eq_true rfl, Nat.le_of_ble_eq_true rfl⟩) ?_
  refine lv_aload_n hx hb dX0_daysUntilForgotten_5 rfl (lv_at hl 0 rfl) ?_
  refine x_get (v := .ref (a 5)) hx hb hts hin0 hown hK hP 0 rfl 6 (by decide) w_0 rfl dX0_daysUntilForgotten_6 ?_
  refine lv_iload_n hx hb dX0_daysUntilForgotten_9 rfl (lv_at hl 1 rfl) ?_
  refine z_iald (v := iI (σ.2 5 k)) hx hb hK hP 6 0 rfl rfl (k := k) (by omega) (by decide) rfl dX0_daysUntilForgotten_10 ?_
  have f_1 := hI.r5 k
  refine z_if_ne (tgt := 26) hx hb dX0_daysUntilForgotten_11 (by decide) (by omega) (fun c_2 => ?_) (fun c_2 => ?_)
  ·
    refine lv_iconst (v := iI (-1)) hx hb dX0_daysUntilForgotten_26 rfl ?_
    refine z_re (v' := iI (unt σ k)) (congrArg iI (by unfold unt; split <;> omega)) ?_
    exact W.iret hx hb hr (fun t ht _ => ⟨_, rfl, rfl, ht⟩) (fun q hq => absurd hq List.not_mem_nil) dX0_daysUntilForgotten_27
  ·
    refine lv_bipush (v := iI 30) hx hb dX0_daysUntilForgotten_14 (by decide) ?_
    refine lv_aload_n hx hb dX0_daysUntilForgotten_16 rfl (lv_at hl 0 rfl) ?_
    refine x_get (v := .ref (a 7)) hx hb hts hin0 hown hK hP 0 rfl 8 (by decide) w_1 rfl dX0_daysUntilForgotten_17 ?_
    refine lv_iload_n hx hb dX0_daysUntilForgotten_20 rfl (lv_at hl 1 rfl) ?_
    refine z_iald (v := iI (σ.2 7 k)) hx hb hK hP 8 0 rfl rfl (k := k) (by omega) (by decide) rfl dX0_daysUntilForgotten_21 ?_
    have f_3 := hI.r7 k
    refine z_isub hx hb dX0_daysUntilForgotten_22 ?_
    refine lv_goto (tgt := 27) hx hb dX0_daysUntilForgotten_23 (by decide) ?_
    refine z_re (v' := iI (unt σ k)) (congrArg iI (by unfold unt; split <;> omega)) ?_
    exact W.iret hx hb hr (fun t ht _ => ⟨_, rfl, rfl, ht⟩) (fun q hq => absurd hq List.not_mem_nil) dX0_daysUntilForgotten_27
set_option maxHeartbeats 4000000 in
set_option maxRecDepth 100000 in
theorem c_X0_worthOf (l : Launch) (G : zG) (x : Nat) (a : Nat → Nat) (B : Nat) (σ : zS) (k : Nat) (w : Int) (hI : zI B σ) (hk : k < σ.1 1) (hw : 0 ≤ w ∧ w ≤ 20) : Met l yX0_worthOf wsX0_worthOf ({ frames := 2, cells := 0, slots := 0, locals := 44 } : Room) (va_Pc [.ref x, .int (iI (k : Int)), .int (iI w)] (pX G x a σ)) (vp_Si (fun r => r = iI (w + 2 * wit σ k))) 0 0 (fun _ => False) := by
  refine Met.ofW (cc := cX0_worthOf) (maxL := 3) (ret := (some .int)) (by decide) rfl ?_
  intro pp ee s m args below meth c s₁ B9 hml hv
  obtain ⟨rfl, hP, hK⟩ := hv
  have hx := B9.exec
  have hb := B9.bytes
  have hr := B9.returns
  have hts := atoms_spec (ws := wsX0_worthOf) B9.pre
  have hown : s.vm.findClass RX0 = some m.cls := findClass_of_methodNamed B9.named
  have hlocks := B9.notSynchronized
  have hin0 : ∀ w ∈ wsX00, w ∈ wsX0_worthOf := by decide +kernel
  have hl := lv_entry ([.ref x, .int (iI (k : Int)), .int (iI w)]) (n := 3) (Nat.le_of_ble_eq_true rfl)
  rw [lg_entry_eq]
  generalize (lg_sl ([.ref x, .int (iI (k : Int)), .int (iI w)]) ++ List.replicate (3 - (lg_sl ([.ref x, .int (iI (k : Int)), .int (iI w)])).length) Slot.unset).toArray = ls at hl ⊢
  have hl : lv_has ls 3 [(0, .ref x), (1, .int (iI (k : Int))), (2, .int (iI w))] := hl
  have hIn := hI.n
  have hIb := hI.b
  refine lv_iload_n hx hb dX0_worthOf_0 rfl (lv_at hl 2 rfl) ?_
  refine lv_iconst (v := iI 2) hx hb dX0_worthOf_1 rfl ?_
  refine lv_aload_n hx hb dX0_worthOf_2 rfl (lv_at hl 0 rfl) ?_
  refine lv_iload_n hx hb dX0_worthOf_3 rfl (lv_at hl 1 rfl) ?_
  refine zc_i (va_runV (As := [.int (iI (k : Int))]) (rest := [.int (iI 2), .int (iI w)]) ⟨hx, hb, hml, hown, hts⟩ (c_X0_witnessesFor l G x a B σ k hI (by omega)) (cwV 1 hts gX0_worthOf_X0_witnessesFor rfl rfl rfl (by decide +kernel) ⟨Nat.le_of_ble_eq_true rfl, Nat.le_of_ble_eq_true rfl⟩) (preVX hK hP) rfl rfl hl.1 rfl (lv_room (Nat.le_of_ble_eq_true rfl)) dX0_worthOf_4 ⟨Nat.le_of_ble_eq_true rfl, Nat.le_of_ble_eq_true rfl⟩) ?_
  have f_1 := wit_bd hI k
  refine z_imul hx hb dX0_worthOf_7 ?_
  refine z_iadd hx hb dX0_worthOf_8 ?_
  refine z_re (v' := iI (w + 2 * wit σ k)) (congrArg iI (by rfl)) ?_
  exact W.iret hx hb hr (fun t ht _ => ⟨_, rfl, rfl, ht⟩) (fun q hq => absurd hq List.not_mem_nil) dX0_worthOf_9
set_option maxHeartbeats 4000000 in
set_option maxRecDepth 100000 in
theorem c_X0_leastWorthHeard (l : Launch) (G : zG) (x : Nat) (a : Nat → Nat) (B : Nat) (σ : zS) (k : Nat) (hI : zI B σ) (hk : k < σ.1 1) : Met l yX0_leastWorthHeard wsX0_leastWorthHeard ({ frames := 2, cells := 0, slots := 0, locals := 42 } : Room) (va_Pc [.ref x, .int (iI (k : Int))] (pX G x a σ)) (vp_Si (fun r => r = iI (lea σ k))) 0 0 (fun _ => False) := by
  refine Met.ofW (cc := cX0_leastWorthHeard) (maxL := 2) (ret := (some .int)) (by decide) rfl ?_
  intro pp ee s m args below meth c s₁ B9 hml hv
  obtain ⟨rfl, hP, hK⟩ := hv
  have hx := B9.exec
  have hb := B9.bytes
  have hr := B9.returns
  have hts := atoms_spec (ws := wsX0_leastWorthHeard) B9.pre
  have hown : s.vm.findClass RX0 = some m.cls := findClass_of_methodNamed B9.named
  have hlocks := B9.notSynchronized
  have hin0 : ∀ w ∈ wsX00, w ∈ wsX0_leastWorthHeard := by decide +kernel
  have w_0 := hts (.methodLink RX0 121 Lib.Math.max.name) (by decide +kernel)
  have w_1 := hts (.static Lib.Math.max.name) (by decide +kernel)
  have w_2 := hts (.initialized "java/lang/Math") (by decide +kernel)
  have w_3 := hts (.code Lib.Math.max.name Lib.Math.max.code 2 (some .int)) (by decide +kernel)
  have hl := lv_entry ([.ref x, .int (iI (k : Int))]) (n := 2) (Nat.le_of_ble_eq_true rfl)
  rw [lg_entry_eq]
  generalize (lg_sl ([.ref x, .int (iI (k : Int))]) ++ List.replicate (2 - (lg_sl ([.ref x, .int (iI (k : Int))])).length) Slot.unset).toArray = ls at hl ⊢
  have hl : lv_has ls 2 [(0, .ref x), (1, .int (iI (k : Int)))] := hl
  have hIn := hI.n
  have hIb := hI.b
  refine lv_aload_n hx hb dX0_leastWorthHeard_0 rfl (lv_at hl 0 rfl) ?_
  refine lv_aload_n hx hb dX0_leastWorthHeard_1 rfl (lv_at hl 0 rfl) ?_
  refine lv_iload_n hx hb dX0_leastWorthHeard_2 rfl (lv_at hl 1 rfl) ?_
  refine zc_i (va_runV (As := [.int (iI (k : Int))]) (rest := [.ref x]) ⟨hx, hb, hml, hown, hts⟩ (c_X0_offendedOf l G x a B σ k hI (by omega)) (cwV 1 hts gX0_leastWorthHeard_X0_offendedOf rfl rfl rfl (by decide +kernel) ⟨Nat.le_of_ble_eq_true rfl, Nat.le_of_ble_eq_true rfl⟩) (preVX hK hP) rfl rfl hl.1 rfl (lv_room (Nat.le_of_ble_eq_true rfl)) dX0_leastWorthHeard_3 ⟨Nat.le_of_ble_eq_true rfl, Nat.le_of_ble_eq_true rfl⟩) ?_
  have f_1 := hI.r3x k (by omega)
  refine z_re (v' := iI (((σ.2 3 k).toNat : Nat) : Int)) (congrArg iI (by omega)) ?_
  refine zc_i (va_runV (As := [.int (iI (((σ.2 3 k).toNat : Nat) : Int))]) (rest := []) ⟨hx, hb, hml, hown, hts⟩ (c_X0_prideOf l G x a B σ ((σ.2 3 k).toNat) hI (by omega)) (cwV 1 hts gX0_leastWorthHeard_X0_prideOf rfl rfl rfl (by decide +kernel) ⟨Nat.le_of_ble_eq_true rfl, Nat.le_of_ble_eq_true rfl⟩) (preVX hK hP) rfl rfl hl.1 rfl (lv_room (Nat.le_of_ble_eq_true rfl)) dX0_leastWorthHeard_6 ⟨Nat.le_of_ble_eq_true rfl, Nat.le_of_ble_eq_true rfl⟩) ?_
  have f_2 := hI.r0 ((σ.2 3 k).toNat)
  refine lv_aload_n hx hb dX0_leastWorthHeard_9 rfl (lv_at hl 0 rfl) ?_
  refine lv_iload_n hx hb dX0_leastWorthHeard_10 rfl (lv_at hl 1 rfl) ?_
  refine zc_i (va_runV (As := [.int (iI (k : Int))]) (rest := [.int (iI (σ.2 0 ((σ.2 3 k).toNat)))]) ⟨hx, hb, hml, hown, hts⟩ (c_X0_weightOf l G x a B σ k hI (by omega)) (cwV 1 hts gX0_leastWorthHeard_X0_weightOf rfl rfl rfl (by decide +kernel) ⟨Nat.le_of_ble_eq_true rfl, Nat.le_of_ble_eq_true rfl⟩) (preVX hK hP) rfl rfl hl.1 rfl (lv_room (Nat.le_of_ble_eq_true rfl)) dX0_leastWorthHeard_11 ⟨Nat.le_of_ble_eq_true rfl, Nat.le_of_ble_eq_true rfl⟩) ?_
  have f_3 := hI.r4 k
  refine lv_iconst (v := iI 4) hx hb dX0_leastWorthHeard_14 rfl ?_
  refine z_idiv hx hb dX0_leastWorthHeard_15 (by omega) (by omega) ?_
  refine z_max hx hb (by rw [hml]; exact hl.1.symm) hown w_0 w_1 w_2 w_3 (Nat.le_of_ble_eq_true rfl) (Nat.le_of_ble_eq_true rfl) (Nat.le_of_ble_eq_true rfl) (Nat.le_of_ble_eq_true rfl) (by omega) (by omega) dX0_leastWorthHeard_16 ?_
  refine z_re (v' := iI (lea σ k)) (congrArg iI (by rfl)) ?_
  exact W.iret hx hb hr (fun t ht _ => ⟨_, rfl, rfl, ht⟩) (fun q hq => absurd hq List.not_mem_nil) dX0_leastWorthHeard_19
set_option maxHeartbeats 4000000 in
set_option maxRecDepth 100000 in
theorem c_X0_areAgainstEachOther (l : Launch) (G : zG) (x : Nat) (a : Nat → Nat) (B : Nat) (σ : zS) (i : Nat) (o : Nat) (hI : zI B σ) (hi : i < σ.1 1) (ho : o < σ.1 1) : Met l yX0_areAgainstEachOther wsX0_areAgainstEachOther ({ frames := 2, cells := 0, slots := 0, locals := 42 } : Room) (va_Pc [.ref x, .int (iI (i : Int)), .int (iI (o : Int))] (pX G x a σ)) (vp_Si (fun r => r = iI (agn σ i o))) 0 0 (fun _ => False) := by
  refine Met.ofW (cc := cX0_areAgainstEachOther) (maxL := 3) (ret := (some .boolean)) (by decide) rfl ?_
  intro pp ee s m args below meth c s₁ B9 hml hv
  obtain ⟨rfl, hP, hK⟩ := hv
  have hx := B9.exec
  have hb := B9.bytes
  have hr := B9.returns
  have hts := atoms_spec (ws := wsX0_areAgainstEachOther) B9.pre
  have hown : s.vm.findClass RX0 = some m.cls := findClass_of_methodNamed B9.named
  have hlocks := B9.notSynchronized
  have hin0 : ∀ w ∈ wsX00, w ∈ wsX0_areAgainstEachOther := by decide +kernel
  have hl := lv_entry ([.ref x, .int (iI (i : Int)), .int (iI (o : Int))]) (n := 3) (Nat.le_of_ble_eq_true rfl)
  rw [lg_entry_eq]
  generalize (lg_sl ([.ref x, .int (iI (i : Int)), .int (iI (o : Int))]) ++ List.replicate (3 - (lg_sl ([.ref x, .int (iI (i : Int)), .int (iI (o : Int))])).length) Slot.unset).toArray = ls at hl ⊢
  have hl : lv_has ls 3 [(0, .ref x), (1, .int (iI (i : Int))), (2, .int (iI (o : Int)))] := hl
  have hIn := hI.n
  have hIb := hI.b
  refine lv_aload_n hx hb dX0_areAgainstEachOther_0 rfl (lv_at hl 0 rfl) ?_
  refine lv_iload_n hx hb dX0_areAgainstEachOther_1 rfl (lv_at hl 1 rfl) ?_
  refine zc_i (va_runV (As := [.int (iI (i : Int))]) (rest := []) ⟨hx, hb, hml, hown, hts⟩ (c_X0_offenderOf l G x a B σ i hI (by omega)) (cwV 1 hts gX0_areAgainstEachOther_X0_offenderOf rfl rfl rfl (by decide +kernel) ⟨Nat.le_of_ble_eq_true rfl, Nat.le_of_ble_eq_true rfl⟩) (preVX hK hP) rfl rfl hl.1 rfl (lv_room (Nat.le_of_ble_eq_true rfl)) dX0_areAgainstEachOther_2 ⟨Nat.le_of_ble_eq_true rfl, Nat.le_of_ble_eq_true rfl⟩) ?_
  have f_1 := hI.r2x i (by omega)
  refine lv_aload_n hx hb dX0_areAgainstEachOther_5 rfl (lv_at hl 0 rfl) ?_
  refine lv_iload_n hx hb dX0_areAgainstEachOther_6 rfl (lv_at hl 2 rfl) ?_
  refine zc_i (va_runV (As := [.int (iI (o : Int))]) (rest := [.int (iI (σ.2 2 i))]) ⟨hx, hb, hml, hown, hts⟩ (c_X0_offendedOf l G x a B σ o hI (by omega)) (cwV 1 hts gX0_areAgainstEachOther_X0_offendedOf rfl rfl rfl (by decide +kernel) ⟨Nat.le_of_ble_eq_true rfl, Nat.le_of_ble_eq_true rfl⟩) (preVX hK hP) rfl rfl hl.1 rfl (lv_room (Nat.le_of_ble_eq_true rfl)) dX0_areAgainstEachOther_7 ⟨Nat.le_of_ble_eq_true rfl, Nat.le_of_ble_eq_true rfl⟩) ?_
  have f_2 := hI.r3x o (by omega)
  refine z_icmp_ne (tgt := 30) hx hb dX0_areAgainstEachOther_10 (by decide) (by omega) (by omega) (fun c_3 => ?_) (fun c_3 => ?_)
  ·
    refine lv_iconst (v := iI 0) hx hb dX0_areAgainstEachOther_30 rfl ?_
    refine z_re (v' := iI (agn σ i o)) (congrArg iI (by unfold agn; split <;> omega)) ?_
    exact W.zret hx hb hr (z_nb (by have := agn_bd σ i o; omega)) (fun t ht _ => ⟨_, rfl, rfl, ht⟩) (fun q hq => absurd hq List.not_mem_nil) dX0_areAgainstEachOther_31
  ·
    refine lv_aload_n hx hb dX0_areAgainstEachOther_13 rfl (lv_at hl 0 rfl) ?_
    refine lv_iload_n hx hb dX0_areAgainstEachOther_14 rfl (lv_at hl 2 rfl) ?_
    refine zc_i (va_runV (As := [.int (iI (o : Int))]) (rest := []) ⟨hx, hb, hml, hown, hts⟩ (c_X0_offenderOf l G x a B σ o hI (by omega)) (cwV 1 hts gX0_areAgainstEachOther_X0_offenderOf rfl rfl rfl (by decide +kernel) ⟨Nat.le_of_ble_eq_true rfl, Nat.le_of_ble_eq_true rfl⟩) (preVX hK hP) rfl rfl hl.1 rfl (lv_room (Nat.le_of_ble_eq_true rfl)) dX0_areAgainstEachOther_15 ⟨Nat.le_of_ble_eq_true rfl, Nat.le_of_ble_eq_true rfl⟩) ?_
    have f_4 := hI.r2x o (by omega)
    refine lv_aload_n hx hb dX0_areAgainstEachOther_18 rfl (lv_at hl 0 rfl) ?_
    refine lv_iload_n hx hb dX0_areAgainstEachOther_19 rfl (lv_at hl 1 rfl) ?_
    refine zc_i (va_runV (As := [.int (iI (i : Int))]) (rest := [.int (iI (σ.2 2 o))]) ⟨hx, hb, hml, hown, hts⟩ (c_X0_offendedOf l G x a B σ i hI (by omega)) (cwV 1 hts gX0_areAgainstEachOther_X0_offendedOf rfl rfl rfl (by decide +kernel) ⟨Nat.le_of_ble_eq_true rfl, Nat.le_of_ble_eq_true rfl⟩) (preVX hK hP) rfl rfl hl.1 rfl (lv_room (Nat.le_of_ble_eq_true rfl)) dX0_areAgainstEachOther_20 ⟨Nat.le_of_ble_eq_true rfl, Nat.le_of_ble_eq_true rfl⟩) ?_
    have f_5 := hI.r3x i (by omega)
    refine z_icmp_ne (tgt := 30) hx hb dX0_areAgainstEachOther_23 (by decide) (by omega) (by omega) (fun c_6 => ?_) (fun c_6 => ?_)
    ·
      refine lv_iconst (v := iI 0) hx hb dX0_areAgainstEachOther_30 rfl ?_
      refine z_re (v' := iI (agn σ i o)) (congrArg iI (by unfold agn; split <;> omega)) ?_
      exact W.zret hx hb hr (z_nb (by have := agn_bd σ i o; omega)) (fun t ht _ => ⟨_, rfl, rfl, ht⟩) (fun q hq => absurd hq List.not_mem_nil) dX0_areAgainstEachOther_31
    ·
      refine lv_iconst (v := iI 1) hx hb dX0_areAgainstEachOther_26 rfl ?_
      refine lv_goto (tgt := 31) hx hb dX0_areAgainstEachOther_27 (by decide) ?_
      refine z_re (v' := iI (agn σ i o)) (congrArg iI (by unfold agn; split <;> omega)) ?_
      exact W.zret hx hb hr (z_nb (by have := agn_bd σ i o; omega)) (fun t ht _ => ⟨_, rfl, rfl, ht⟩) (fun q hq => absurd hq List.not_mem_nil) dX0_areAgainstEachOther_31
set_option maxHeartbeats 4000000 in
set_option maxRecDepth 100000 in
theorem c_X0_pairsToSetOff (l : Launch) (G : zG) (x : Nat) (a : Nat → Nat) (B : Nat) (σ : zS) (hI : zI B σ) : Met l yX0_pairsToSetOff wsX0_pairsToSetOff ({ frames := 3, cells := 0, slots := 0, locals := 64 } : Room) (va_Pc [.ref x] (pX G x a σ)) (vp_Si (fun r => r = iI (pai σ))) 0 0 (fun _ => False) := by
  refine Met.ofW (cc := cX0_pairsToSetOff) (maxL := 4) (ret := (some .int)) (by decide) rfl ?_
  intro pp ee s m args below meth c s₁ B9 hml hv
  obtain ⟨rfl, hP, hK⟩ := hv
  have hx := B9.exec
  have hb := B9.bytes
  have hr := B9.returns
  have hts := atoms_spec (ws := wsX0_pairsToSetOff) B9.pre
  have hown : s.vm.findClass RX0 = some m.cls := findClass_of_methodNamed B9.named
  have hlocks := B9.notSynchronized
  have hin0 : ∀ w ∈ wsX00, w ∈ wsX0_pairsToSetOff := by decide +kernel
  have w_0 := hts (.fieldLink RX0 60 "ApologyLedger" "slightCount" "I") (by decide +kernel)
  have w_1 := hts (.fieldLink RX0 26 "ApologyLedger" "states" "[I") (by decide +kernel)
  have hl := lv_entry ([.ref x]) (n := 4) (Nat.le_of_ble_eq_true rfl)
  rw [lg_entry_eq]
  generalize (lg_sl ([.ref x]) ++ List.replicate (4 - (lg_sl ([.ref x])).length) Slot.unset).toArray = ls at hl ⊢
  have hl : lv_has ls 4 [(0, .ref x)] := hl
  have hIn := hI.n
  have hIb := hI.b
  refine lv_iconst (v := iI 0) hx hb dX0_pairsToSetOff_0 rfl ?_
  refine lv_istore_n (lv' := [(1, .int (iI 0)), (0, .ref x)]) hx hb dX0_pairsToSetOff_1 rfl hl (by decide) rfl (fun ls hl => ?_)
  refine lv_iconst (v := iI 0) hx hb dX0_pairsToSetOff_2 rfl ?_
  refine lv_istore_n (lv' := [(2, .int (iI 0)), (1, .int (iI 0)), (0, .ref x)]) hx hb dX0_pairsToSetOff_3 rfl hl (by decide) rfl (fun ls hl => ?_)
  have LP4 : ∀ (r4 : Nat) (j : Nat) (s1 : Int), j ≤ σ.1 1 → σ.1 1 - j < r4 → s1 = zs (fun j => zs (fun t => pq σ j (j + 1 + t)) (σ.1 1 - 1 - j)) j → ∀ (ls : Array Slot), lv_has ls 4 [(2, .int (iI (j : Int))), (1, .int (iI s1)), (0, .ref x)] → W pp l ee (headSpec wsX0_pairsToSetOff ({ frames := 3, cells := 0, slots := 0, locals := 64 } : Room)).room s m ([.ref x] : List Value).toArray below meth c s.heap [] 0 0 (MQ below (vp_Si (fun r => r = iI (pai σ))) ([.ref x] : List Value).toArray s 0 0 (fun _ => False)) (F0 m 4 ls []) := by
    intro r4
    induction r4 with
    | zero => intro j s1 hv4_0 hv4_1; exfalso; omega
    | succ r4 ih4 =>
      intro j s1 hv4_0 hv4_1 hv4_2 ls hl
      refine lv_iload_n hx hb dX0_pairsToSetOff_4 rfl (lv_at hl 0 rfl) ?_
      refine lv_aload_n hx hb dX0_pairsToSetOff_5 rfl (lv_at hl 2 rfl) ?_
      refine x_get (v := .int (iI (σ.1 1 : Nat))) hx hb hts hin0 hown hK hP 0 rfl 9 (by decide) w_0 rfl dX0_pairsToSetOff_6 ?_
      refine z_icmp_ge (tgt := 66) hx hb dX0_pairsToSetOff_9 (by decide) (by omega) (by omega) (fun c_1 => ?_) (fun c_1 => ?_)
      ·
        refine lv_iload_n hx hb dX0_pairsToSetOff_66 rfl (lv_at hl 1 rfl) ?_
        refine z_re (v' := iI (pai σ)) (congrArg iI (by rw [hv4_2, show j = σ.1 1 from by omega]; exact pai_x σ)) ?_
        exact W.iret hx hb hr (fun t ht _ => ⟨_, rfl, rfl, ht⟩) (fun q hq => absurd hq List.not_mem_nil) dX0_pairsToSetOff_67
      ·
        refine lv_iload_n hx hb dX0_pairsToSetOff_12 rfl (lv_at hl 0 rfl) ?_
        refine lv_iconst (v := iI 1) hx hb dX0_pairsToSetOff_13 rfl ?_
        refine z_iadd hx hb dX0_pairsToSetOff_14 ?_
        refine lv_istore_n (lv' := [(3, .int (iI ((j : Int) + 1))), (2, .int (iI (j : Int))), (1, .int (iI s1)), (0, .ref x)]) hx hb dX0_pairsToSetOff_15 rfl hl (by decide) rfl (fun ls hl => ?_)
        have LP16 : ∀ (r16 : Nat) (i : Nat) (s2 : Int), i ≤ (σ.1 1 - 1 - j) → (σ.1 1 - 1 - j) - i < r16 → s2 = s1 + zs (fun t => pq σ j (j + 1 + t)) i → ∀ (ls : Array Slot), lv_has ls 4 [(3, .int (iI ((j : Int) + 1 + (i : Int)))), (2, .int (iI (j : Int))), (1, .int (iI s2)), (0, .ref x)] → W pp l ee (headSpec wsX0_pairsToSetOff ({ frames := 3, cells := 0, slots := 0, locals := 64 } : Room)).room s m ([.ref x] : List Value).toArray below meth c s.heap [] 0 0 (MQ below (vp_Si (fun r => r = iI (pai σ))) ([.ref x] : List Value).toArray s 0 0 (fun _ => False)) (F0 m 16 ls []) := by
          intro r16
          induction r16 with
          | zero => intro i s2 hv16_0 hv16_1; exfalso; omega
          | succ r16 ih16 =>
            intro i s2 hv16_0 hv16_1 hv16_2 ls hl
            refine lv_iload_n hx hb dX0_pairsToSetOff_16 rfl (lv_at hl 0 rfl) ?_
            refine lv_aload_n hx hb dX0_pairsToSetOff_17 rfl (lv_at hl 3 rfl) ?_
            refine x_get (v := .int (iI (σ.1 1 : Nat))) hx hb hts hin0 hown hK hP 0 rfl 9 (by decide) w_0 rfl dX0_pairsToSetOff_18 ?_
            refine z_icmp_ge (tgt := 60) hx hb dX0_pairsToSetOff_21 (by decide) (by omega) (by omega) (fun c_2 => ?_) (fun c_2 => ?_)
            ·
              refine lv_iinc (v := iI ((j : Int) + 1)) (lv' := [(2, .int (iI ((j : Int) + 1))), (3, .int (iI ((j : Int) + 1 + (i : Int)))), (1, .int (iI s2)), (0, .ref x)]) hx hb dX0_pairsToSetOff_60 hl (k := 1) rfl (iI_add _ _) (by decide) rfl (fun ls hl => ?_)
              refine lv_goto (tgt := 4) hx hb dX0_pairsToSetOff_63 (by decide) ?_
              exact ih4 (j + 1) s2 (by omega) (by omega) (by rw [zs_s, ← hv4_2, hv16_2, show i = σ.1 1 - 1 - j from by omega]) ls (lv_sub hl [0, 2, 3] rfl)
            ·
              refine lv_aload_n hx hb dX0_pairsToSetOff_24 rfl (lv_at hl 3 rfl) ?_
              refine x_get (v := .ref (a 5)) hx hb hts hin0 hown hK hP 0 rfl 6 (by decide) w_1 rfl dX0_pairsToSetOff_25 ?_
              refine lv_iload_n hx hb dX0_pairsToSetOff_28 rfl (lv_at hl 1 rfl) ?_
              refine z_iald (v := iI (σ.2 5 j)) hx hb hK hP 6 0 rfl rfl (k := j) (by omega) (by decide) rfl dX0_pairsToSetOff_29 ?_
              have f_3 := hI.r5 j
              refine z_if_ne (tgt := 54) hx hb dX0_pairsToSetOff_30 (by decide) (by omega) (fun c_4 => ?_) (fun c_4 => ?_)
              ·
                refine lv_iinc (v := iI (((j : Int) + 1 + (i : Int)) + 1)) (lv' := [(3, .int (iI (((j : Int) + 1 + (i : Int)) + 1))), (2, .int (iI (j : Int))), (1, .int (iI s2)), (0, .ref x)]) hx hb dX0_pairsToSetOff_54 hl (k := 0) rfl (iI_add _ _) (by decide) rfl (fun ls hl => ?_)
                refine lv_goto (tgt := 16) hx hb dX0_pairsToSetOff_57 (by decide) ?_
                exact ih16 (i + 1) s2 (by omega) (by omega) (by rw [zs_s, hv16_2]; (try dsimp only); rw [pq_agn]; split <;> omega) ls (lv_sub hl [0, 1, 2, 3] rfl)
              ·
                refine lv_aload_n hx hb dX0_pairsToSetOff_33 rfl (lv_at hl 3 rfl) ?_
                refine x_get (v := .ref (a 5)) hx hb hts hin0 hown hK hP 0 rfl 6 (by decide) w_1 rfl dX0_pairsToSetOff_34 ?_
                refine lv_iload_n hx hb dX0_pairsToSetOff_37 rfl (lv_at hl 0 rfl) ?_
                refine z_re (v' := iI ((j + 1 + i : Nat) : Int)) (congrArg iI (by omega)) ?_
                refine z_iald (v := iI (σ.2 5 (j + 1 + i))) hx hb hK hP 6 0 rfl rfl (k := j + 1 + i) (by omega) (by decide) rfl dX0_pairsToSetOff_38 ?_
                have f_5 := hI.r5 (j + 1 + i)
                refine z_if_ne (tgt := 54) hx hb dX0_pairsToSetOff_39 (by decide) (by omega) (fun c_6 => ?_) (fun c_6 => ?_)
                ·
                  refine lv_iinc (v := iI (((j : Int) + 1 + (i : Int)) + 1)) (lv' := [(3, .int (iI (((j : Int) + 1 + (i : Int)) + 1))), (2, .int (iI (j : Int))), (1, .int (iI s2)), (0, .ref x)]) hx hb dX0_pairsToSetOff_54 hl (k := 0) rfl (iI_add _ _) (by decide) rfl (fun ls hl => ?_)
                  refine lv_goto (tgt := 16) hx hb dX0_pairsToSetOff_57 (by decide) ?_
                  exact ih16 (i + 1) s2 (by omega) (by omega) (by rw [zs_s, hv16_2]; (try dsimp only); rw [pq_agn]; split <;> omega) ls (lv_sub hl [0, 1, 2, 3] rfl)
                ·
                  refine lv_aload_n hx hb dX0_pairsToSetOff_42 rfl (lv_at hl 3 rfl) ?_
                  refine lv_iload_n hx hb dX0_pairsToSetOff_43 rfl (lv_at hl 1 rfl) ?_
                  refine lv_iload_n hx hb dX0_pairsToSetOff_44 rfl (lv_at hl 0 rfl) ?_
                  refine z_re (v' := iI ((j + 1 + i : Nat) : Int)) (congrArg iI (by omega)) ?_
                  refine zc_i (va_runV (As := [.int (iI (j : Int)), .int (iI ((j + 1 + i : Nat) : Int))]) (rest := []) ⟨hx, hb, hml, hown, hts⟩ (c_X0_areAgainstEachOther l G x a B σ j (j + 1 + i) hI (by omega) (by omega)) (cwV 2 hts gX0_pairsToSetOff_X0_areAgainstEachOther rfl rfl rfl (by decide +kernel) ⟨Nat.le_of_ble_eq_true rfl, Nat.le_of_ble_eq_true rfl⟩) (preVX hK hP) rfl rfl hl.1 rfl (lv_room (Nat.le_of_ble_eq_true rfl)) dX0_pairsToSetOff_45 ⟨Nat.le_of_ble_eq_true rfl, Nat.le_of_ble_eq_true rfl⟩) ?_
                  have f_7 := agn_bd σ j (j + 1 + i)
                  refine z_if_eq (tgt := 54) hx hb dX0_pairsToSetOff_48 (by decide) (by omega) (fun c_8 => ?_) (fun c_8 => ?_)
                  ·
                    refine lv_iinc (v := iI (((j + 1 + i : Nat) : Int) + 1)) (lv' := [(3, .int (iI (((j + 1 + i : Nat) : Int) + 1))), (2, .int (iI (j : Int))), (1, .int (iI s2)), (0, .ref x)]) hx hb dX0_pairsToSetOff_54 hl (k := 0) rfl (iI_add _ _) (by decide) rfl (fun ls hl => ?_)
                    refine lv_goto (tgt := 16) hx hb dX0_pairsToSetOff_57 (by decide) ?_
                    exact ih16 (i + 1) s2 (by omega) (by omega) (by rw [zs_s, hv16_2]; (try dsimp only); rw [pq_agn]; split <;> omega) ls (lv_sub hl [0, 1, 2, 3] rfl)
                  ·
                    refine lv_iinc (v := iI (s2 + 1)) (lv' := [(1, .int (iI (s2 + 1))), (3, .int (iI ((j + 1 + i : Nat) : Int))), (2, .int (iI (j : Int))), (0, .ref x)]) hx hb dX0_pairsToSetOff_51 hl (k := 2) rfl (iI_add _ _) (by decide) rfl (fun ls hl => ?_)
                    refine lv_iinc (v := iI (((j + 1 + i : Nat) : Int) + 1)) (lv' := [(3, .int (iI (((j + 1 + i : Nat) : Int) + 1))), (1, .int (iI (s2 + 1))), (2, .int (iI (j : Int))), (0, .ref x)]) hx hb dX0_pairsToSetOff_54 hl (k := 1) rfl (iI_add _ _) (by decide) rfl (fun ls hl => ?_)
                    refine lv_goto (tgt := 16) hx hb dX0_pairsToSetOff_57 (by decide) ?_
                    exact ih16 (i + 1) (s2 + 1) (by omega) (by omega) (by rw [zs_s, hv16_2]; (try dsimp only); rw [pq_agn]; split <;> omega) ls (lv_sub hl [0, 2, 1, 3] rfl)
        exact LP16 ((σ.1 1 - 1 - j) - (0) + 1) 0 s1 (by omega) (by omega) (by simp [zs]) ls (lv_sub hl [0, 1, 2, 3] rfl)
  exact LP4 (σ.1 1 - (0) + 1) 0 0 (by omega) (by omega) (by rfl) ls (lv_sub hl [0, 1, 2] rfl)
set_option maxHeartbeats 4000000 in
set_option maxRecDepth 100000 in
theorem c_X0_wordsWanted (l : Launch) (G : zG) (x : Nat) (a : Nat → Nat) (B : Nat) (σ : zS) (k : Nat) (hI : zI B σ) (hk : k < σ.1 1) : Met l yX0_wordsWanted wsX0_wordsWanted ({ frames := 3, cells := 0, slots := 0, locals := 66 } : Room) (va_Pc [.ref x, .int (iI (k : Int))] (pX G x a σ)) (vp_Si (fun r => r = iI (wan σ k))) 0 0 (fun _ => False) := by
  refine Met.ofW (cc := cX0_wordsWanted) (maxL := 4) (ret := (some .int)) (by decide) rfl ?_
  intro pp ee s m args below meth c s₁ B9 hml hv
  obtain ⟨rfl, hP, hK⟩ := hv
  have hx := B9.exec
  have hb := B9.bytes
  have hr := B9.returns
  have hts := atoms_spec (ws := wsX0_wordsWanted) B9.pre
  have hown : s.vm.findClass RX0 = some m.cls := findClass_of_methodNamed B9.named
  have hlocks := B9.notSynchronized
  have hin0 : ∀ w ∈ wsX00, w ∈ wsX0_wordsWanted := by decide +kernel
  have w_0 := hts (.fieldLink RX0 26 "ApologyLedger" "states" "[I") (by decide +kernel)
  have w_1 := hts (.fieldLink RX0 23 "ApologyLedger" "weights" "[I") (by decide +kernel)
  have w_2 := hts (.methodLink RX0 121 Lib.Math.max.name) (by decide +kernel)
  have w_3 := hts (.static Lib.Math.max.name) (by decide +kernel)
  have w_4 := hts (.initialized "java/lang/Math") (by decide +kernel)
  have w_5 := hts (.code Lib.Math.max.name Lib.Math.max.code 2 (some .int)) (by decide +kernel)
  have hl := lv_entry ([.ref x, .int (iI (k : Int))]) (n := 4) (Nat.le_of_ble_eq_true rfl)
  rw [lg_entry_eq]
  generalize (lg_sl ([.ref x, .int (iI (k : Int))]) ++ List.replicate (4 - (lg_sl ([.ref x, .int (iI (k : Int))])).length) Slot.unset).toArray = ls at hl ⊢
  have hl : lv_has ls 4 [(0, .ref x), (1, .int (iI (k : Int)))] := hl
  have hIn := hI.n
  have hIb := hI.b
  refine lv_aload_n hx hb dX0_wordsWanted_0 rfl (lv_at hl 0 rfl) ?_
  refine lv_iload_n hx hb dX0_wordsWanted_1 rfl (lv_at hl 1 rfl) ?_
  refine zc_v (va_runV (As := [.int (iI (k : Int))]) (rest := []) ⟨hx, hb, hml, hown, hts⟩ (c_X0_requireSlight l G x a σ k (by omega) (by omega)) (cwV 1 hts gX0_wordsWanted_X0_requireSlight rfl rfl rfl (by decide +kernel) ⟨Nat.le_of_ble_eq_true rfl, Nat.le_of_ble_eq_true rfl⟩) (preVX hK hP) rfl rfl hl.1 rfl (lv_room (Nat.le_of_ble_eq_true rfl)) dX0_wordsWanted_2 ⟨Nat.le_of_ble_eq_true rfl, Nat.le_of_ble_eq_true rfl⟩) ?_
  refine lv_aload_n hx hb dX0_wordsWanted_5 rfl (lv_at hl 0 rfl) ?_
  refine x_get (v := .ref (a 5)) hx hb hts hin0 hown hK hP 0 rfl 6 (by decide) w_0 rfl dX0_wordsWanted_6 ?_
  refine lv_iload_n hx hb dX0_wordsWanted_9 rfl (lv_at hl 1 rfl) ?_
  refine z_iald (v := iI (σ.2 5 k)) hx hb hK hP 6 0 rfl rfl (k := k) (by omega) (by decide) rfl dX0_wordsWanted_10 ?_
  have f_1 := hI.r5 k
  refine z_if_eq (tgt := 16) hx hb dX0_wordsWanted_11 (by decide) (by omega) (fun c_2 => ?_) (fun c_2 => ?_)
  ·
    refine lv_aload_n hx hb dX0_wordsWanted_16 rfl (lv_at hl 0 rfl) ?_
    refine x_get (v := .ref (a 4)) hx hb hts hin0 hown hK hP 0 rfl 5 (by decide) w_1 rfl dX0_wordsWanted_17 ?_
    refine lv_iload_n hx hb dX0_wordsWanted_20 rfl (lv_at hl 1 rfl) ?_
    refine z_iald (v := iI (σ.2 4 k)) hx hb hK hP 5 0 rfl rfl (k := k) (by omega) (by decide) rfl dX0_wordsWanted_21 ?_
    have f_3 := hI.r4 k
    refine lv_aload_n hx hb dX0_wordsWanted_22 rfl (lv_at hl 0 rfl) ?_
    refine lv_iload_n hx hb dX0_wordsWanted_23 rfl (lv_at hl 1 rfl) ?_
    refine zc_i (va_runV (As := [.int (iI (k : Int))]) (rest := [.int (iI (σ.2 4 k))]) ⟨hx, hb, hml, hown, hts⟩ (c_X0_leastWorthHeard l G x a B σ k hI (by omega)) (cwV 1 hts gX0_wordsWanted_X0_leastWorthHeard rfl rfl rfl (by decide +kernel) ⟨Nat.le_of_ble_eq_true rfl, Nat.le_of_ble_eq_true rfl⟩) (preVX hK hP) rfl rfl hl.1 rfl (lv_room (Nat.le_of_ble_eq_true rfl)) dX0_wordsWanted_24 ⟨Nat.le_of_ble_eq_true rfl, Nat.le_of_ble_eq_true rfl⟩) ?_
    have f_4 := lea_bd hI k
    refine z_max hx hb (by rw [hml]; exact hl.1.symm) hown w_2 w_3 w_4 w_5 (Nat.le_of_ble_eq_true rfl) (Nat.le_of_ble_eq_true rfl) (Nat.le_of_ble_eq_true rfl) (Nat.le_of_ble_eq_true rfl) (by omega) (by omega) dX0_wordsWanted_27 ?_
    refine lv_istore_n (lv' := [(2, .int (iI (max (σ.2 4 k) (lea σ k)))), (0, .ref x), (1, .int (iI (k : Int)))]) hx hb dX0_wordsWanted_30 rfl hl (by decide) rfl (fun ls hl => ?_)
    refine lv_iconst (v := iI 1) hx hb dX0_wordsWanted_31 rfl ?_
    refine lv_iload_n hx hb dX0_wordsWanted_32 rfl (lv_at hl 0 rfl) ?_
    refine lv_aload_n hx hb dX0_wordsWanted_33 rfl (lv_at hl 1 rfl) ?_
    refine lv_iload_n hx hb dX0_wordsWanted_34 rfl (lv_at hl 2 rfl) ?_
    refine lv_iconst (v := iI 0) hx hb dX0_wordsWanted_35 rfl ?_
    refine zc_i (va_runV (As := [.int (iI (k : Int)), .int (iI 0)]) (rest := [.int (iI (max (σ.2 4 k) (lea σ k))), .int (iI 1)]) ⟨hx, hb, hml, hown, hts⟩ (c_X0_worthOf l G x a B σ k 0 hI (by omega) (by omega)) (cwV 2 hts gX0_wordsWanted_X0_worthOf rfl rfl rfl (by decide +kernel) ⟨Nat.le_of_ble_eq_true rfl, Nat.le_of_ble_eq_true rfl⟩) (preVX hK hP) rfl rfl hl.1 rfl (lv_room (Nat.le_of_ble_eq_true rfl)) dX0_wordsWanted_36 ⟨Nat.le_of_ble_eq_true rfl, Nat.le_of_ble_eq_true rfl⟩) ?_
    have f_5 := wit_bd hI k
    refine z_isub hx hb dX0_wordsWanted_39 ?_
    refine z_max hx hb (by rw [hml]; exact hl.1.symm) hown w_2 w_3 w_4 w_5 (Nat.le_of_ble_eq_true rfl) (Nat.le_of_ble_eq_true rfl) (Nat.le_of_ble_eq_true rfl) (Nat.le_of_ble_eq_true rfl) (by omega) (by omega) dX0_wordsWanted_40 ?_
    refine lv_istore_n (lv' := [(3, .int (iI (max 1 ((max (σ.2 4 k) (lea σ k)) - (0 + 2 * wit σ k))))), (2, .int (iI (max (σ.2 4 k) (lea σ k)))), (0, .ref x), (1, .int (iI (k : Int)))]) hx hb dX0_wordsWanted_43 rfl hl (by decide) rfl (fun ls hl => ?_)
    refine lv_iload_n hx hb dX0_wordsWanted_44 rfl (lv_at hl 0 rfl) ?_
    refine lv_bipush (v := iI 20) hx hb dX0_wordsWanted_45 (by decide) ?_
    refine z_icmp_le (tgt := 54) hx hb dX0_wordsWanted_47 (by decide) (by omega) (by omega) (fun c_6 => ?_) (fun c_6 => ?_)
    ·
      refine lv_iload_n hx hb dX0_wordsWanted_54 rfl (lv_at hl 0 rfl) ?_
      refine z_re (v' := iI (wan σ k)) (congrArg iI (by (try unfold lea at *); unfold wan; split <;> first | omega | (split <;> omega))) ?_
      exact W.iret hx hb hr (fun t ht _ => ⟨_, rfl, rfl, ht⟩) (fun q hq => absurd hq List.not_mem_nil) dX0_wordsWanted_55
    ·
      refine lv_iconst (v := iI (-1)) hx hb dX0_wordsWanted_50 rfl ?_
      refine lv_goto (tgt := 55) hx hb dX0_wordsWanted_51 (by decide) ?_
      refine z_re (v' := iI (wan σ k)) (congrArg iI (by (try unfold lea at *); unfold wan; split <;> first | omega | (split <;> omega))) ?_
      exact W.iret hx hb hr (fun t ht _ => ⟨_, rfl, rfl, ht⟩) (fun q hq => absurd hq List.not_mem_nil) dX0_wordsWanted_55
  ·
    refine lv_iconst (v := iI (-1)) hx hb dX0_wordsWanted_14 rfl ?_
    refine z_re (v' := iI (wan σ k)) (congrArg iI (by (try unfold lea at *); unfold wan; split <;> first | omega | (split <;> omega))) ?_
    exact W.iret hx hb hr (fun t ht _ => ⟨_, rfl, rfl, ht⟩) (fun q hq => absurd hq List.not_mem_nil) dX0_wordsWanted_15
set_option maxHeartbeats 4000000 in
set_option maxRecDepth 100000 in
theorem c_X0_wouldBeScorned (l : Launch) (G : zG) (x : Nat) (a : Nat → Nat) (B : Nat) (σ : zS) (k : Nat) (w : Int) (hI : zI B σ) (hk : k < σ.1 1) (hw : 1 ≤ w ∧ w ≤ 20) : Met l yX0_wouldBeScorned wsX0_wouldBeScorned ({ frames := 3, cells := 0, slots := 0, locals := 66 } : Room) (va_Pc [.ref x, .int (iI (k : Int)), .int (iI w)] (pX G x a σ)) (vp_Si (fun r => r = iI (wbs σ k w))) 0 0 (fun _ => False) := by
  refine Met.ofW (cc := cX0_wouldBeScorned) (maxL := 3) (ret := (some .boolean)) (by decide) rfl ?_
  intro pp ee s m args below meth c s₁ B9 hml hv
  obtain ⟨rfl, hP, hK⟩ := hv
  have hx := B9.exec
  have hb := B9.bytes
  have hr := B9.returns
  have hts := atoms_spec (ws := wsX0_wouldBeScorned) B9.pre
  have hown : s.vm.findClass RX0 = some m.cls := findClass_of_methodNamed B9.named
  have hlocks := B9.notSynchronized
  have hin0 : ∀ w ∈ wsX00, w ∈ wsX0_wouldBeScorned := by decide +kernel
  have w_0 := hts (.fieldLink RX0 26 "ApologyLedger" "states" "[I") (by decide +kernel)
  have hl := lv_entry ([.ref x, .int (iI (k : Int)), .int (iI w)]) (n := 3) (Nat.le_of_ble_eq_true rfl)
  rw [lg_entry_eq]
  generalize (lg_sl ([.ref x, .int (iI (k : Int)), .int (iI w)]) ++ List.replicate (3 - (lg_sl ([.ref x, .int (iI (k : Int)), .int (iI w)])).length) Slot.unset).toArray = ls at hl ⊢
  have hl : lv_has ls 3 [(0, .ref x), (1, .int (iI (k : Int))), (2, .int (iI w))] := hl
  have hIn := hI.n
  have hIb := hI.b
  refine lv_aload_n hx hb dX0_wouldBeScorned_0 rfl (lv_at hl 0 rfl) ?_
  refine lv_iload_n hx hb dX0_wouldBeScorned_1 rfl (lv_at hl 1 rfl) ?_
  refine zc_v (va_runV (As := [.int (iI (k : Int))]) (rest := []) ⟨hx, hb, hml, hown, hts⟩ (c_X0_requireSlight l G x a σ k (by omega) (by omega)) (cwV 1 hts gX0_wouldBeScorned_X0_requireSlight rfl rfl rfl (by decide +kernel) ⟨Nat.le_of_ble_eq_true rfl, Nat.le_of_ble_eq_true rfl⟩) (preVX hK hP) rfl rfl hl.1 rfl (lv_room (Nat.le_of_ble_eq_true rfl)) dX0_wouldBeScorned_2 ⟨Nat.le_of_ble_eq_true rfl, Nat.le_of_ble_eq_true rfl⟩) ?_
  refine lv_iload_n hx hb dX0_wouldBeScorned_5 rfl (lv_at hl 2 rfl) ?_
  refine zc_v (va_runS (As := [.int (iI w)]) (rest := []) ⟨hx, hb, hml, hown, hts⟩ (c_X0_requireWords l  w (by omega)) (va_cwS 1 hts gX0_wouldBeScorned_X0_requireWords rfl rfl rfl (by decide +kernel) ⟨Nat.le_of_ble_eq_true rfl, Nat.le_of_ble_eq_true rfl⟩) preS0 rfl rfl hl.1 rfl (lv_room (Nat.le_of_ble_eq_true rfl)) dX0_wouldBeScorned_6 ⟨Nat.le_of_ble_eq_true rfl, Nat.le_of_ble_eq_true rfl⟩) ?_
  refine lv_aload_n hx hb dX0_wouldBeScorned_9 rfl (lv_at hl 0 rfl) ?_
  refine x_get (v := .ref (a 5)) hx hb hts hin0 hown hK hP 0 rfl 6 (by decide) w_0 rfl dX0_wouldBeScorned_10 ?_
  refine lv_iload_n hx hb dX0_wouldBeScorned_13 rfl (lv_at hl 1 rfl) ?_
  refine z_iald (v := iI (σ.2 5 k)) hx hb hK hP 6 0 rfl rfl (k := k) (by omega) (by decide) rfl dX0_wouldBeScorned_14 ?_
  have f_1 := hI.r5 k
  refine z_if_ne (tgt := 36) hx hb dX0_wouldBeScorned_15 (by decide) (by omega) (fun c_2 => ?_) (fun c_2 => ?_)
  ·
    refine lv_iconst (v := iI 0) hx hb dX0_wouldBeScorned_36 rfl ?_
    refine z_re (v' := iI (wbs σ k w)) (congrArg iI (by unfold wbs; split <;> omega)) ?_
    exact W.zret hx hb hr (z_nb (by unfold wbs; split <;> omega)) (fun t ht _ => ⟨_, rfl, rfl, ht⟩) (fun q hq => absurd hq List.not_mem_nil) dX0_wouldBeScorned_37
  ·
    refine lv_aload_n hx hb dX0_wouldBeScorned_18 rfl (lv_at hl 0 rfl) ?_
    refine lv_iload_n hx hb dX0_wouldBeScorned_19 rfl (lv_at hl 1 rfl) ?_
    refine lv_iload_n hx hb dX0_wouldBeScorned_20 rfl (lv_at hl 2 rfl) ?_
    refine zc_i (va_runV (As := [.int (iI (k : Int)), .int (iI w)]) (rest := []) ⟨hx, hb, hml, hown, hts⟩ (c_X0_worthOf l G x a B σ k w hI (by omega) (by omega)) (cwV 2 hts gX0_wouldBeScorned_X0_worthOf rfl rfl rfl (by decide +kernel) ⟨Nat.le_of_ble_eq_true rfl, Nat.le_of_ble_eq_true rfl⟩) (preVX hK hP) rfl rfl hl.1 rfl (lv_room (Nat.le_of_ble_eq_true rfl)) dX0_wouldBeScorned_21 ⟨Nat.le_of_ble_eq_true rfl, Nat.le_of_ble_eq_true rfl⟩) ?_
    have f_3 := wit_bd hI k
    refine lv_aload_n hx hb dX0_wouldBeScorned_24 rfl (lv_at hl 0 rfl) ?_
    refine lv_iload_n hx hb dX0_wouldBeScorned_25 rfl (lv_at hl 1 rfl) ?_
    refine zc_i (va_runV (As := [.int (iI (k : Int))]) (rest := [.int (iI (w + 2 * wit σ k))]) ⟨hx, hb, hml, hown, hts⟩ (c_X0_leastWorthHeard l G x a B σ k hI (by omega)) (cwV 1 hts gX0_wouldBeScorned_X0_leastWorthHeard rfl rfl rfl (by decide +kernel) ⟨Nat.le_of_ble_eq_true rfl, Nat.le_of_ble_eq_true rfl⟩) (preVX hK hP) rfl rfl hl.1 rfl (lv_room (Nat.le_of_ble_eq_true rfl)) dX0_wouldBeScorned_26 ⟨Nat.le_of_ble_eq_true rfl, Nat.le_of_ble_eq_true rfl⟩) ?_
    have f_4 := lea_bd hI k
    refine z_icmp_ge (tgt := 36) hx hb dX0_wouldBeScorned_29 (by decide) (by omega) (by omega) (fun c_5 => ?_) (fun c_5 => ?_)
    ·
      refine lv_iconst (v := iI 0) hx hb dX0_wouldBeScorned_36 rfl ?_
      refine z_re (v' := iI (wbs σ k w)) (congrArg iI (by unfold wbs; split <;> omega)) ?_
      exact W.zret hx hb hr (z_nb (by unfold wbs; split <;> omega)) (fun t ht _ => ⟨_, rfl, rfl, ht⟩) (fun q hq => absurd hq List.not_mem_nil) dX0_wouldBeScorned_37
    ·
      refine lv_iconst (v := iI 1) hx hb dX0_wouldBeScorned_32 rfl ?_
      refine lv_goto (tgt := 37) hx hb dX0_wouldBeScorned_33 (by decide) ?_
      refine z_re (v' := iI (wbs σ k w)) (congrArg iI (by unfold wbs; split <;> omega)) ?_
      exact W.zret hx hb hr (z_nb (by unfold wbs; split <;> omega)) (fun t ht _ => ⟨_, rfl, rfl, ht⟩) (fun q hq => absurd hq List.not_mem_nil) dX0_wouldBeScorned_37
set_option maxHeartbeats 4000000 in
set_option maxRecDepth 100000 in
theorem c_X0_borneIn (l : Launch) (G : zG) (x : Nat) (a : Nat → Nat) (B : Nat) (σ : zS) (p : Nat) (d : Int) (hI : zI B σ) (hp : p < σ.1 0) (hd : 1 ≤ d ∧ d ≤ 60) : Met l yX0_borneIn wsX0_borneIn ({ frames := 3, cells := 0, slots := 0, locals := 69 } : Room) (va_Pc [.ref x, .int (iI (p : Int)), .int (iI d)] (pX G x a σ)) (vp_Si (fun r => r = iI (bth σ (p : Int) d))) 0 0 (fun _ => False) := by
  refine Met.ofW (cc := cX0_borneIn) (maxL := 5) (ret := (some .int)) (by decide) rfl ?_
  intro pp ee s m args below meth c s₁ B9 hml hv
  obtain ⟨rfl, hP, hK⟩ := hv
  have hx := B9.exec
  have hb := B9.bytes
  have hr := B9.returns
  have hts := atoms_spec (ws := wsX0_borneIn) B9.pre
  have hown : s.vm.findClass RX0 = some m.cls := findClass_of_methodNamed B9.named
  have hlocks := B9.notSynchronized
  have hin0 : ∀ w ∈ wsX00, w ∈ wsX0_borneIn := by decide +kernel
  have w_0 := hts (.fieldLink RX0 60 "ApologyLedger" "slightCount" "I") (by decide +kernel)
  have w_1 := hts (.fieldLink RX0 20 "ApologyLedger" "offendedOnes" "[I") (by decide +kernel)
  have hl := lv_entry ([.ref x, .int (iI (p : Int)), .int (iI d)]) (n := 5) (Nat.le_of_ble_eq_true rfl)
  rw [lg_entry_eq]
  generalize (lg_sl ([.ref x, .int (iI (p : Int)), .int (iI d)]) ++ List.replicate (5 - (lg_sl ([.ref x, .int (iI (p : Int)), .int (iI d)])).length) Slot.unset).toArray = ls at hl ⊢
  have hl : lv_has ls 5 [(0, .ref x), (1, .int (iI (p : Int))), (2, .int (iI d))] := hl
  have hIn := hI.n
  have hIb := hI.b
  refine lv_aload_n hx hb dX0_borneIn_0 rfl (lv_at hl 0 rfl) ?_
  refine lv_iload_n hx hb dX0_borneIn_1 rfl (lv_at hl 1 rfl) ?_
  refine zc_v (va_runV (As := [.int (iI (p : Int))]) (rest := []) ⟨hx, hb, hml, hown, hts⟩ (c_X0_requirePerson l G x a σ p (by omega) (by omega)) (cwV 1 hts gX0_borneIn_X0_requirePerson rfl rfl rfl (by decide +kernel) ⟨Nat.le_of_ble_eq_true rfl, Nat.le_of_ble_eq_true rfl⟩) (preVX hK hP) rfl rfl hl.1 rfl (lv_room (Nat.le_of_ble_eq_true rfl)) dX0_borneIn_2 ⟨Nat.le_of_ble_eq_true rfl, Nat.le_of_ble_eq_true rfl⟩) ?_
  refine lv_iload_n hx hb dX0_borneIn_5 rfl (lv_at hl 2 rfl) ?_
  refine zc_v (va_runS (As := [.int (iI d)]) (rest := []) ⟨hx, hb, hml, hown, hts⟩ (c_X0_requireDays l  d (by omega)) (va_cwS 1 hts gX0_borneIn_X0_requireDays rfl rfl rfl (by decide +kernel) ⟨Nat.le_of_ble_eq_true rfl, Nat.le_of_ble_eq_true rfl⟩) preS0 rfl rfl hl.1 rfl (lv_room (Nat.le_of_ble_eq_true rfl)) dX0_borneIn_6 ⟨Nat.le_of_ble_eq_true rfl, Nat.le_of_ble_eq_true rfl⟩) ?_
  refine lv_iconst (v := iI 0) hx hb dX0_borneIn_9 rfl ?_
  refine lv_istore_n (lv' := [(3, .int (iI 0)), (0, .ref x), (1, .int (iI (p : Int))), (2, .int (iI d))]) hx hb dX0_borneIn_10 rfl hl (by decide) rfl (fun ls hl => ?_)
  refine lv_iconst (v := iI 0) hx hb dX0_borneIn_11 rfl ?_
  refine lv_istore (lv' := [(4, .int (iI 0)), (3, .int (iI 0)), (0, .ref x), (1, .int (iI (p : Int))), (2, .int (iI d))]) hx hb dX0_borneIn_12 hl (by decide) rfl (fun ls hl => ?_)
  have LP14 : ∀ (r14 : Nat) (j : Nat) (s1 : Int), j ≤ σ.1 1 → σ.1 1 - j < r14 → s1 = zs (fun k => if σ.2 3 k = (p : Int) then lat σ k d else 0) j → ∀ (ls : Array Slot), lv_has ls 5 [(4, .int (iI (j : Int))), (3, .int (iI s1)), (0, .ref x), (1, .int (iI (p : Int))), (2, .int (iI d))] → W pp l ee (headSpec wsX0_borneIn ({ frames := 3, cells := 0, slots := 0, locals := 69 } : Room)).room s m ([.ref x, .int (iI (p : Int)), .int (iI d)] : List Value).toArray below meth c s.heap [] 0 0 (MQ below (vp_Si (fun r => r = iI (bth σ (p : Int) d))) ([.ref x, .int (iI (p : Int)), .int (iI d)] : List Value).toArray s 0 0 (fun _ => False)) (F0 m 14 ls []) := by
    intro r14
    induction r14 with
    | zero => intro j s1 hv14_0 hv14_1; exfalso; omega
    | succ r14 ih14 =>
      intro j s1 hv14_0 hv14_1 hv14_2 ls hl
      refine lv_iload hx hb dX0_borneIn_14 (lv_at hl 0 rfl) ?_
      refine lv_aload_n hx hb dX0_borneIn_16 rfl (lv_at hl 2 rfl) ?_
      refine x_get (v := .int (iI (σ.1 1 : Nat))) hx hb hts hin0 hown hK hP 0 rfl 9 (by decide) w_0 rfl dX0_borneIn_17 ?_
      refine z_icmp_ge (tgt := 50) hx hb dX0_borneIn_20 (by decide) (by omega) (by omega) (fun c_1 => ?_) (fun c_1 => ?_)
      ·
        refine lv_iload_n hx hb dX0_borneIn_50 rfl (lv_at hl 1 rfl) ?_
        refine z_re (v' := iI (bth σ (p : Int) d)) (congrArg iI (by rw [hv14_2, show j = σ.1 1 from by omega]; rfl)) ?_
        exact W.iret hx hb hr (fun t ht _ => ⟨_, rfl, rfl, ht⟩) (fun q hq => absurd hq List.not_mem_nil) dX0_borneIn_51
      ·
        refine lv_aload_n hx hb dX0_borneIn_23 rfl (lv_at hl 2 rfl) ?_
        refine x_get (v := .ref (a 3)) hx hb hts hin0 hown hK hP 0 rfl 4 (by decide) w_1 rfl dX0_borneIn_24 ?_
        refine lv_iload hx hb dX0_borneIn_27 (lv_at hl 0 rfl) ?_
        refine z_iald (v := iI (σ.2 3 j)) hx hb hK hP 4 0 rfl rfl (k := j) (by omega) (by decide) rfl dX0_borneIn_29 ?_
        have f_2 := hI.r3 (k := j) (by omega)
        refine lv_iload_n hx hb dX0_borneIn_30 rfl (lv_at hl 3 rfl) ?_
        refine z_icmp_ne (tgt := 44) hx hb dX0_borneIn_31 (by decide) (by omega) (by omega) (fun c_3 => ?_) (fun c_3 => ?_)
        ·
          refine lv_iinc (v := iI ((j : Int) + 1)) (lv' := [(4, .int (iI ((j : Int) + 1))), (3, .int (iI s1)), (0, .ref x), (1, .int (iI (p : Int))), (2, .int (iI d))]) hx hb dX0_borneIn_44 hl (k := 0) rfl (iI_add _ _) (by decide) rfl (fun ls hl => ?_)
          refine lv_goto (tgt := 14) hx hb dX0_borneIn_47 (by decide) ?_
          exact ih14 (j + 1) s1 (by omega) (by omega) (by rw [zs_s, ← hv14_2]; (try dsimp only); split <;> omega) ls (lv_sub hl [0, 1, 2, 3, 4] rfl)
        ·
          refine lv_iload_n hx hb dX0_borneIn_34 rfl (lv_at hl 1 rfl) ?_
          refine lv_aload_n hx hb dX0_borneIn_35 rfl (lv_at hl 2 rfl) ?_
          refine lv_iload hx hb dX0_borneIn_36 (lv_at hl 0 rfl) ?_
          refine lv_iload_n hx hb dX0_borneIn_38 rfl (lv_at hl 4 rfl) ?_
          refine zc_i (va_runV (As := [.int (iI (j : Int)), .int (iI d)]) (rest := [.int (iI s1)]) ⟨hx, hb, hml, hown, hts⟩ (c_X0_weightIn l G x a B σ j d hI (by omega) (by omega)) (cwV 2 hts gX0_borneIn_X0_weightIn rfl rfl rfl (by decide +kernel) ⟨Nat.le_of_ble_eq_true rfl, Nat.le_of_ble_eq_true rfl⟩) (preVX hK hP) rfl rfl hl.1 rfl (lv_room (Nat.le_of_ble_eq_true rfl)) dX0_borneIn_39 ⟨Nat.le_of_ble_eq_true rfl, Nat.le_of_ble_eq_true rfl⟩) ?_
          have f_4 := lat_bd hI j d
          refine z_iadd hx hb dX0_borneIn_42 ?_
          refine lv_istore_n (lv' := [(3, .int (iI (s1 + (lat σ j d)))), (4, .int (iI (j : Int))), (0, .ref x), (1, .int (iI (p : Int))), (2, .int (iI d))]) hx hb dX0_borneIn_43 rfl hl (by decide) rfl (fun ls hl => ?_)
          refine lv_iinc (v := iI ((j : Int) + 1)) (lv' := [(4, .int (iI ((j : Int) + 1))), (3, .int (iI (s1 + (lat σ j d)))), (0, .ref x), (1, .int (iI (p : Int))), (2, .int (iI d))]) hx hb dX0_borneIn_44 hl (k := 1) rfl (iI_add _ _) (by decide) rfl (fun ls hl => ?_)
          refine lv_goto (tgt := 14) hx hb dX0_borneIn_47 (by decide) ?_
          exact ih14 (j + 1) (s1 + (lat σ j d)) (by omega) (by omega) (by rw [zs_s, ← hv14_2]; (try dsimp only); split <;> omega) ls (lv_sub hl [0, 1, 2, 3, 4] rfl)
  exact LP14 (σ.1 1 - (0) + 1) 0 0 (by omega) (by omega) (by rfl) ls (lv_sub hl [0, 1, 2, 3, 4] rfl)
set_option maxHeartbeats 4000000 in
set_option maxRecDepth 100000 in
theorem c_X0_worstToKeep (l : Launch) (G : zG) (x : Nat) (a : Nat → Nat) (B : Nat) (σ : zS) (p : Nat) (hI : zI B σ) (hp : p < σ.1 0) : Met l yX0_worstToKeep wsX0_worstToKeep ({ frames := 3, cells := 0, slots := 0, locals := 69 } : Room) (va_Pc [.ref x, .int (iI (p : Int))] (pX G x a σ)) (vp_Si (fun r => r = iI (wor σ (p : Int)))) 0 0 (fun _ => False) := by
  refine Met.ofW (cc := cX0_worstToKeep) (maxL := 6) (ret := (some .int)) (by decide) rfl ?_
  intro pp ee s m args below meth c s₁ B9 hml hv
  obtain ⟨rfl, hP, hK⟩ := hv
  have hx := B9.exec
  have hb := B9.bytes
  have hr := B9.returns
  have hts := atoms_spec (ws := wsX0_worstToKeep) B9.pre
  have hown : s.vm.findClass RX0 = some m.cls := findClass_of_methodNamed B9.named
  have hlocks := B9.notSynchronized
  have hin0 : ∀ w ∈ wsX00, w ∈ wsX0_worstToKeep := by decide +kernel
  have w_0 := hts (.fieldLink RX0 60 "ApologyLedger" "slightCount" "I") (by decide +kernel)
  have w_1 := hts (.fieldLink RX0 26 "ApologyLedger" "states" "[I") (by decide +kernel)
  have w_2 := hts (.fieldLink RX0 17 "ApologyLedger" "offenders" "[I") (by decide +kernel)
  have w_3 := hts (.fieldLink RX0 23 "ApologyLedger" "weights" "[I") (by decide +kernel)
  have hl := lv_entry ([.ref x, .int (iI (p : Int))]) (n := 6) (Nat.le_of_ble_eq_true rfl)
  rw [lg_entry_eq]
  generalize (lg_sl ([.ref x, .int (iI (p : Int))]) ++ List.replicate (6 - (lg_sl ([.ref x, .int (iI (p : Int))])).length) Slot.unset).toArray = ls at hl ⊢
  have hl : lv_has ls 6 [(0, .ref x), (1, .int (iI (p : Int)))] := hl
  have hIn := hI.n
  have hIb := hI.b
  refine lv_aload_n hx hb dX0_worstToKeep_0 rfl (lv_at hl 0 rfl) ?_
  refine lv_iload_n hx hb dX0_worstToKeep_1 rfl (lv_at hl 1 rfl) ?_
  refine zc_v (va_runV (As := [.int (iI (p : Int))]) (rest := []) ⟨hx, hb, hml, hown, hts⟩ (c_X0_requirePerson l G x a σ p (by omega) (by omega)) (cwV 1 hts gX0_worstToKeep_X0_requirePerson rfl rfl rfl (by decide +kernel) ⟨Nat.le_of_ble_eq_true rfl, Nat.le_of_ble_eq_true rfl⟩) (preVX hK hP) rfl rfl hl.1 rfl (lv_room (Nat.le_of_ble_eq_true rfl)) dX0_worstToKeep_2 ⟨Nat.le_of_ble_eq_true rfl, Nat.le_of_ble_eq_true rfl⟩) ?_
  refine lv_iconst (v := iI (-1)) hx hb dX0_worstToKeep_5 rfl ?_
  refine lv_istore_n (lv' := [(2, .int (iI (-1))), (0, .ref x), (1, .int (iI (p : Int)))]) hx hb dX0_worstToKeep_6 rfl hl (by decide) rfl (fun ls hl => ?_)
  refine lv_iconst (v := iI 0) hx hb dX0_worstToKeep_7 rfl ?_
  refine lv_istore_n (lv' := [(3, .int (iI 0)), (2, .int (iI (-1))), (0, .ref x), (1, .int (iI (p : Int)))]) hx hb dX0_worstToKeep_8 rfl hl (by decide) rfl (fun ls hl => ?_)
  refine lv_iconst (v := iI 0) hx hb dX0_worstToKeep_9 rfl ?_
  refine lv_istore (lv' := [(4, .int (iI 0)), (3, .int (iI 0)), (2, .int (iI (-1))), (0, .ref x), (1, .int (iI (p : Int)))]) hx hb dX0_worstToKeep_10 hl (by decide) rfl (fun ls hl => ?_)
  have LP12 : ∀ (r12 : Nat) (j : Nat) (s1 : Int) (s2 : Int), j ≤ σ.1 1 → σ.1 1 - j < r12 → s1 = arg (fun k => σ.2 5 k = 0 ∧ σ.2 2 k = (p : Int)) (fun k => lat σ k 20 - σ.2 4 k) j → (s1 = -1 ∧ s2 = 0) ∨ (s1 ≠ -1 ∧ s2 = lat σ s1.toNat 20 - σ.2 4 s1.toNat) → ∀ (ls : Array Slot), lv_has ls 6 [(4, .int (iI (j : Int))), (3, .int (iI s2)), (2, .int (iI s1)), (0, .ref x), (1, .int (iI (p : Int)))] → W pp l ee (headSpec wsX0_worstToKeep ({ frames := 3, cells := 0, slots := 0, locals := 69 } : Room)).room s m ([.ref x, .int (iI (p : Int))] : List Value).toArray below meth c s.heap [] 0 0 (MQ below (vp_Si (fun r => r = iI (wor σ (p : Int)))) ([.ref x, .int (iI (p : Int))] : List Value).toArray s 0 0 (fun _ => False)) (F0 m 12 ls []) := by
    intro r12
    induction r12 with
    | zero => intro j s1 s2 hv12_0 hv12_1; exfalso; omega
    | succ r12 ih12 =>
      intro j s1 s2 hv12_0 hv12_1 hv12_2 hv12_3 ls hl
      have f_1 := hI.r4 s1.toNat
      have f_2 := lat_bd hI s1.toNat 20
      have f_3 := arg_bd (fun k => σ.2 5 k = 0 ∧ σ.2 2 k = (p : Int)) (fun k => lat σ k 20 - σ.2 4 k) j
      refine lv_iload hx hb dX0_worstToKeep_12 (lv_at hl 0 rfl) ?_
      refine lv_aload_n hx hb dX0_worstToKeep_14 rfl (lv_at hl 3 rfl) ?_
      refine x_get (v := .int (iI (σ.1 1 : Nat))) hx hb hts hin0 hown hK hP 0 rfl 9 (by decide) w_0 rfl dX0_worstToKeep_15 ?_
      refine z_icmp_ge (tgt := 83) hx hb dX0_worstToKeep_18 (by decide) (by omega) (by omega) (fun c_4 => ?_) (fun c_4 => ?_)
      ·
        refine lv_iload_n hx hb dX0_worstToKeep_83 rfl (lv_at hl 2 rfl) ?_
        refine z_re (v' := iI (wor σ (p : Int))) (congrArg iI (by rw [hv12_2, show j = σ.1 1 from by omega]; rfl)) ?_
        exact W.iret hx hb hr (fun t ht _ => ⟨_, rfl, rfl, ht⟩) (fun q hq => absurd hq List.not_mem_nil) dX0_worstToKeep_84
      ·
        refine lv_aload_n hx hb dX0_worstToKeep_21 rfl (lv_at hl 3 rfl) ?_
        refine x_get (v := .ref (a 5)) hx hb hts hin0 hown hK hP 0 rfl 6 (by decide) w_1 rfl dX0_worstToKeep_22 ?_
        refine lv_iload hx hb dX0_worstToKeep_25 (lv_at hl 0 rfl) ?_
        refine z_iald (v := iI (σ.2 5 j)) hx hb hK hP 6 0 rfl rfl (k := j) (by omega) (by decide) rfl dX0_worstToKeep_27 ?_
        have f_5 := hI.r5 j
        refine z_if_ne (tgt := 77) hx hb dX0_worstToKeep_28 (by decide) (by omega) (fun c_6 => ?_) (fun c_6 => ?_)
        ·
          refine lv_iinc (v := iI ((j : Int) + 1)) (lv' := [(4, .int (iI ((j : Int) + 1))), (3, .int (iI s2)), (2, .int (iI s1)), (0, .ref x), (1, .int (iI (p : Int)))]) hx hb dX0_worstToKeep_77 hl (k := 0) rfl (iI_add _ _) (by decide) rfl (fun ls hl => ?_)
          refine lv_goto (tgt := 12) hx hb dX0_worstToKeep_80 (by decide) ?_
          exact ih12 (j + 1) s1 s2 (by omega) (by omega) (by rw [arg_s, ← hv12_2]; (try dsimp only); split <;> omega) (by first | omega | (right; exact ⟨by omega, by simp⟩)) ls (lv_sub hl [0, 1, 2, 3, 4] rfl)
        ·
          refine lv_aload_n hx hb dX0_worstToKeep_31 rfl (lv_at hl 3 rfl) ?_
          refine x_get (v := .ref (a 2)) hx hb hts hin0 hown hK hP 0 rfl 3 (by decide) w_2 rfl dX0_worstToKeep_32 ?_
          refine lv_iload hx hb dX0_worstToKeep_35 (lv_at hl 0 rfl) ?_
          refine z_iald (v := iI (σ.2 2 j)) hx hb hK hP 3 0 rfl rfl (k := j) (by omega) (by decide) rfl dX0_worstToKeep_37 ?_
          have f_7 := hI.r2 (k := j) (by omega)
          refine lv_iload_n hx hb dX0_worstToKeep_38 rfl (lv_at hl 4 rfl) ?_
          refine z_icmp_ne (tgt := 77) hx hb dX0_worstToKeep_39 (by decide) (by omega) (by omega) (fun c_8 => ?_) (fun c_8 => ?_)
          ·
            refine lv_iinc (v := iI ((j : Int) + 1)) (lv' := [(4, .int (iI ((j : Int) + 1))), (3, .int (iI s2)), (2, .int (iI s1)), (0, .ref x), (1, .int (iI (p : Int)))]) hx hb dX0_worstToKeep_77 hl (k := 0) rfl (iI_add _ _) (by decide) rfl (fun ls hl => ?_)
            refine lv_goto (tgt := 12) hx hb dX0_worstToKeep_80 (by decide) ?_
            exact ih12 (j + 1) s1 s2 (by omega) (by omega) (by rw [arg_s, ← hv12_2]; (try dsimp only); split <;> omega) (by first | omega | (right; exact ⟨by omega, by simp⟩)) ls (lv_sub hl [0, 1, 2, 3, 4] rfl)
          ·
            refine lv_aload_n hx hb dX0_worstToKeep_42 rfl (lv_at hl 3 rfl) ?_
            refine lv_iload hx hb dX0_worstToKeep_43 (lv_at hl 0 rfl) ?_
            refine lv_bipush (v := iI 20) hx hb dX0_worstToKeep_45 (by decide) ?_
            refine zc_i (va_runV (As := [.int (iI (j : Int)), .int (iI 20)]) (rest := []) ⟨hx, hb, hml, hown, hts⟩ (c_X0_weightIn l G x a B σ j 20 hI (by omega) (by omega)) (cwV 2 hts gX0_worstToKeep_X0_weightIn rfl rfl rfl (by decide +kernel) ⟨Nat.le_of_ble_eq_true rfl, Nat.le_of_ble_eq_true rfl⟩) (preVX hK hP) rfl rfl hl.1 rfl (lv_room (Nat.le_of_ble_eq_true rfl)) dX0_worstToKeep_47 ⟨Nat.le_of_ble_eq_true rfl, Nat.le_of_ble_eq_true rfl⟩) ?_
            have f_9 := lat_bd hI j 20
            refine lv_aload_n hx hb dX0_worstToKeep_50 rfl (lv_at hl 3 rfl) ?_
            refine x_get (v := .ref (a 4)) hx hb hts hin0 hown hK hP 0 rfl 5 (by decide) w_3 rfl dX0_worstToKeep_51 ?_
            refine lv_iload hx hb dX0_worstToKeep_54 (lv_at hl 0 rfl) ?_
            refine z_iald (v := iI (σ.2 4 j)) hx hb hK hP 5 0 rfl rfl (k := j) (by omega) (by decide) rfl dX0_worstToKeep_56 ?_
            have f_10 := hI.r4 j
            refine z_isub hx hb dX0_worstToKeep_57 ?_
            refine lv_istore (lv' := [(5, .int (iI ((lat σ j 20) - (σ.2 4 j)))), (4, .int (iI (j : Int))), (3, .int (iI s2)), (2, .int (iI s1)), (0, .ref x), (1, .int (iI (p : Int)))]) hx hb dX0_worstToKeep_58 hl (by decide) rfl (fun ls hl => ?_)
            refine lv_iload_n hx hb dX0_worstToKeep_60 rfl (lv_at hl 3 rfl) ?_
            refine lv_iconst (v := iI (-1)) hx hb dX0_worstToKeep_61 rfl ?_
            refine z_icmp_eq (tgt := 71) hx hb dX0_worstToKeep_62 (by decide) (by omega) (by omega) (fun c_11 => ?_) (fun c_11 => ?_)
            ·
              refine lv_iload hx hb dX0_worstToKeep_71 (lv_at hl 1 rfl) ?_
              refine lv_istore_n (lv' := [(2, .int (iI (j : Int))), (5, .int (iI ((lat σ j 20) - (σ.2 4 j)))), (4, .int (iI (j : Int))), (3, .int (iI s2)), (0, .ref x), (1, .int (iI (p : Int)))]) hx hb dX0_worstToKeep_73 rfl hl (by decide) rfl (fun ls hl => ?_)
              refine lv_iload hx hb dX0_worstToKeep_74 (lv_at hl 1 rfl) ?_
              refine lv_istore_n (lv' := [(3, .int (iI ((lat σ j 20) - (σ.2 4 j)))), (2, .int (iI (j : Int))), (5, .int (iI ((lat σ j 20) - (σ.2 4 j)))), (4, .int (iI (j : Int))), (0, .ref x), (1, .int (iI (p : Int)))]) hx hb dX0_worstToKeep_76 rfl hl (by decide) rfl (fun ls hl => ?_)
              refine lv_iinc (v := iI ((j : Int) + 1)) (lv' := [(4, .int (iI ((j : Int) + 1))), (3, .int (iI ((lat σ j 20) - (σ.2 4 j)))), (2, .int (iI (j : Int))), (5, .int (iI ((lat σ j 20) - (σ.2 4 j)))), (0, .ref x), (1, .int (iI (p : Int)))]) hx hb dX0_worstToKeep_77 hl (k := 3) rfl (iI_add _ _) (by decide) rfl (fun ls hl => ?_)
              refine lv_goto (tgt := 12) hx hb dX0_worstToKeep_80 (by decide) ?_
              exact ih12 (j + 1) (j : Int) ((lat σ j 20) - (σ.2 4 j)) (by omega) (by omega) (by rw [arg_s, ← hv12_2]; (try dsimp only); split <;> omega) (by first | omega | (right; exact ⟨by omega, by simp⟩)) ls (lv_sub hl [0, 1, 2, 4, 5] rfl)
            ·
              refine lv_iload hx hb dX0_worstToKeep_65 (lv_at hl 0 rfl) ?_
              refine lv_iload_n hx hb dX0_worstToKeep_67 rfl (lv_at hl 2 rfl) ?_
              refine z_icmp_le (tgt := 77) hx hb dX0_worstToKeep_68 (by decide) (by omega) (by omega) (fun c_12 => ?_) (fun c_12 => ?_)
              ·
                refine lv_iinc (v := iI ((j : Int) + 1)) (lv' := [(4, .int (iI ((j : Int) + 1))), (5, .int (iI ((lat σ j 20) - (σ.2 4 j)))), (3, .int (iI s2)), (2, .int (iI s1)), (0, .ref x), (1, .int (iI (p : Int)))]) hx hb dX0_worstToKeep_77 hl (k := 1) rfl (iI_add _ _) (by decide) rfl (fun ls hl => ?_)
                refine lv_goto (tgt := 12) hx hb dX0_worstToKeep_80 (by decide) ?_
                exact ih12 (j + 1) s1 s2 (by omega) (by omega) (by rw [arg_s, ← hv12_2]; (try dsimp only); split <;> omega) (by first | omega | (right; exact ⟨by omega, by simp⟩)) ls (lv_sub hl [0, 2, 3, 4, 5] rfl)
              ·
                refine lv_iload hx hb dX0_worstToKeep_71 (lv_at hl 1 rfl) ?_
                refine lv_istore_n (lv' := [(2, .int (iI (j : Int))), (5, .int (iI ((lat σ j 20) - (σ.2 4 j)))), (4, .int (iI (j : Int))), (3, .int (iI s2)), (0, .ref x), (1, .int (iI (p : Int)))]) hx hb dX0_worstToKeep_73 rfl hl (by decide) rfl (fun ls hl => ?_)
                refine lv_iload hx hb dX0_worstToKeep_74 (lv_at hl 1 rfl) ?_
                refine lv_istore_n (lv' := [(3, .int (iI ((lat σ j 20) - (σ.2 4 j)))), (2, .int (iI (j : Int))), (5, .int (iI ((lat σ j 20) - (σ.2 4 j)))), (4, .int (iI (j : Int))), (0, .ref x), (1, .int (iI (p : Int)))]) hx hb dX0_worstToKeep_76 rfl hl (by decide) rfl (fun ls hl => ?_)
                refine lv_iinc (v := iI ((j : Int) + 1)) (lv' := [(4, .int (iI ((j : Int) + 1))), (3, .int (iI ((lat σ j 20) - (σ.2 4 j)))), (2, .int (iI (j : Int))), (5, .int (iI ((lat σ j 20) - (σ.2 4 j)))), (0, .ref x), (1, .int (iI (p : Int)))]) hx hb dX0_worstToKeep_77 hl (k := 3) rfl (iI_add _ _) (by decide) rfl (fun ls hl => ?_)
                refine lv_goto (tgt := 12) hx hb dX0_worstToKeep_80 (by decide) ?_
                exact ih12 (j + 1) (j : Int) ((lat σ j 20) - (σ.2 4 j)) (by omega) (by omega) (by rw [arg_s, ← hv12_2]; (try dsimp only); split <;> omega) (by first | omega | (right; exact ⟨by omega, by simp⟩)) ls (lv_sub hl [0, 1, 2, 4, 5] rfl)
  exact LP12 (σ.1 1 - (0) + 1) 0 (-1) 0 (by omega) (by omega) (by rfl) (by left; exact ⟨rfl, rfl⟩) ls (lv_sub hl [0, 1, 2, 3, 4] rfl)
set_option maxHeartbeats 4000000 in
set_option maxRecDepth 100000 in
theorem c_X0_meanWeight (l : Launch) (G : zG) (x : Nat) (a : Nat → Nat) (B : Nat) (σ : zS) (hI : zI B σ) : Met l yX0_meanWeight wsX0_meanWeight ({ frames := 0, cells := 0, slots := 0, locals := 0 } : Room) (va_Pc [.ref x] (pX G x a σ)) (vp_Sd (fun r => r = mea σ)) 0 0 (fun _ => False) := by
  refine Met.ofW (cc := cX0_meanWeight) (maxL := 4) (ret := (some .double)) (by decide) rfl ?_
  intro pp ee s m args below meth c s₁ B9 hml hv
  obtain ⟨rfl, hP, hK⟩ := hv
  have hx := B9.exec
  have hb := B9.bytes
  have hr := B9.returns
  have hts := atoms_spec (ws := wsX0_meanWeight) B9.pre
  have hown : s.vm.findClass RX0 = some m.cls := findClass_of_methodNamed B9.named
  have hlocks := B9.notSynchronized
  have hin0 : ∀ w ∈ wsX00, w ∈ wsX0_meanWeight := by decide +kernel
  have w_0 := hts (.fieldLink RX0 60 "ApologyLedger" "slightCount" "I") (by decide +kernel)
  have w_1 := hts (.fieldLink RX0 26 "ApologyLedger" "states" "[I") (by decide +kernel)
  have w_2 := hts (.fieldLink RX0 23 "ApologyLedger" "weights" "[I") (by decide +kernel)
  have hl := lv_entry ([.ref x]) (n := 4) (Nat.le_of_ble_eq_true rfl)
  rw [lg_entry_eq]
  generalize (lg_sl ([.ref x]) ++ List.replicate (4 - (lg_sl ([.ref x])).length) Slot.unset).toArray = ls at hl ⊢
  have hl : lv_has ls 4 [(0, .ref x)] := hl
  have hIn := hI.n
  have hIb := hI.b
  refine lv_iconst (v := iI 0) hx hb dX0_meanWeight_0 rfl ?_
  refine lv_istore_n (lv' := [(1, .int (iI 0)), (0, .ref x)]) hx hb dX0_meanWeight_1 rfl hl (by decide) rfl (fun ls hl => ?_)
  refine lv_iconst (v := iI 0) hx hb dX0_meanWeight_2 rfl ?_
  refine lv_istore_n (lv' := [(2, .int (iI 0)), (1, .int (iI 0)), (0, .ref x)]) hx hb dX0_meanWeight_3 rfl hl (by decide) rfl (fun ls hl => ?_)
  refine lv_iconst (v := iI 0) hx hb dX0_meanWeight_4 rfl ?_
  refine lv_istore_n (lv' := [(3, .int (iI 0)), (2, .int (iI 0)), (1, .int (iI 0)), (0, .ref x)]) hx hb dX0_meanWeight_5 rfl hl (by decide) rfl (fun ls hl => ?_)
  have LP6 : ∀ (r6 : Nat) (j : Nat) (s1 : Int) (s2 : Int), j ≤ σ.1 1 → σ.1 1 - j < r6 → s1 = zs (fun k => if σ.2 5 k = 0 then σ.2 4 k else 0) j → s2 = zs (fun k => if σ.2 5 k = 0 then 1 else 0) j → ∀ (ls : Array Slot), lv_has ls 4 [(3, .int (iI (j : Int))), (2, .int (iI s2)), (1, .int (iI s1)), (0, .ref x)] → W pp l ee (headSpec wsX0_meanWeight ({ frames := 0, cells := 0, slots := 0, locals := 0 } : Room)).room s m ([.ref x] : List Value).toArray below meth c s.heap [] 0 0 (MQ below (vp_Sd (fun r => r = mea σ)) ([.ref x] : List Value).toArray s 0 0 (fun _ => False)) (F0 m 6 ls []) := by
    intro r6
    induction r6 with
    | zero => intro j s1 s2 hv6_0 hv6_1; exfalso; omega
    | succ r6 ih6 =>
      intro j s1 s2 hv6_0 hv6_1 hv6_2 hv6_3 ls hl
      have f_1 := cnt_bj σ j
      refine lv_iload_n hx hb dX0_meanWeight_6 rfl (lv_at hl 0 rfl) ?_
      refine lv_aload_n hx hb dX0_meanWeight_7 rfl (lv_at hl 3 rfl) ?_
      refine x_get (v := .int (iI (σ.1 1 : Nat))) hx hb hts hin0 hown hK hP 0 rfl 9 (by decide) w_0 rfl dX0_meanWeight_8 ?_
      refine z_icmp_ge (tgt := 41) hx hb dX0_meanWeight_11 (by decide) (by omega) (by omega) (fun c_2 => ?_) (fun c_2 => ?_)
      ·
        refine lv_iload_n hx hb dX0_meanWeight_41 rfl (lv_at hl 1 rfl) ?_
        refine z_if_ne (tgt := 49) hx hb dX0_meanWeight_42 (by decide) (by omega) (fun c_3 => ?_) (fun c_3 => ?_)
        ·
          refine lv_iload_n hx hb dX0_meanWeight_49 rfl (lv_at hl 2 rfl) ?_
          refine lv_i2d hx hb dX0_meanWeight_50 ?_
          refine lv_iload_n hx hb dX0_meanWeight_51 rfl (lv_at hl 1 rfl) ?_
          refine lv_i2d hx hb dX0_meanWeight_52 ?_
          refine lv_ddiv hx hb dX0_meanWeight_53 (by rw [hv6_2, hv6_3]; exact mea_nan hI j (by omega) (by omega)) ?_
          exact W.dret hx hb hr (fun t ht _ => ⟨_, rfl, (by rw [mea, if_neg (by rw [cnt, show σ.1 1 = j from by omega]; omega), tot, cnt, show σ.1 1 = j from by omega, hv6_2, hv6_3]), ht⟩) (fun q hq => absurd hq List.not_mem_nil) dX0_meanWeight_54
        ·
          refine lv_dconst0 hx hb dX0_meanWeight_45 ?_
          refine lv_goto (tgt := 54) hx hb dX0_meanWeight_46 (by decide) ?_
          exact W.dret hx hb hr (fun t ht _ => ⟨_, rfl, (by rw [mea, if_pos (by rw [cnt, show σ.1 1 = j from by omega]; omega)]), ht⟩) (fun q hq => absurd hq List.not_mem_nil) dX0_meanWeight_54
      ·
        refine lv_aload_n hx hb dX0_meanWeight_14 rfl (lv_at hl 3 rfl) ?_
        refine x_get (v := .ref (a 5)) hx hb hts hin0 hown hK hP 0 rfl 6 (by decide) w_1 rfl dX0_meanWeight_15 ?_
        refine lv_iload_n hx hb dX0_meanWeight_18 rfl (lv_at hl 0 rfl) ?_
        refine z_iald (v := iI (σ.2 5 j)) hx hb hK hP 6 0 rfl rfl (k := j) (by omega) (by decide) rfl dX0_meanWeight_19 ?_
        have f_4 := hI.r5 j
        refine z_if_ne (tgt := 35) hx hb dX0_meanWeight_20 (by decide) (by omega) (fun c_5 => ?_) (fun c_5 => ?_)
        ·
          refine lv_iinc (v := iI ((j : Int) + 1)) (lv' := [(3, .int (iI ((j : Int) + 1))), (2, .int (iI s2)), (1, .int (iI s1)), (0, .ref x)]) hx hb dX0_meanWeight_35 hl (k := 0) rfl (iI_add _ _) (by decide) rfl (fun ls hl => ?_)
          refine lv_goto (tgt := 6) hx hb dX0_meanWeight_38 (by decide) ?_
          exact ih6 (j + 1) s1 s2 (by omega) (by omega) (by rw [zs_s, ← hv6_2]; (try dsimp only); split <;> omega) (by rw [zs_s, ← hv6_3]; (try dsimp only); split <;> omega) ls (lv_sub hl [0, 1, 2, 3] rfl)
        ·
          refine lv_iload_n hx hb dX0_meanWeight_23 rfl (lv_at hl 2 rfl) ?_
          refine lv_aload_n hx hb dX0_meanWeight_24 rfl (lv_at hl 3 rfl) ?_
          refine x_get (v := .ref (a 4)) hx hb hts hin0 hown hK hP 0 rfl 5 (by decide) w_2 rfl dX0_meanWeight_25 ?_
          refine lv_iload_n hx hb dX0_meanWeight_28 rfl (lv_at hl 0 rfl) ?_
          refine z_iald (v := iI (σ.2 4 j)) hx hb hK hP 5 0 rfl rfl (k := j) (by omega) (by decide) rfl dX0_meanWeight_29 ?_
          have f_6 := hI.r4 j
          refine z_iadd hx hb dX0_meanWeight_30 ?_
          refine lv_istore_n (lv' := [(1, .int (iI (s1 + (σ.2 4 j)))), (3, .int (iI (j : Int))), (2, .int (iI s2)), (0, .ref x)]) hx hb dX0_meanWeight_31 rfl hl (by decide) rfl (fun ls hl => ?_)
          refine lv_iinc (v := iI (s2 + 1)) (lv' := [(2, .int (iI (s2 + 1))), (1, .int (iI (s1 + (σ.2 4 j)))), (3, .int (iI (j : Int))), (0, .ref x)]) hx hb dX0_meanWeight_32 hl (k := 2) rfl (iI_add _ _) (by decide) rfl (fun ls hl => ?_)
          refine lv_iinc (v := iI ((j : Int) + 1)) (lv' := [(3, .int (iI ((j : Int) + 1))), (2, .int (iI (s2 + 1))), (1, .int (iI (s1 + (σ.2 4 j)))), (0, .ref x)]) hx hb dX0_meanWeight_35 hl (k := 2) rfl (iI_add _ _) (by decide) rfl (fun ls hl => ?_)
          refine lv_goto (tgt := 6) hx hb dX0_meanWeight_38 (by decide) ?_
          exact ih6 (j + 1) (s1 + (σ.2 4 j)) (s2 + 1) (by omega) (by omega) (by rw [zs_s, ← hv6_2]; (try dsimp only); split <;> omega) (by rw [zs_s, ← hv6_3]; (try dsimp only); split <;> omega) ls (lv_sub hl [0, 1, 2, 3] rfl)
  exact LP6 (σ.1 1 - (0) + 1) 0 0 0 (by omega) (by omega) (by rfl) (by rfl) ls (lv_sub hl [0, 1, 2, 3] rfl)
set_option maxHeartbeats 4000000 in
set_option maxRecDepth 100000 in
theorem c_X0_digestWith (l : Launch)  (d : Int64) (y : Int64)  : Met l yX0_digestWith wsX0_digestWith ({ frames := 0, cells := 0, slots := 0, locals := 0 } : Room) (va_Pc [.long d, .long y] (fun _ => True)) (vp_Sl (fun r => r = (d * 31 + y))) 0 0 (fun _ => False) := by
  refine Met.ofW (cc := cX0_digestWith) (maxL := 4) (ret := (some .long)) (by decide) rfl ?_
  intro pp ee s m args below meth c s₁ B9 hml hv
  obtain ⟨rfl, -⟩ := hv
  have hx := B9.exec
  have hb := B9.bytes
  have hr := B9.returns
  have hts := atoms_spec (ws := wsX0_digestWith) B9.pre
  have hown : s.vm.findClass RX0 = some m.cls := findClass_of_methodNamed B9.named
  have hlocks := B9.notSynchronized
  have w_0 := hts (.constantLong RX0 183 31) (by decide +kernel)
  have hl := lv_entry ([.long d, .long y]) (n := 4) (Nat.le_of_ble_eq_true rfl)
  rw [lg_entry_eq]
  generalize (lg_sl ([.long d, .long y]) ++ List.replicate (4 - (lg_sl ([.long d, .long y])).length) Slot.unset).toArray = ls at hl ⊢
  have hl : lv_has ls 4 [(0, .long d), (2, .long y)] := hl
  refine lv_lload_n hx hb dX0_digestWith_0 rfl (lv_at hl 0 rfl) ?_
  refine lv_ldc2 hx hb hown w_0 dX0_digestWith_1 ?_
  refine lv_lmul hx hb dX0_digestWith_4 ?_
  refine lv_lload_n hx hb dX0_digestWith_5 rfl (lv_at hl 1 rfl) ?_
  refine lv_ladd hx hb dX0_digestWith_6 ?_
  exact W.lret hx hb hr (fun t ht _ => ⟨_, rfl, (by rfl), ht⟩) (fun q hq => absurd hq List.not_mem_nil) dX0_digestWith_7
set_option maxHeartbeats 4000000 in
set_option maxRecDepth 100000 in
theorem c_X0_digestOfTheWhole (l : Launch) (G : zG) (x : Nat) (a : Nat → Nat) (B : Nat) (σ : zS) (d : Int64) (hI : zI B σ) : Met l yX0_digestOfTheWhole wsX0_digestOfTheWhole ({ frames := 4, cells := 0, slots := 0, locals := 87 } : Room) (va_Pc [.ref x, .long d] (pX G x a σ)) (vp_Sl (fun r => r = (dgl d (dgW σ)))) 0 0 (fun _ => False) := by
  refine Met.ofW (cc := cX0_digestOfTheWhole) (maxL := 6) (ret := (some .long)) (by decide) rfl ?_
  intro pp ee s m args below meth c s₁ B9 hml hv
  obtain ⟨rfl, hP, hK⟩ := hv
  have hx := B9.exec
  have hb := B9.bytes
  have hr := B9.returns
  have hts := atoms_spec (ws := wsX0_digestOfTheWhole) B9.pre
  have hown : s.vm.findClass RX0 = some m.cls := findClass_of_methodNamed B9.named
  have hlocks := B9.notSynchronized
  have hin0 : ∀ w ∈ wsX00, w ∈ wsX0_digestOfTheWhole := by decide +kernel
  have hl := lv_entry ([.ref x, .long d]) (n := 6) (Nat.le_of_ble_eq_true rfl)
  rw [lg_entry_eq]
  generalize (lg_sl ([.ref x, .long d]) ++ List.replicate (6 - (lg_sl ([.ref x, .long d])).length) Slot.unset).toArray = ls at hl ⊢
  have hl : lv_has ls 6 [(0, .ref x), (1, .long d)] := hl
  have hIn := hI.n
  have hIb := hI.b
  refine lv_lload_n hx hb dX0_digestOfTheWhole_0 rfl (lv_at hl 1 rfl) ?_
  refine lv_aload_n hx hb dX0_digestOfTheWhole_1 rfl (lv_at hl 0 rfl) ?_
  refine zc_i (va_runV (As := []) (rest := [.long d]) ⟨hx, hb, hml, hown, hts⟩ (c_X0_day l G x a B σ hI) (cwV 0 hts gX0_digestOfTheWhole_X0_day rfl rfl rfl (by decide +kernel) ⟨Nat.le_of_ble_eq_true rfl, Nat.le_of_ble_eq_true rfl⟩) (preVX hK hP) rfl rfl hl.1 rfl (lv_room (Nat.le_of_ble_eq_true rfl)) dX0_digestOfTheWhole_2 ⟨Nat.le_of_ble_eq_true rfl, Nat.le_of_ble_eq_true rfl⟩) ?_
  refine lv_i2l (v := (iI (σ.1 2 : Nat)).toInt64) hx hb dX0_digestOfTheWhole_5 rfl ?_
  refine zc_l (va_runS (As := [.long d, .long ((iI (σ.1 2 : Nat)).toInt64)]) (rest := []) ⟨hx, hb, hml, hown, hts⟩ (c_X0_digestWith l  d ((iI (σ.1 2 : Nat)).toInt64)) (va_cwS 2 hts gX0_digestOfTheWhole_X0_digestWith rfl rfl rfl (by decide +kernel) ⟨Nat.le_of_ble_eq_true rfl, Nat.le_of_ble_eq_true rfl⟩) preS0 rfl rfl hl.1 rfl (lv_room (Nat.le_of_ble_eq_true rfl)) dX0_digestOfTheWhole_6 ⟨Nat.le_of_ble_eq_true rfl, Nat.le_of_ble_eq_true rfl⟩) ?_
  refine lv_lstore_n (lv' := [(3, .long (d * 31 + ((iI (σ.1 2 : Nat)).toInt64))), (0, .ref x), (1, .long d)]) hx hb dX0_digestOfTheWhole_9 rfl hl (by decide) rfl (fun ls hl => ?_)
  refine lv_lload_n hx hb dX0_digestOfTheWhole_10 rfl (lv_at hl 0 rfl) ?_
  refine lv_aload_n hx hb dX0_digestOfTheWhole_11 rfl (lv_at hl 1 rfl) ?_
  refine zc_i (va_runV (As := []) (rest := [.long (d * 31 + ((iI (σ.1 2 : Nat)).toInt64))]) ⟨hx, hb, hml, hown, hts⟩ (c_X0_persons l G x a B σ hI) (cwV 0 hts gX0_digestOfTheWhole_X0_persons rfl rfl rfl (by decide +kernel) ⟨Nat.le_of_ble_eq_true rfl, Nat.le_of_ble_eq_true rfl⟩) (preVX hK hP) rfl rfl hl.1 rfl (lv_room (Nat.le_of_ble_eq_true rfl)) dX0_digestOfTheWhole_12 ⟨Nat.le_of_ble_eq_true rfl, Nat.le_of_ble_eq_true rfl⟩) ?_
  refine lv_i2l (v := (iI (σ.1 0 : Nat)).toInt64) hx hb dX0_digestOfTheWhole_15 rfl ?_
  refine zc_l (va_runS (As := [.long (d * 31 + ((iI (σ.1 2 : Nat)).toInt64)), .long ((iI (σ.1 0 : Nat)).toInt64)]) (rest := []) ⟨hx, hb, hml, hown, hts⟩ (c_X0_digestWith l  (d * 31 + ((iI (σ.1 2 : Nat)).toInt64)) ((iI (σ.1 0 : Nat)).toInt64)) (va_cwS 2 hts gX0_digestOfTheWhole_X0_digestWith rfl rfl rfl (by decide +kernel) ⟨Nat.le_of_ble_eq_true rfl, Nat.le_of_ble_eq_true rfl⟩) preS0 rfl rfl hl.1 rfl (lv_room (Nat.le_of_ble_eq_true rfl)) dX0_digestOfTheWhole_16 ⟨Nat.le_of_ble_eq_true rfl, Nat.le_of_ble_eq_true rfl⟩) ?_
  refine lv_lstore_n (lv' := [(3, .long ((d * 31 + ((iI (σ.1 2 : Nat)).toInt64)) * 31 + ((iI (σ.1 0 : Nat)).toInt64))), (0, .ref x), (1, .long d)]) hx hb dX0_digestOfTheWhole_19 rfl hl (by decide) rfl (fun ls hl => ?_)
  refine lv_lload_n hx hb dX0_digestOfTheWhole_20 rfl (lv_at hl 0 rfl) ?_
  refine lv_aload_n hx hb dX0_digestOfTheWhole_21 rfl (lv_at hl 1 rfl) ?_
  refine zc_i (va_runV (As := []) (rest := [.long ((d * 31 + ((iI (σ.1 2 : Nat)).toInt64)) * 31 + ((iI (σ.1 0 : Nat)).toInt64))]) ⟨hx, hb, hml, hown, hts⟩ (c_X0_slights l G x a B σ hI) (cwV 0 hts gX0_digestOfTheWhole_X0_slights rfl rfl rfl (by decide +kernel) ⟨Nat.le_of_ble_eq_true rfl, Nat.le_of_ble_eq_true rfl⟩) (preVX hK hP) rfl rfl hl.1 rfl (lv_room (Nat.le_of_ble_eq_true rfl)) dX0_digestOfTheWhole_22 ⟨Nat.le_of_ble_eq_true rfl, Nat.le_of_ble_eq_true rfl⟩) ?_
  refine lv_i2l (v := (iI (σ.1 1 : Nat)).toInt64) hx hb dX0_digestOfTheWhole_25 rfl ?_
  refine zc_l (va_runS (As := [.long ((d * 31 + ((iI (σ.1 2 : Nat)).toInt64)) * 31 + ((iI (σ.1 0 : Nat)).toInt64)), .long ((iI (σ.1 1 : Nat)).toInt64)]) (rest := []) ⟨hx, hb, hml, hown, hts⟩ (c_X0_digestWith l  ((d * 31 + ((iI (σ.1 2 : Nat)).toInt64)) * 31 + ((iI (σ.1 0 : Nat)).toInt64)) ((iI (σ.1 1 : Nat)).toInt64)) (va_cwS 2 hts gX0_digestOfTheWhole_X0_digestWith rfl rfl rfl (by decide +kernel) ⟨Nat.le_of_ble_eq_true rfl, Nat.le_of_ble_eq_true rfl⟩) preS0 rfl rfl hl.1 rfl (lv_room (Nat.le_of_ble_eq_true rfl)) dX0_digestOfTheWhole_26 ⟨Nat.le_of_ble_eq_true rfl, Nat.le_of_ble_eq_true rfl⟩) ?_
  refine lv_lstore_n (lv' := [(3, .long (((d * 31 + ((iI (σ.1 2 : Nat)).toInt64)) * 31 + ((iI (σ.1 0 : Nat)).toInt64)) * 31 + ((iI (σ.1 1 : Nat)).toInt64))), (0, .ref x), (1, .long d)]) hx hb dX0_digestOfTheWhole_29 rfl hl (by decide) rfl (fun ls hl => ?_)
  refine lv_lload_n hx hb dX0_digestOfTheWhole_30 rfl (lv_at hl 0 rfl) ?_
  refine lv_aload_n hx hb dX0_digestOfTheWhole_31 rfl (lv_at hl 1 rfl) ?_
  refine zc_i (va_runV (As := []) (rest := [.long (((d * 31 + ((iI (σ.1 2 : Nat)).toInt64)) * 31 + ((iI (σ.1 0 : Nat)).toInt64)) * 31 + ((iI (σ.1 1 : Nat)).toInt64))]) ⟨hx, hb, hml, hown, hts⟩ (c_X0_inHall l G x a B σ hI) (cwV 0 hts gX0_digestOfTheWhole_X0_inHall rfl rfl rfl (by decide +kernel) ⟨Nat.le_of_ble_eq_true rfl, Nat.le_of_ble_eq_true rfl⟩) (preVX hK hP) rfl rfl hl.1 rfl (lv_room (Nat.le_of_ble_eq_true rfl)) dX0_digestOfTheWhole_32 ⟨Nat.le_of_ble_eq_true rfl, Nat.le_of_ble_eq_true rfl⟩) ?_
  have f_1 := inh_bd hI
  refine lv_i2l (v := (iI (inh σ)).toInt64) hx hb dX0_digestOfTheWhole_35 rfl ?_
  refine zc_l (va_runS (As := [.long (((d * 31 + ((iI (σ.1 2 : Nat)).toInt64)) * 31 + ((iI (σ.1 0 : Nat)).toInt64)) * 31 + ((iI (σ.1 1 : Nat)).toInt64)), .long ((iI (inh σ)).toInt64)]) (rest := []) ⟨hx, hb, hml, hown, hts⟩ (c_X0_digestWith l  (((d * 31 + ((iI (σ.1 2 : Nat)).toInt64)) * 31 + ((iI (σ.1 0 : Nat)).toInt64)) * 31 + ((iI (σ.1 1 : Nat)).toInt64)) ((iI (inh σ)).toInt64)) (va_cwS 2 hts gX0_digestOfTheWhole_X0_digestWith rfl rfl rfl (by decide +kernel) ⟨Nat.le_of_ble_eq_true rfl, Nat.le_of_ble_eq_true rfl⟩) preS0 rfl rfl hl.1 rfl (lv_room (Nat.le_of_ble_eq_true rfl)) dX0_digestOfTheWhole_36 ⟨Nat.le_of_ble_eq_true rfl, Nat.le_of_ble_eq_true rfl⟩) ?_
  refine lv_lstore_n (lv' := [(3, .long ((((d * 31 + ((iI (σ.1 2 : Nat)).toInt64)) * 31 + ((iI (σ.1 0 : Nat)).toInt64)) * 31 + ((iI (σ.1 1 : Nat)).toInt64)) * 31 + ((iI (inh σ)).toInt64))), (0, .ref x), (1, .long d)]) hx hb dX0_digestOfTheWhole_39 rfl hl (by decide) rfl (fun ls hl => ?_)
  refine lv_lload_n hx hb dX0_digestOfTheWhole_40 rfl (lv_at hl 0 rfl) ?_
  refine lv_aload_n hx hb dX0_digestOfTheWhole_41 rfl (lv_at hl 1 rfl) ?_
  refine zc_i (va_runV (As := []) (rest := [.long ((((d * 31 + ((iI (σ.1 2 : Nat)).toInt64)) * 31 + ((iI (σ.1 0 : Nat)).toInt64)) * 31 + ((iI (σ.1 1 : Nat)).toInt64)) * 31 + ((iI (inh σ)).toInt64))]) ⟨hx, hb, hml, hown, hts⟩ (c_X0_scorned l G x a B σ hI) (cwV 0 hts gX0_digestOfTheWhole_X0_scorned rfl rfl rfl (by decide +kernel) ⟨Nat.le_of_ble_eq_true rfl, Nat.le_of_ble_eq_true rfl⟩) (preVX hK hP) rfl rfl hl.1 rfl (lv_room (Nat.le_of_ble_eq_true rfl)) dX0_digestOfTheWhole_42 ⟨Nat.le_of_ble_eq_true rfl, Nat.le_of_ble_eq_true rfl⟩) ?_
  refine lv_i2l (v := (iI (σ.1 3 : Nat)).toInt64) hx hb dX0_digestOfTheWhole_45 rfl ?_
  refine zc_l (va_runS (As := [.long ((((d * 31 + ((iI (σ.1 2 : Nat)).toInt64)) * 31 + ((iI (σ.1 0 : Nat)).toInt64)) * 31 + ((iI (σ.1 1 : Nat)).toInt64)) * 31 + ((iI (inh σ)).toInt64)), .long ((iI (σ.1 3 : Nat)).toInt64)]) (rest := []) ⟨hx, hb, hml, hown, hts⟩ (c_X0_digestWith l  ((((d * 31 + ((iI (σ.1 2 : Nat)).toInt64)) * 31 + ((iI (σ.1 0 : Nat)).toInt64)) * 31 + ((iI (σ.1 1 : Nat)).toInt64)) * 31 + ((iI (inh σ)).toInt64)) ((iI (σ.1 3 : Nat)).toInt64)) (va_cwS 2 hts gX0_digestOfTheWhole_X0_digestWith rfl rfl rfl (by decide +kernel) ⟨Nat.le_of_ble_eq_true rfl, Nat.le_of_ble_eq_true rfl⟩) preS0 rfl rfl hl.1 rfl (lv_room (Nat.le_of_ble_eq_true rfl)) dX0_digestOfTheWhole_46 ⟨Nat.le_of_ble_eq_true rfl, Nat.le_of_ble_eq_true rfl⟩) ?_
  refine lv_lstore_n (lv' := [(3, .long (((((d * 31 + ((iI (σ.1 2 : Nat)).toInt64)) * 31 + ((iI (σ.1 0 : Nat)).toInt64)) * 31 + ((iI (σ.1 1 : Nat)).toInt64)) * 31 + ((iI (inh σ)).toInt64)) * 31 + ((iI (σ.1 3 : Nat)).toInt64))), (0, .ref x), (1, .long d)]) hx hb dX0_digestOfTheWhole_49 rfl hl (by decide) rfl (fun ls hl => ?_)
  refine lv_lload_n hx hb dX0_digestOfTheWhole_50 rfl (lv_at hl 0 rfl) ?_
  refine lv_aload_n hx hb dX0_digestOfTheWhole_51 rfl (lv_at hl 1 rfl) ?_
  refine zc_i (va_runV (As := []) (rest := [.long (((((d * 31 + ((iI (σ.1 2 : Nat)).toInt64)) * 31 + ((iI (σ.1 0 : Nat)).toInt64)) * 31 + ((iI (σ.1 1 : Nat)).toInt64)) * 31 + ((iI (inh σ)).toInt64)) * 31 + ((iI (σ.1 3 : Nat)).toInt64))]) ⟨hx, hb, hml, hown, hts⟩ (c_X0_sorest l G x a B σ hI) (cwV 0 hts gX0_digestOfTheWhole_X0_sorest rfl rfl rfl (by decide +kernel) ⟨Nat.le_of_ble_eq_true rfl, Nat.le_of_ble_eq_true rfl⟩) (preVX hK hP) rfl rfl hl.1 rfl (lv_room (Nat.le_of_ble_eq_true rfl)) dX0_digestOfTheWhole_52 ⟨Nat.le_of_ble_eq_true rfl, Nat.le_of_ble_eq_true rfl⟩) ?_
  refine lv_i2l (v := (iI (sor σ)).toInt64) hx hb dX0_digestOfTheWhole_55 rfl ?_
  refine zc_l (va_runS (As := [.long (((((d * 31 + ((iI (σ.1 2 : Nat)).toInt64)) * 31 + ((iI (σ.1 0 : Nat)).toInt64)) * 31 + ((iI (σ.1 1 : Nat)).toInt64)) * 31 + ((iI (inh σ)).toInt64)) * 31 + ((iI (σ.1 3 : Nat)).toInt64)), .long ((iI (sor σ)).toInt64)]) (rest := []) ⟨hx, hb, hml, hown, hts⟩ (c_X0_digestWith l  (((((d * 31 + ((iI (σ.1 2 : Nat)).toInt64)) * 31 + ((iI (σ.1 0 : Nat)).toInt64)) * 31 + ((iI (σ.1 1 : Nat)).toInt64)) * 31 + ((iI (inh σ)).toInt64)) * 31 + ((iI (σ.1 3 : Nat)).toInt64)) ((iI (sor σ)).toInt64)) (va_cwS 2 hts gX0_digestOfTheWhole_X0_digestWith rfl rfl rfl (by decide +kernel) ⟨Nat.le_of_ble_eq_true rfl, Nat.le_of_ble_eq_true rfl⟩) preS0 rfl rfl hl.1 rfl (lv_room (Nat.le_of_ble_eq_true rfl)) dX0_digestOfTheWhole_56 ⟨Nat.le_of_ble_eq_true rfl, Nat.le_of_ble_eq_true rfl⟩) ?_
  refine lv_lstore_n (lv' := [(3, .long ((((((d * 31 + ((iI (σ.1 2 : Nat)).toInt64)) * 31 + ((iI (σ.1 0 : Nat)).toInt64)) * 31 + ((iI (σ.1 1 : Nat)).toInt64)) * 31 + ((iI (inh σ)).toInt64)) * 31 + ((iI (σ.1 3 : Nat)).toInt64)) * 31 + ((iI (sor σ)).toInt64))), (0, .ref x), (1, .long d)]) hx hb dX0_digestOfTheWhole_59 rfl hl (by decide) rfl (fun ls hl => ?_)
  refine lv_iconst (v := iI 0) hx hb dX0_digestOfTheWhole_60 rfl ?_
  refine lv_istore (lv' := [(5, .int (iI 0)), (3, .long ((((((d * 31 + ((iI (σ.1 2 : Nat)).toInt64)) * 31 + ((iI (σ.1 0 : Nat)).toInt64)) * 31 + ((iI (σ.1 1 : Nat)).toInt64)) * 31 + ((iI (inh σ)).toInt64)) * 31 + ((iI (σ.1 3 : Nat)).toInt64)) * 31 + ((iI (sor σ)).toInt64))), (0, .ref x), (1, .long d)]) hx hb dX0_digestOfTheWhole_61 hl (by decide) rfl (fun ls hl => ?_)
  have LP63 : ∀ (r63 : Nat) (j : Nat) (d1 : Int64), j ≤ 4 → 4 - j < r63 → d1 = dgc σ (dgl d [(σ.1 2 : Int), (σ.1 0 : Int), (σ.1 1 : Int), inh σ, (σ.1 3 : Int), sor σ]) j → ∀ (ls : Array Slot), lv_has ls 6 [(5, .int (iI (j : Int))), (3, .long d1), (0, .ref x), (1, .long d)] → W pp l ee (headSpec wsX0_digestOfTheWhole ({ frames := 4, cells := 0, slots := 0, locals := 87 } : Room)).room s m ([.ref x, .long d] : List Value).toArray below meth c s.heap [] 0 0 (MQ below (vp_Sl (fun r => r = (dgl d (dgW σ)))) ([.ref x, .long d] : List Value).toArray s 0 0 (fun _ => False)) (F0 m 63 ls []) := by
    intro r63
    induction r63 with
    | zero => intro j d1 hv63_0 hv63_1; exfalso; omega
    | succ r63 ih63 =>
      intro j d1 hv63_0 hv63_1 hv63_2 ls hl
      refine lv_iload hx hb dX0_digestOfTheWhole_63 (lv_at hl 0 rfl) ?_
      refine lv_iconst (v := iI 3) hx hb dX0_digestOfTheWhole_65 rfl ?_
      refine z_icmp_gt (tgt := 87) hx hb dX0_digestOfTheWhole_66 (by decide) (by omega) (by omega) (fun c_2 => ?_) (fun c_2 => ?_)
      ·
        refine lv_lload_n hx hb dX0_digestOfTheWhole_87 rfl (lv_at hl 1 rfl) ?_
        refine lv_aload_n hx hb dX0_digestOfTheWhole_88 rfl (lv_at hl 2 rfl) ?_
        refine zc_i (va_runV (As := []) (rest := [.long d1]) ⟨hx, hb, hml, hown, hts⟩ (c_X0_heaviest l G x a B σ hI) (cwV 0 hts gX0_digestOfTheWhole_X0_heaviest rfl rfl rfl (by decide +kernel) ⟨Nat.le_of_ble_eq_true rfl, Nat.le_of_ble_eq_true rfl⟩) (preVX hK hP) rfl rfl hl.1 rfl (lv_room (Nat.le_of_ble_eq_true rfl)) dX0_digestOfTheWhole_89 ⟨Nat.le_of_ble_eq_true rfl, Nat.le_of_ble_eq_true rfl⟩) ?_
        refine lv_i2l (v := (iI (hea σ)).toInt64) hx hb dX0_digestOfTheWhole_92 rfl ?_
        refine zc_l (va_runS (As := [.long d1, .long ((iI (hea σ)).toInt64)]) (rest := []) ⟨hx, hb, hml, hown, hts⟩ (c_X0_digestWith l  d1 ((iI (hea σ)).toInt64)) (va_cwS 2 hts gX0_digestOfTheWhole_X0_digestWith rfl rfl rfl (by decide +kernel) ⟨Nat.le_of_ble_eq_true rfl, Nat.le_of_ble_eq_true rfl⟩) preS0 rfl rfl hl.1 rfl (lv_room (Nat.le_of_ble_eq_true rfl)) dX0_digestOfTheWhole_93 ⟨Nat.le_of_ble_eq_true rfl, Nat.le_of_ble_eq_true rfl⟩) ?_
        refine lv_lstore_n (lv' := [(3, .long (d1 * 31 + ((iI (hea σ)).toInt64))), (5, .int (iI (j : Int))), (0, .ref x), (1, .long d)]) hx hb dX0_digestOfTheWhole_96 rfl hl (by decide) rfl (fun ls hl => ?_)
        refine lv_lload_n hx hb dX0_digestOfTheWhole_97 rfl (lv_at hl 0 rfl) ?_
        refine lv_aload_n hx hb dX0_digestOfTheWhole_98 rfl (lv_at hl 2 rfl) ?_
        refine zc_i (va_runV (As := []) (rest := [.long (d1 * 31 + ((iI (hea σ)).toInt64))]) ⟨hx, hb, hml, hown, hts⟩ (c_X0_pairsToSetOff l G x a B σ hI) (cwV 0 hts gX0_digestOfTheWhole_X0_pairsToSetOff rfl rfl rfl (by decide +kernel) ⟨Nat.le_of_ble_eq_true rfl, Nat.le_of_ble_eq_true rfl⟩) (preVX hK hP) rfl rfl hl.1 rfl (lv_room (Nat.le_of_ble_eq_true rfl)) dX0_digestOfTheWhole_99 ⟨Nat.le_of_ble_eq_true rfl, Nat.le_of_ble_eq_true rfl⟩) ?_
        refine lv_i2l (v := (iI (pai σ)).toInt64) hx hb dX0_digestOfTheWhole_102 rfl ?_
        refine zc_l (va_runS (As := [.long (d1 * 31 + ((iI (hea σ)).toInt64)), .long ((iI (pai σ)).toInt64)]) (rest := []) ⟨hx, hb, hml, hown, hts⟩ (c_X0_digestWith l  (d1 * 31 + ((iI (hea σ)).toInt64)) ((iI (pai σ)).toInt64)) (va_cwS 2 hts gX0_digestOfTheWhole_X0_digestWith rfl rfl rfl (by decide +kernel) ⟨Nat.le_of_ble_eq_true rfl, Nat.le_of_ble_eq_true rfl⟩) preS0 rfl rfl hl.1 rfl (lv_room (Nat.le_of_ble_eq_true rfl)) dX0_digestOfTheWhole_103 ⟨Nat.le_of_ble_eq_true rfl, Nat.le_of_ble_eq_true rfl⟩) ?_
        exact W.lret hx hb hr (fun t ht _ => ⟨_, rfl, (by rw [hv63_2, show j = 4 from by omega]; rfl), ht⟩) (fun q hq => absurd hq List.not_mem_nil) dX0_digestOfTheWhole_106
      ·
        refine lv_lload_n hx hb dX0_digestOfTheWhole_69 rfl (lv_at hl 1 rfl) ?_
        refine lv_aload_n hx hb dX0_digestOfTheWhole_70 rfl (lv_at hl 2 rfl) ?_
        refine lv_iload hx hb dX0_digestOfTheWhole_71 (lv_at hl 0 rfl) ?_
        refine zc_i (va_runV (As := [.int (iI (j : Int))]) (rest := [.long d1]) ⟨hx, hb, hml, hown, hts⟩ (c_X0_inState l G x a B σ (j : Int) hI (by omega)) (cwV 1 hts gX0_digestOfTheWhole_X0_inState rfl rfl rfl (by decide +kernel) ⟨Nat.le_of_ble_eq_true rfl, Nat.le_of_ble_eq_true rfl⟩) (preVX hK hP) rfl rfl hl.1 rfl (lv_room (Nat.le_of_ble_eq_true rfl)) dX0_digestOfTheWhole_73 ⟨Nat.le_of_ble_eq_true rfl, Nat.le_of_ble_eq_true rfl⟩) ?_
        have f_3 := cnt_bd hI (j : Int)
        refine lv_i2l (v := (iI (cnt σ (j : Int))).toInt64) hx hb dX0_digestOfTheWhole_76 rfl ?_
        refine zc_l (va_runS (As := [.long d1, .long ((iI (cnt σ (j : Int))).toInt64)]) (rest := []) ⟨hx, hb, hml, hown, hts⟩ (c_X0_digestWith l  d1 ((iI (cnt σ (j : Int))).toInt64)) (va_cwS 2 hts gX0_digestOfTheWhole_X0_digestWith rfl rfl rfl (by decide +kernel) ⟨Nat.le_of_ble_eq_true rfl, Nat.le_of_ble_eq_true rfl⟩) preS0 rfl rfl hl.1 rfl (lv_room (Nat.le_of_ble_eq_true rfl)) dX0_digestOfTheWhole_77 ⟨Nat.le_of_ble_eq_true rfl, Nat.le_of_ble_eq_true rfl⟩) ?_
        refine lv_lstore_n (lv' := [(3, .long (d1 * 31 + ((iI (cnt σ (j : Int))).toInt64))), (5, .int (iI (j : Int))), (0, .ref x), (1, .long d)]) hx hb dX0_digestOfTheWhole_80 rfl hl (by decide) rfl (fun ls hl => ?_)
        refine lv_iinc (v := iI ((j : Int) + 1)) (lv' := [(5, .int (iI ((j : Int) + 1))), (3, .long (d1 * 31 + ((iI (cnt σ (j : Int))).toInt64))), (0, .ref x), (1, .long d)]) hx hb dX0_digestOfTheWhole_81 hl (k := 1) rfl (iI_add _ _) (by decide) rfl (fun ls hl => ?_)
        refine lv_goto (tgt := 63) hx hb dX0_digestOfTheWhole_84 (by decide) ?_
        exact ih63 (j + 1) (d1 * 31 + ((iI (cnt σ (j : Int))).toInt64)) (by omega) (by omega) (by rw [hv63_2]; rfl) ls (lv_sub hl [0, 1, 2, 3] rfl)
  exact LP63 (4 - (0) + 1) 0 ((((((d * 31 + ((iI (σ.1 2 : Nat)).toInt64)) * 31 + ((iI (σ.1 0 : Nat)).toInt64)) * 31 + ((iI (σ.1 1 : Nat)).toInt64)) * 31 + ((iI (inh σ)).toInt64)) * 31 + ((iI (σ.1 3 : Nat)).toInt64)) * 31 + ((iI (sor σ)).toInt64)) (by omega) (by omega) (by rfl) ls (lv_sub hl [0, 1, 2, 3] rfl)
set_option maxHeartbeats 4000000 in
set_option maxRecDepth 100000 in
theorem c_X0_digestOfPerson (l : Launch) (G : zG) (x : Nat) (a : Nat → Nat) (B : Nat) (σ : zS) (d : Int64) (p : Nat) (hI : zI B σ) (hp : p < σ.1 0) : Met l yX0_digestOfPerson wsX0_digestOfPerson ({ frames := 4, cells := 0, slots := 0, locals := 94 } : Room) (va_Pc [.ref x, .long d, .int (iI (p : Int))] (pX G x a σ)) (vp_Sl (fun r => r = (dgl d (dgP σ p)))) 0 0 (fun _ => False) := by
  refine Met.ofW (cc := cX0_digestOfPerson) (maxL := 6) (ret := (some .long)) (by decide) rfl ?_
  intro pp ee s m args below meth c s₁ B9 hml hv
  obtain ⟨rfl, hP, hK⟩ := hv
  have hx := B9.exec
  have hb := B9.bytes
  have hr := B9.returns
  have hts := atoms_spec (ws := wsX0_digestOfPerson) B9.pre
  have hown : s.vm.findClass RX0 = some m.cls := findClass_of_methodNamed B9.named
  have hlocks := B9.notSynchronized
  have hin0 : ∀ w ∈ wsX00, w ∈ wsX0_digestOfPerson := by decide +kernel
  have hl := lv_entry ([.ref x, .long d, .int (iI (p : Int))]) (n := 6) (Nat.le_of_ble_eq_true rfl)
  rw [lg_entry_eq]
  generalize (lg_sl ([.ref x, .long d, .int (iI (p : Int))]) ++ List.replicate (6 - (lg_sl ([.ref x, .long d, .int (iI (p : Int))])).length) Slot.unset).toArray = ls at hl ⊢
  have hl : lv_has ls 6 [(0, .ref x), (1, .long d), (3, .int (iI (p : Int)))] := hl
  have hIn := hI.n
  have hIb := hI.b
  refine lv_lload_n hx hb dX0_digestOfPerson_0 rfl (lv_at hl 1 rfl) ?_
  refine lv_aload_n hx hb dX0_digestOfPerson_1 rfl (lv_at hl 0 rfl) ?_
  refine lv_iload_n hx hb dX0_digestOfPerson_2 rfl (lv_at hl 2 rfl) ?_
  refine zc_i (va_runV (As := [.int (iI (p : Int))]) (rest := [.long d]) ⟨hx, hb, hml, hown, hts⟩ (c_X0_isInHall l G x a B σ p hI (by omega)) (cwV 1 hts gX0_digestOfPerson_X0_isInHall rfl rfl rfl (by decide +kernel) ⟨Nat.le_of_ble_eq_true rfl, Nat.le_of_ble_eq_true rfl⟩) (preVX hK hP) rfl rfl hl.1 rfl (lv_room (Nat.le_of_ble_eq_true rfl)) dX0_digestOfPerson_3 ⟨Nat.le_of_ble_eq_true rfl, Nat.le_of_ble_eq_true rfl⟩) ?_
  have f_1 := hI.r1 p
  refine z_if_eq (tgt := 13) hx hb dX0_digestOfPerson_6 (by decide) (by omega) (fun c_2 => ?_) (fun c_2 => ?_)
  ·
    refine lv_lconst (v := 0) hx hb dX0_digestOfPerson_13 rfl ?_
    refine zc_l (va_runS (As := [.long d, .long 0]) (rest := []) ⟨hx, hb, hml, hown, hts⟩ (c_X0_digestWith l  d 0) (va_cwS 2 hts gX0_digestOfPerson_X0_digestWith rfl rfl rfl (by decide +kernel) ⟨Nat.le_of_ble_eq_true rfl, Nat.le_of_ble_eq_true rfl⟩) preS0 rfl rfl hl.1 rfl (lv_room (Nat.le_of_ble_eq_true rfl)) dX0_digestOfPerson_14 ⟨Nat.le_of_ble_eq_true rfl, Nat.le_of_ble_eq_true rfl⟩) ?_
    refine lv_lstore (lv' := [(4, .long (d * 31 + 0)), (0, .ref x), (1, .long d), (3, .int (iI (p : Int)))]) hx hb dX0_digestOfPerson_17 hl (by decide) rfl (fun ls hl => ?_)
    refine lv_lload hx hb dX0_digestOfPerson_19 (lv_at hl 0 rfl) ?_
    refine lv_aload_n hx hb dX0_digestOfPerson_21 rfl (lv_at hl 1 rfl) ?_
    refine lv_iload_n hx hb dX0_digestOfPerson_22 rfl (lv_at hl 3 rfl) ?_
    refine zc_i (va_runV (As := [.int (iI (p : Int))]) (rest := [.long (d * 31 + 0)]) ⟨hx, hb, hml, hown, hts⟩ (c_X0_prideOf l G x a B σ p hI (by omega)) (cwV 1 hts gX0_digestOfPerson_X0_prideOf rfl rfl rfl (by decide +kernel) ⟨Nat.le_of_ble_eq_true rfl, Nat.le_of_ble_eq_true rfl⟩) (preVX hK hP) rfl rfl hl.1 rfl (lv_room (Nat.le_of_ble_eq_true rfl)) dX0_digestOfPerson_23 ⟨Nat.le_of_ble_eq_true rfl, Nat.le_of_ble_eq_true rfl⟩) ?_
    have f_3 := hI.r0 p
    refine lv_i2l (v := (iI (σ.2 0 p)).toInt64) hx hb dX0_digestOfPerson_26 rfl ?_
    refine zc_l (va_runS (As := [.long (d * 31 + 0), .long ((iI (σ.2 0 p)).toInt64)]) (rest := []) ⟨hx, hb, hml, hown, hts⟩ (c_X0_digestWith l  (d * 31 + 0) ((iI (σ.2 0 p)).toInt64)) (va_cwS 2 hts gX0_digestOfPerson_X0_digestWith rfl rfl rfl (by decide +kernel) ⟨Nat.le_of_ble_eq_true rfl, Nat.le_of_ble_eq_true rfl⟩) preS0 rfl rfl hl.1 rfl (lv_room (Nat.le_of_ble_eq_true rfl)) dX0_digestOfPerson_27 ⟨Nat.le_of_ble_eq_true rfl, Nat.le_of_ble_eq_true rfl⟩) ?_
    refine lv_lstore (lv' := [(4, .long ((d * 31 + 0) * 31 + ((iI (σ.2 0 p)).toInt64))), (0, .ref x), (1, .long d), (3, .int (iI (p : Int)))]) hx hb dX0_digestOfPerson_30 hl (by decide) rfl (fun ls hl => ?_)
    refine lv_lload hx hb dX0_digestOfPerson_32 (lv_at hl 0 rfl) ?_
    refine lv_aload_n hx hb dX0_digestOfPerson_34 rfl (lv_at hl 1 rfl) ?_
    refine lv_iload_n hx hb dX0_digestOfPerson_35 rfl (lv_at hl 3 rfl) ?_
    refine zc_i (va_runV (As := [.int (iI (p : Int))]) (rest := [.long ((d * 31 + 0) * 31 + ((iI (σ.2 0 p)).toInt64))]) ⟨hx, hb, hml, hown, hts⟩ (c_X0_borneBy l G x a B σ p hI (by omega)) (cwV 1 hts gX0_digestOfPerson_X0_borneBy rfl rfl rfl (by decide +kernel) ⟨Nat.le_of_ble_eq_true rfl, Nat.le_of_ble_eq_true rfl⟩) (preVX hK hP) rfl rfl hl.1 rfl (lv_room (Nat.le_of_ble_eq_true rfl)) dX0_digestOfPerson_36 ⟨Nat.le_of_ble_eq_true rfl, Nat.le_of_ble_eq_true rfl⟩) ?_
    have f_4 := bor_bd hI (p : Int)
    refine lv_i2l (v := (iI (bor σ (p : Int))).toInt64) hx hb dX0_digestOfPerson_39 rfl ?_
    refine zc_l (va_runS (As := [.long ((d * 31 + 0) * 31 + ((iI (σ.2 0 p)).toInt64)), .long ((iI (bor σ (p : Int))).toInt64)]) (rest := []) ⟨hx, hb, hml, hown, hts⟩ (c_X0_digestWith l  ((d * 31 + 0) * 31 + ((iI (σ.2 0 p)).toInt64)) ((iI (bor σ (p : Int))).toInt64)) (va_cwS 2 hts gX0_digestOfPerson_X0_digestWith rfl rfl rfl (by decide +kernel) ⟨Nat.le_of_ble_eq_true rfl, Nat.le_of_ble_eq_true rfl⟩) preS0 rfl rfl hl.1 rfl (lv_room (Nat.le_of_ble_eq_true rfl)) dX0_digestOfPerson_40 ⟨Nat.le_of_ble_eq_true rfl, Nat.le_of_ble_eq_true rfl⟩) ?_
    refine lv_lstore (lv' := [(4, .long (((d * 31 + 0) * 31 + ((iI (σ.2 0 p)).toInt64)) * 31 + ((iI (bor σ (p : Int))).toInt64))), (0, .ref x), (1, .long d), (3, .int (iI (p : Int)))]) hx hb dX0_digestOfPerson_43 hl (by decide) rfl (fun ls hl => ?_)
    refine lv_lload hx hb dX0_digestOfPerson_45 (lv_at hl 0 rfl) ?_
    refine lv_aload_n hx hb dX0_digestOfPerson_47 rfl (lv_at hl 1 rfl) ?_
    refine lv_iload_n hx hb dX0_digestOfPerson_48 rfl (lv_at hl 3 rfl) ?_
    refine zc_i (va_runV (As := [.int (iI (p : Int))]) (rest := [.long (((d * 31 + 0) * 31 + ((iI (σ.2 0 p)).toInt64)) * 31 + ((iI (bor σ (p : Int))).toInt64))]) ⟨hx, hb, hml, hown, hts⟩ (c_X0_owedBy l G x a B σ p hI (by omega)) (cwV 1 hts gX0_digestOfPerson_X0_owedBy rfl rfl rfl (by decide +kernel) ⟨Nat.le_of_ble_eq_true rfl, Nat.le_of_ble_eq_true rfl⟩) (preVX hK hP) rfl rfl hl.1 rfl (lv_room (Nat.le_of_ble_eq_true rfl)) dX0_digestOfPerson_49 ⟨Nat.le_of_ble_eq_true rfl, Nat.le_of_ble_eq_true rfl⟩) ?_
    have f_5 := owe_bd hI (p : Int)
    refine lv_i2l (v := (iI (owe σ (p : Int))).toInt64) hx hb dX0_digestOfPerson_52 rfl ?_
    refine zc_l (va_runS (As := [.long (((d * 31 + 0) * 31 + ((iI (σ.2 0 p)).toInt64)) * 31 + ((iI (bor σ (p : Int))).toInt64)), .long ((iI (owe σ (p : Int))).toInt64)]) (rest := []) ⟨hx, hb, hml, hown, hts⟩ (c_X0_digestWith l  (((d * 31 + 0) * 31 + ((iI (σ.2 0 p)).toInt64)) * 31 + ((iI (bor σ (p : Int))).toInt64)) ((iI (owe σ (p : Int))).toInt64)) (va_cwS 2 hts gX0_digestOfPerson_X0_digestWith rfl rfl rfl (by decide +kernel) ⟨Nat.le_of_ble_eq_true rfl, Nat.le_of_ble_eq_true rfl⟩) preS0 rfl rfl hl.1 rfl (lv_room (Nat.le_of_ble_eq_true rfl)) dX0_digestOfPerson_53 ⟨Nat.le_of_ble_eq_true rfl, Nat.le_of_ble_eq_true rfl⟩) ?_
    refine lv_lstore (lv' := [(4, .long ((((d * 31 + 0) * 31 + ((iI (σ.2 0 p)).toInt64)) * 31 + ((iI (bor σ (p : Int))).toInt64)) * 31 + ((iI (owe σ (p : Int))).toInt64))), (0, .ref x), (1, .long d), (3, .int (iI (p : Int)))]) hx hb dX0_digestOfPerson_56 hl (by decide) rfl (fun ls hl => ?_)
    refine lv_lload hx hb dX0_digestOfPerson_58 (lv_at hl 0 rfl) ?_
    refine lv_aload_n hx hb dX0_digestOfPerson_60 rfl (lv_at hl 1 rfl) ?_
    refine lv_iload_n hx hb dX0_digestOfPerson_61 rfl (lv_at hl 3 rfl) ?_
    refine lv_bipush (v := iI 10) hx hb dX0_digestOfPerson_62 (by decide) ?_
    refine zc_i (va_runV (As := [.int (iI (p : Int)), .int (iI 10)]) (rest := [.long ((((d * 31 + 0) * 31 + ((iI (σ.2 0 p)).toInt64)) * 31 + ((iI (bor σ (p : Int))).toInt64)) * 31 + ((iI (owe σ (p : Int))).toInt64))]) ⟨hx, hb, hml, hown, hts⟩ (c_X0_borneIn l G x a B σ p 10 hI (by omega) (by omega)) (cwV 2 hts gX0_digestOfPerson_X0_borneIn rfl rfl rfl (by decide +kernel) ⟨Nat.le_of_ble_eq_true rfl, Nat.le_of_ble_eq_true rfl⟩) (preVX hK hP) rfl rfl hl.1 rfl (lv_room (Nat.le_of_ble_eq_true rfl)) dX0_digestOfPerson_64 ⟨Nat.le_of_ble_eq_true rfl, Nat.le_of_ble_eq_true rfl⟩) ?_
    have f_6 := bth_bd hI (p : Int) 10
    refine lv_i2l (v := (iI (bth σ (p : Int) 10)).toInt64) hx hb dX0_digestOfPerson_67 rfl ?_
    refine zc_l (va_runS (As := [.long ((((d * 31 + 0) * 31 + ((iI (σ.2 0 p)).toInt64)) * 31 + ((iI (bor σ (p : Int))).toInt64)) * 31 + ((iI (owe σ (p : Int))).toInt64)), .long ((iI (bth σ (p : Int) 10)).toInt64)]) (rest := []) ⟨hx, hb, hml, hown, hts⟩ (c_X0_digestWith l  ((((d * 31 + 0) * 31 + ((iI (σ.2 0 p)).toInt64)) * 31 + ((iI (bor σ (p : Int))).toInt64)) * 31 + ((iI (owe σ (p : Int))).toInt64)) ((iI (bth σ (p : Int) 10)).toInt64)) (va_cwS 2 hts gX0_digestOfPerson_X0_digestWith rfl rfl rfl (by decide +kernel) ⟨Nat.le_of_ble_eq_true rfl, Nat.le_of_ble_eq_true rfl⟩) preS0 rfl rfl hl.1 rfl (lv_room (Nat.le_of_ble_eq_true rfl)) dX0_digestOfPerson_68 ⟨Nat.le_of_ble_eq_true rfl, Nat.le_of_ble_eq_true rfl⟩) ?_
    refine lv_lstore (lv' := [(4, .long (((((d * 31 + 0) * 31 + ((iI (σ.2 0 p)).toInt64)) * 31 + ((iI (bor σ (p : Int))).toInt64)) * 31 + ((iI (owe σ (p : Int))).toInt64)) * 31 + ((iI (bth σ (p : Int) 10)).toInt64))), (0, .ref x), (1, .long d), (3, .int (iI (p : Int)))]) hx hb dX0_digestOfPerson_71 hl (by decide) rfl (fun ls hl => ?_)
    refine lv_lload hx hb dX0_digestOfPerson_73 (lv_at hl 0 rfl) ?_
    refine lv_aload_n hx hb dX0_digestOfPerson_75 rfl (lv_at hl 1 rfl) ?_
    refine lv_iload_n hx hb dX0_digestOfPerson_76 rfl (lv_at hl 3 rfl) ?_
    refine zc_i (va_runV (As := [.int (iI (p : Int))]) (rest := [.long (((((d * 31 + 0) * 31 + ((iI (σ.2 0 p)).toInt64)) * 31 + ((iI (bor σ (p : Int))).toInt64)) * 31 + ((iI (owe σ (p : Int))).toInt64)) * 31 + ((iI (bth σ (p : Int) 10)).toInt64))]) ⟨hx, hb, hml, hown, hts⟩ (c_X0_worstToKeep l G x a B σ p hI (by omega)) (cwV 1 hts gX0_digestOfPerson_X0_worstToKeep rfl rfl rfl (by decide +kernel) ⟨Nat.le_of_ble_eq_true rfl, Nat.le_of_ble_eq_true rfl⟩) (preVX hK hP) rfl rfl hl.1 rfl (lv_room (Nat.le_of_ble_eq_true rfl)) dX0_digestOfPerson_77 ⟨Nat.le_of_ble_eq_true rfl, Nat.le_of_ble_eq_true rfl⟩) ?_
    refine lv_i2l (v := (iI (wor σ (p : Int))).toInt64) hx hb dX0_digestOfPerson_80 rfl ?_
    refine zc_l (va_runS (As := [.long (((((d * 31 + 0) * 31 + ((iI (σ.2 0 p)).toInt64)) * 31 + ((iI (bor σ (p : Int))).toInt64)) * 31 + ((iI (owe σ (p : Int))).toInt64)) * 31 + ((iI (bth σ (p : Int) 10)).toInt64)), .long ((iI (wor σ (p : Int))).toInt64)]) (rest := []) ⟨hx, hb, hml, hown, hts⟩ (c_X0_digestWith l  (((((d * 31 + 0) * 31 + ((iI (σ.2 0 p)).toInt64)) * 31 + ((iI (bor σ (p : Int))).toInt64)) * 31 + ((iI (owe σ (p : Int))).toInt64)) * 31 + ((iI (bth σ (p : Int) 10)).toInt64)) ((iI (wor σ (p : Int))).toInt64)) (va_cwS 2 hts gX0_digestOfPerson_X0_digestWith rfl rfl rfl (by decide +kernel) ⟨Nat.le_of_ble_eq_true rfl, Nat.le_of_ble_eq_true rfl⟩) preS0 rfl rfl hl.1 rfl (lv_room (Nat.le_of_ble_eq_true rfl)) dX0_digestOfPerson_81 ⟨Nat.le_of_ble_eq_true rfl, Nat.le_of_ble_eq_true rfl⟩) ?_
    exact W.lret hx hb hr (fun t ht _ => ⟨_, rfl, (by first | (rw [dgP, show σ.2 1 p = 1 from by omega]; rfl) | (rw [dgP, show σ.2 1 p = 0 from by omega]; rfl)), ht⟩) (fun q hq => absurd hq List.not_mem_nil) dX0_digestOfPerson_84
  ·
    refine lv_lconst (v := 1) hx hb dX0_digestOfPerson_9 rfl ?_
    refine lv_goto (tgt := 14) hx hb dX0_digestOfPerson_10 (by decide) ?_
    refine zc_l (va_runS (As := [.long d, .long 1]) (rest := []) ⟨hx, hb, hml, hown, hts⟩ (c_X0_digestWith l  d 1) (va_cwS 2 hts gX0_digestOfPerson_X0_digestWith rfl rfl rfl (by decide +kernel) ⟨Nat.le_of_ble_eq_true rfl, Nat.le_of_ble_eq_true rfl⟩) preS0 rfl rfl hl.1 rfl (lv_room (Nat.le_of_ble_eq_true rfl)) dX0_digestOfPerson_14 ⟨Nat.le_of_ble_eq_true rfl, Nat.le_of_ble_eq_true rfl⟩) ?_
    refine lv_lstore (lv' := [(4, .long (d * 31 + 1)), (0, .ref x), (1, .long d), (3, .int (iI (p : Int)))]) hx hb dX0_digestOfPerson_17 hl (by decide) rfl (fun ls hl => ?_)
    refine lv_lload hx hb dX0_digestOfPerson_19 (lv_at hl 0 rfl) ?_
    refine lv_aload_n hx hb dX0_digestOfPerson_21 rfl (lv_at hl 1 rfl) ?_
    refine lv_iload_n hx hb dX0_digestOfPerson_22 rfl (lv_at hl 3 rfl) ?_
    refine zc_i (va_runV (As := [.int (iI (p : Int))]) (rest := [.long (d * 31 + 1)]) ⟨hx, hb, hml, hown, hts⟩ (c_X0_prideOf l G x a B σ p hI (by omega)) (cwV 1 hts gX0_digestOfPerson_X0_prideOf rfl rfl rfl (by decide +kernel) ⟨Nat.le_of_ble_eq_true rfl, Nat.le_of_ble_eq_true rfl⟩) (preVX hK hP) rfl rfl hl.1 rfl (lv_room (Nat.le_of_ble_eq_true rfl)) dX0_digestOfPerson_23 ⟨Nat.le_of_ble_eq_true rfl, Nat.le_of_ble_eq_true rfl⟩) ?_
    have f_7 := hI.r0 p
    refine lv_i2l (v := (iI (σ.2 0 p)).toInt64) hx hb dX0_digestOfPerson_26 rfl ?_
    refine zc_l (va_runS (As := [.long (d * 31 + 1), .long ((iI (σ.2 0 p)).toInt64)]) (rest := []) ⟨hx, hb, hml, hown, hts⟩ (c_X0_digestWith l  (d * 31 + 1) ((iI (σ.2 0 p)).toInt64)) (va_cwS 2 hts gX0_digestOfPerson_X0_digestWith rfl rfl rfl (by decide +kernel) ⟨Nat.le_of_ble_eq_true rfl, Nat.le_of_ble_eq_true rfl⟩) preS0 rfl rfl hl.1 rfl (lv_room (Nat.le_of_ble_eq_true rfl)) dX0_digestOfPerson_27 ⟨Nat.le_of_ble_eq_true rfl, Nat.le_of_ble_eq_true rfl⟩) ?_
    refine lv_lstore (lv' := [(4, .long ((d * 31 + 1) * 31 + ((iI (σ.2 0 p)).toInt64))), (0, .ref x), (1, .long d), (3, .int (iI (p : Int)))]) hx hb dX0_digestOfPerson_30 hl (by decide) rfl (fun ls hl => ?_)
    refine lv_lload hx hb dX0_digestOfPerson_32 (lv_at hl 0 rfl) ?_
    refine lv_aload_n hx hb dX0_digestOfPerson_34 rfl (lv_at hl 1 rfl) ?_
    refine lv_iload_n hx hb dX0_digestOfPerson_35 rfl (lv_at hl 3 rfl) ?_
    refine zc_i (va_runV (As := [.int (iI (p : Int))]) (rest := [.long ((d * 31 + 1) * 31 + ((iI (σ.2 0 p)).toInt64))]) ⟨hx, hb, hml, hown, hts⟩ (c_X0_borneBy l G x a B σ p hI (by omega)) (cwV 1 hts gX0_digestOfPerson_X0_borneBy rfl rfl rfl (by decide +kernel) ⟨Nat.le_of_ble_eq_true rfl, Nat.le_of_ble_eq_true rfl⟩) (preVX hK hP) rfl rfl hl.1 rfl (lv_room (Nat.le_of_ble_eq_true rfl)) dX0_digestOfPerson_36 ⟨Nat.le_of_ble_eq_true rfl, Nat.le_of_ble_eq_true rfl⟩) ?_
    have f_8 := bor_bd hI (p : Int)
    refine lv_i2l (v := (iI (bor σ (p : Int))).toInt64) hx hb dX0_digestOfPerson_39 rfl ?_
    refine zc_l (va_runS (As := [.long ((d * 31 + 1) * 31 + ((iI (σ.2 0 p)).toInt64)), .long ((iI (bor σ (p : Int))).toInt64)]) (rest := []) ⟨hx, hb, hml, hown, hts⟩ (c_X0_digestWith l  ((d * 31 + 1) * 31 + ((iI (σ.2 0 p)).toInt64)) ((iI (bor σ (p : Int))).toInt64)) (va_cwS 2 hts gX0_digestOfPerson_X0_digestWith rfl rfl rfl (by decide +kernel) ⟨Nat.le_of_ble_eq_true rfl, Nat.le_of_ble_eq_true rfl⟩) preS0 rfl rfl hl.1 rfl (lv_room (Nat.le_of_ble_eq_true rfl)) dX0_digestOfPerson_40 ⟨Nat.le_of_ble_eq_true rfl, Nat.le_of_ble_eq_true rfl⟩) ?_
    refine lv_lstore (lv' := [(4, .long (((d * 31 + 1) * 31 + ((iI (σ.2 0 p)).toInt64)) * 31 + ((iI (bor σ (p : Int))).toInt64))), (0, .ref x), (1, .long d), (3, .int (iI (p : Int)))]) hx hb dX0_digestOfPerson_43 hl (by decide) rfl (fun ls hl => ?_)
    refine lv_lload hx hb dX0_digestOfPerson_45 (lv_at hl 0 rfl) ?_
    refine lv_aload_n hx hb dX0_digestOfPerson_47 rfl (lv_at hl 1 rfl) ?_
    refine lv_iload_n hx hb dX0_digestOfPerson_48 rfl (lv_at hl 3 rfl) ?_
    refine zc_i (va_runV (As := [.int (iI (p : Int))]) (rest := [.long (((d * 31 + 1) * 31 + ((iI (σ.2 0 p)).toInt64)) * 31 + ((iI (bor σ (p : Int))).toInt64))]) ⟨hx, hb, hml, hown, hts⟩ (c_X0_owedBy l G x a B σ p hI (by omega)) (cwV 1 hts gX0_digestOfPerson_X0_owedBy rfl rfl rfl (by decide +kernel) ⟨Nat.le_of_ble_eq_true rfl, Nat.le_of_ble_eq_true rfl⟩) (preVX hK hP) rfl rfl hl.1 rfl (lv_room (Nat.le_of_ble_eq_true rfl)) dX0_digestOfPerson_49 ⟨Nat.le_of_ble_eq_true rfl, Nat.le_of_ble_eq_true rfl⟩) ?_
    have f_9 := owe_bd hI (p : Int)
    refine lv_i2l (v := (iI (owe σ (p : Int))).toInt64) hx hb dX0_digestOfPerson_52 rfl ?_
    refine zc_l (va_runS (As := [.long (((d * 31 + 1) * 31 + ((iI (σ.2 0 p)).toInt64)) * 31 + ((iI (bor σ (p : Int))).toInt64)), .long ((iI (owe σ (p : Int))).toInt64)]) (rest := []) ⟨hx, hb, hml, hown, hts⟩ (c_X0_digestWith l  (((d * 31 + 1) * 31 + ((iI (σ.2 0 p)).toInt64)) * 31 + ((iI (bor σ (p : Int))).toInt64)) ((iI (owe σ (p : Int))).toInt64)) (va_cwS 2 hts gX0_digestOfPerson_X0_digestWith rfl rfl rfl (by decide +kernel) ⟨Nat.le_of_ble_eq_true rfl, Nat.le_of_ble_eq_true rfl⟩) preS0 rfl rfl hl.1 rfl (lv_room (Nat.le_of_ble_eq_true rfl)) dX0_digestOfPerson_53 ⟨Nat.le_of_ble_eq_true rfl, Nat.le_of_ble_eq_true rfl⟩) ?_
    refine lv_lstore (lv' := [(4, .long ((((d * 31 + 1) * 31 + ((iI (σ.2 0 p)).toInt64)) * 31 + ((iI (bor σ (p : Int))).toInt64)) * 31 + ((iI (owe σ (p : Int))).toInt64))), (0, .ref x), (1, .long d), (3, .int (iI (p : Int)))]) hx hb dX0_digestOfPerson_56 hl (by decide) rfl (fun ls hl => ?_)
    refine lv_lload hx hb dX0_digestOfPerson_58 (lv_at hl 0 rfl) ?_
    refine lv_aload_n hx hb dX0_digestOfPerson_60 rfl (lv_at hl 1 rfl) ?_
    refine lv_iload_n hx hb dX0_digestOfPerson_61 rfl (lv_at hl 3 rfl) ?_
    refine lv_bipush (v := iI 10) hx hb dX0_digestOfPerson_62 (by decide) ?_
    refine zc_i (va_runV (As := [.int (iI (p : Int)), .int (iI 10)]) (rest := [.long ((((d * 31 + 1) * 31 + ((iI (σ.2 0 p)).toInt64)) * 31 + ((iI (bor σ (p : Int))).toInt64)) * 31 + ((iI (owe σ (p : Int))).toInt64))]) ⟨hx, hb, hml, hown, hts⟩ (c_X0_borneIn l G x a B σ p 10 hI (by omega) (by omega)) (cwV 2 hts gX0_digestOfPerson_X0_borneIn rfl rfl rfl (by decide +kernel) ⟨Nat.le_of_ble_eq_true rfl, Nat.le_of_ble_eq_true rfl⟩) (preVX hK hP) rfl rfl hl.1 rfl (lv_room (Nat.le_of_ble_eq_true rfl)) dX0_digestOfPerson_64 ⟨Nat.le_of_ble_eq_true rfl, Nat.le_of_ble_eq_true rfl⟩) ?_
    have f_10 := bth_bd hI (p : Int) 10
    refine lv_i2l (v := (iI (bth σ (p : Int) 10)).toInt64) hx hb dX0_digestOfPerson_67 rfl ?_
    refine zc_l (va_runS (As := [.long ((((d * 31 + 1) * 31 + ((iI (σ.2 0 p)).toInt64)) * 31 + ((iI (bor σ (p : Int))).toInt64)) * 31 + ((iI (owe σ (p : Int))).toInt64)), .long ((iI (bth σ (p : Int) 10)).toInt64)]) (rest := []) ⟨hx, hb, hml, hown, hts⟩ (c_X0_digestWith l  ((((d * 31 + 1) * 31 + ((iI (σ.2 0 p)).toInt64)) * 31 + ((iI (bor σ (p : Int))).toInt64)) * 31 + ((iI (owe σ (p : Int))).toInt64)) ((iI (bth σ (p : Int) 10)).toInt64)) (va_cwS 2 hts gX0_digestOfPerson_X0_digestWith rfl rfl rfl (by decide +kernel) ⟨Nat.le_of_ble_eq_true rfl, Nat.le_of_ble_eq_true rfl⟩) preS0 rfl rfl hl.1 rfl (lv_room (Nat.le_of_ble_eq_true rfl)) dX0_digestOfPerson_68 ⟨Nat.le_of_ble_eq_true rfl, Nat.le_of_ble_eq_true rfl⟩) ?_
    refine lv_lstore (lv' := [(4, .long (((((d * 31 + 1) * 31 + ((iI (σ.2 0 p)).toInt64)) * 31 + ((iI (bor σ (p : Int))).toInt64)) * 31 + ((iI (owe σ (p : Int))).toInt64)) * 31 + ((iI (bth σ (p : Int) 10)).toInt64))), (0, .ref x), (1, .long d), (3, .int (iI (p : Int)))]) hx hb dX0_digestOfPerson_71 hl (by decide) rfl (fun ls hl => ?_)
    refine lv_lload hx hb dX0_digestOfPerson_73 (lv_at hl 0 rfl) ?_
    refine lv_aload_n hx hb dX0_digestOfPerson_75 rfl (lv_at hl 1 rfl) ?_
    refine lv_iload_n hx hb dX0_digestOfPerson_76 rfl (lv_at hl 3 rfl) ?_
    refine zc_i (va_runV (As := [.int (iI (p : Int))]) (rest := [.long (((((d * 31 + 1) * 31 + ((iI (σ.2 0 p)).toInt64)) * 31 + ((iI (bor σ (p : Int))).toInt64)) * 31 + ((iI (owe σ (p : Int))).toInt64)) * 31 + ((iI (bth σ (p : Int) 10)).toInt64))]) ⟨hx, hb, hml, hown, hts⟩ (c_X0_worstToKeep l G x a B σ p hI (by omega)) (cwV 1 hts gX0_digestOfPerson_X0_worstToKeep rfl rfl rfl (by decide +kernel) ⟨Nat.le_of_ble_eq_true rfl, Nat.le_of_ble_eq_true rfl⟩) (preVX hK hP) rfl rfl hl.1 rfl (lv_room (Nat.le_of_ble_eq_true rfl)) dX0_digestOfPerson_77 ⟨Nat.le_of_ble_eq_true rfl, Nat.le_of_ble_eq_true rfl⟩) ?_
    refine lv_i2l (v := (iI (wor σ (p : Int))).toInt64) hx hb dX0_digestOfPerson_80 rfl ?_
    refine zc_l (va_runS (As := [.long (((((d * 31 + 1) * 31 + ((iI (σ.2 0 p)).toInt64)) * 31 + ((iI (bor σ (p : Int))).toInt64)) * 31 + ((iI (owe σ (p : Int))).toInt64)) * 31 + ((iI (bth σ (p : Int) 10)).toInt64)), .long ((iI (wor σ (p : Int))).toInt64)]) (rest := []) ⟨hx, hb, hml, hown, hts⟩ (c_X0_digestWith l  (((((d * 31 + 1) * 31 + ((iI (σ.2 0 p)).toInt64)) * 31 + ((iI (bor σ (p : Int))).toInt64)) * 31 + ((iI (owe σ (p : Int))).toInt64)) * 31 + ((iI (bth σ (p : Int) 10)).toInt64)) ((iI (wor σ (p : Int))).toInt64)) (va_cwS 2 hts gX0_digestOfPerson_X0_digestWith rfl rfl rfl (by decide +kernel) ⟨Nat.le_of_ble_eq_true rfl, Nat.le_of_ble_eq_true rfl⟩) preS0 rfl rfl hl.1 rfl (lv_room (Nat.le_of_ble_eq_true rfl)) dX0_digestOfPerson_81 ⟨Nat.le_of_ble_eq_true rfl, Nat.le_of_ble_eq_true rfl⟩) ?_
    exact W.lret hx hb hr (fun t ht _ => ⟨_, rfl, (by first | (rw [dgP, show σ.2 1 p = 1 from by omega]; rfl) | (rw [dgP, show σ.2 1 p = 0 from by omega]; rfl)), ht⟩) (fun q hq => absurd hq List.not_mem_nil) dX0_digestOfPerson_84
set_option maxHeartbeats 4000000 in
set_option maxRecDepth 100000 in
theorem c_X0_digestOfSlight (l : Launch) (G : zG) (x : Nat) (a : Nat → Nat) (B : Nat) (σ : zS) (d : Int64) (k : Nat) (hI : zI B σ) (hk : k < σ.1 1) : Met l yX0_digestOfSlight wsX0_digestOfSlight ({ frames := 4, cells := 0, slots := 0, locals := 89 } : Room) (va_Pc [.ref x, .long d, .int (iI (k : Int))] (pX G x a σ)) (vp_Sl (fun r => r = (dgl d (dgS σ k)))) 0 0 (fun _ => False) := by
  refine Met.ofW (cc := cX0_digestOfSlight) (maxL := 6) (ret := (some .long)) (by decide) rfl ?_
  intro pp ee s m args below meth c s₁ B9 hml hv
  obtain ⟨rfl, hP, hK⟩ := hv
  have hx := B9.exec
  have hb := B9.bytes
  have hr := B9.returns
  have hts := atoms_spec (ws := wsX0_digestOfSlight) B9.pre
  have hown : s.vm.findClass RX0 = some m.cls := findClass_of_methodNamed B9.named
  have hlocks := B9.notSynchronized
  have hin0 : ∀ w ∈ wsX00, w ∈ wsX0_digestOfSlight := by decide +kernel
  have hl := lv_entry ([.ref x, .long d, .int (iI (k : Int))]) (n := 6) (Nat.le_of_ble_eq_true rfl)
  rw [lg_entry_eq]
  generalize (lg_sl ([.ref x, .long d, .int (iI (k : Int))]) ++ List.replicate (6 - (lg_sl ([.ref x, .long d, .int (iI (k : Int))])).length) Slot.unset).toArray = ls at hl ⊢
  have hl : lv_has ls 6 [(0, .ref x), (1, .long d), (3, .int (iI (k : Int)))] := hl
  have hIn := hI.n
  have hIb := hI.b
  refine lv_lload_n hx hb dX0_digestOfSlight_0 rfl (lv_at hl 1 rfl) ?_
  refine lv_aload_n hx hb dX0_digestOfSlight_1 rfl (lv_at hl 0 rfl) ?_
  refine lv_iload_n hx hb dX0_digestOfSlight_2 rfl (lv_at hl 2 rfl) ?_
  refine zc_i (va_runV (As := [.int (iI (k : Int))]) (rest := [.long d]) ⟨hx, hb, hml, hown, hts⟩ (c_X0_weightOf l G x a B σ k hI (by omega)) (cwV 1 hts gX0_digestOfSlight_X0_weightOf rfl rfl rfl (by decide +kernel) ⟨Nat.le_of_ble_eq_true rfl, Nat.le_of_ble_eq_true rfl⟩) (preVX hK hP) rfl rfl hl.1 rfl (lv_room (Nat.le_of_ble_eq_true rfl)) dX0_digestOfSlight_3 ⟨Nat.le_of_ble_eq_true rfl, Nat.le_of_ble_eq_true rfl⟩) ?_
  have f_1 := hI.r4 k
  refine lv_i2l (v := (iI (σ.2 4 k)).toInt64) hx hb dX0_digestOfSlight_6 rfl ?_
  refine zc_l (va_runS (As := [.long d, .long ((iI (σ.2 4 k)).toInt64)]) (rest := []) ⟨hx, hb, hml, hown, hts⟩ (c_X0_digestWith l  d ((iI (σ.2 4 k)).toInt64)) (va_cwS 2 hts gX0_digestOfSlight_X0_digestWith rfl rfl rfl (by decide +kernel) ⟨Nat.le_of_ble_eq_true rfl, Nat.le_of_ble_eq_true rfl⟩) preS0 rfl rfl hl.1 rfl (lv_room (Nat.le_of_ble_eq_true rfl)) dX0_digestOfSlight_7 ⟨Nat.le_of_ble_eq_true rfl, Nat.le_of_ble_eq_true rfl⟩) ?_
  refine lv_lstore (lv' := [(4, .long (d * 31 + ((iI (σ.2 4 k)).toInt64))), (0, .ref x), (1, .long d), (3, .int (iI (k : Int)))]) hx hb dX0_digestOfSlight_10 hl (by decide) rfl (fun ls hl => ?_)
  refine lv_lload hx hb dX0_digestOfSlight_12 (lv_at hl 0 rfl) ?_
  refine lv_aload_n hx hb dX0_digestOfSlight_14 rfl (lv_at hl 1 rfl) ?_
  refine lv_iload_n hx hb dX0_digestOfSlight_15 rfl (lv_at hl 3 rfl) ?_
  refine zc_i (va_runV (As := [.int (iI (k : Int))]) (rest := [.long (d * 31 + ((iI (σ.2 4 k)).toInt64))]) ⟨hx, hb, hml, hown, hts⟩ (c_X0_stateOf l G x a B σ k hI (by omega)) (cwV 1 hts gX0_digestOfSlight_X0_stateOf rfl rfl rfl (by decide +kernel) ⟨Nat.le_of_ble_eq_true rfl, Nat.le_of_ble_eq_true rfl⟩) (preVX hK hP) rfl rfl hl.1 rfl (lv_room (Nat.le_of_ble_eq_true rfl)) dX0_digestOfSlight_16 ⟨Nat.le_of_ble_eq_true rfl, Nat.le_of_ble_eq_true rfl⟩) ?_
  have f_2 := hI.r5 k
  refine lv_i2l (v := (iI (σ.2 5 k)).toInt64) hx hb dX0_digestOfSlight_19 rfl ?_
  refine zc_l (va_runS (As := [.long (d * 31 + ((iI (σ.2 4 k)).toInt64)), .long ((iI (σ.2 5 k)).toInt64)]) (rest := []) ⟨hx, hb, hml, hown, hts⟩ (c_X0_digestWith l  (d * 31 + ((iI (σ.2 4 k)).toInt64)) ((iI (σ.2 5 k)).toInt64)) (va_cwS 2 hts gX0_digestOfSlight_X0_digestWith rfl rfl rfl (by decide +kernel) ⟨Nat.le_of_ble_eq_true rfl, Nat.le_of_ble_eq_true rfl⟩) preS0 rfl rfl hl.1 rfl (lv_room (Nat.le_of_ble_eq_true rfl)) dX0_digestOfSlight_20 ⟨Nat.le_of_ble_eq_true rfl, Nat.le_of_ble_eq_true rfl⟩) ?_
  refine lv_lstore (lv' := [(4, .long ((d * 31 + ((iI (σ.2 4 k)).toInt64)) * 31 + ((iI (σ.2 5 k)).toInt64))), (0, .ref x), (1, .long d), (3, .int (iI (k : Int)))]) hx hb dX0_digestOfSlight_23 hl (by decide) rfl (fun ls hl => ?_)
  refine lv_lload hx hb dX0_digestOfSlight_25 (lv_at hl 0 rfl) ?_
  refine lv_aload_n hx hb dX0_digestOfSlight_27 rfl (lv_at hl 1 rfl) ?_
  refine lv_iload_n hx hb dX0_digestOfSlight_28 rfl (lv_at hl 3 rfl) ?_
  refine zc_i (va_runV (As := [.int (iI (k : Int))]) (rest := [.long ((d * 31 + ((iI (σ.2 4 k)).toInt64)) * 31 + ((iI (σ.2 5 k)).toInt64))]) ⟨hx, hb, hml, hown, hts⟩ (c_X0_borneFor l G x a B σ k hI (by omega)) (cwV 1 hts gX0_digestOfSlight_X0_borneFor rfl rfl rfl (by decide +kernel) ⟨Nat.le_of_ble_eq_true rfl, Nat.le_of_ble_eq_true rfl⟩) (preVX hK hP) rfl rfl hl.1 rfl (lv_room (Nat.le_of_ble_eq_true rfl)) dX0_digestOfSlight_29 ⟨Nat.le_of_ble_eq_true rfl, Nat.le_of_ble_eq_true rfl⟩) ?_
  have f_3 := hI.r6 k
  refine lv_i2l (v := (iI (σ.2 6 k)).toInt64) hx hb dX0_digestOfSlight_32 rfl ?_
  refine zc_l (va_runS (As := [.long ((d * 31 + ((iI (σ.2 4 k)).toInt64)) * 31 + ((iI (σ.2 5 k)).toInt64)), .long ((iI (σ.2 6 k)).toInt64)]) (rest := []) ⟨hx, hb, hml, hown, hts⟩ (c_X0_digestWith l  ((d * 31 + ((iI (σ.2 4 k)).toInt64)) * 31 + ((iI (σ.2 5 k)).toInt64)) ((iI (σ.2 6 k)).toInt64)) (va_cwS 2 hts gX0_digestOfSlight_X0_digestWith rfl rfl rfl (by decide +kernel) ⟨Nat.le_of_ble_eq_true rfl, Nat.le_of_ble_eq_true rfl⟩) preS0 rfl rfl hl.1 rfl (lv_room (Nat.le_of_ble_eq_true rfl)) dX0_digestOfSlight_33 ⟨Nat.le_of_ble_eq_true rfl, Nat.le_of_ble_eq_true rfl⟩) ?_
  refine lv_lstore (lv' := [(4, .long (((d * 31 + ((iI (σ.2 4 k)).toInt64)) * 31 + ((iI (σ.2 5 k)).toInt64)) * 31 + ((iI (σ.2 6 k)).toInt64))), (0, .ref x), (1, .long d), (3, .int (iI (k : Int)))]) hx hb dX0_digestOfSlight_36 hl (by decide) rfl (fun ls hl => ?_)
  refine lv_lload hx hb dX0_digestOfSlight_38 (lv_at hl 0 rfl) ?_
  refine lv_aload_n hx hb dX0_digestOfSlight_40 rfl (lv_at hl 1 rfl) ?_
  refine lv_iload_n hx hb dX0_digestOfSlight_41 rfl (lv_at hl 3 rfl) ?_
  refine zc_i (va_runV (As := [.int (iI (k : Int))]) (rest := [.long (((d * 31 + ((iI (σ.2 4 k)).toInt64)) * 31 + ((iI (σ.2 5 k)).toInt64)) * 31 + ((iI (σ.2 6 k)).toInt64))]) ⟨hx, hb, hml, hown, hts⟩ (c_X0_quietFor l G x a B σ k hI (by omega)) (cwV 1 hts gX0_digestOfSlight_X0_quietFor rfl rfl rfl (by decide +kernel) ⟨Nat.le_of_ble_eq_true rfl, Nat.le_of_ble_eq_true rfl⟩) (preVX hK hP) rfl rfl hl.1 rfl (lv_room (Nat.le_of_ble_eq_true rfl)) dX0_digestOfSlight_42 ⟨Nat.le_of_ble_eq_true rfl, Nat.le_of_ble_eq_true rfl⟩) ?_
  have f_4 := hI.r7 k
  refine lv_i2l (v := (iI (σ.2 7 k)).toInt64) hx hb dX0_digestOfSlight_45 rfl ?_
  refine zc_l (va_runS (As := [.long (((d * 31 + ((iI (σ.2 4 k)).toInt64)) * 31 + ((iI (σ.2 5 k)).toInt64)) * 31 + ((iI (σ.2 6 k)).toInt64)), .long ((iI (σ.2 7 k)).toInt64)]) (rest := []) ⟨hx, hb, hml, hown, hts⟩ (c_X0_digestWith l  (((d * 31 + ((iI (σ.2 4 k)).toInt64)) * 31 + ((iI (σ.2 5 k)).toInt64)) * 31 + ((iI (σ.2 6 k)).toInt64)) ((iI (σ.2 7 k)).toInt64)) (va_cwS 2 hts gX0_digestOfSlight_X0_digestWith rfl rfl rfl (by decide +kernel) ⟨Nat.le_of_ble_eq_true rfl, Nat.le_of_ble_eq_true rfl⟩) preS0 rfl rfl hl.1 rfl (lv_room (Nat.le_of_ble_eq_true rfl)) dX0_digestOfSlight_46 ⟨Nat.le_of_ble_eq_true rfl, Nat.le_of_ble_eq_true rfl⟩) ?_
  refine lv_lstore (lv' := [(4, .long ((((d * 31 + ((iI (σ.2 4 k)).toInt64)) * 31 + ((iI (σ.2 5 k)).toInt64)) * 31 + ((iI (σ.2 6 k)).toInt64)) * 31 + ((iI (σ.2 7 k)).toInt64))), (0, .ref x), (1, .long d), (3, .int (iI (k : Int)))]) hx hb dX0_digestOfSlight_49 hl (by decide) rfl (fun ls hl => ?_)
  refine lv_lload hx hb dX0_digestOfSlight_51 (lv_at hl 0 rfl) ?_
  refine lv_aload_n hx hb dX0_digestOfSlight_53 rfl (lv_at hl 1 rfl) ?_
  refine lv_iload_n hx hb dX0_digestOfSlight_54 rfl (lv_at hl 3 rfl) ?_
  refine zc_i (va_runV (As := [.int (iI (k : Int))]) (rest := [.long ((((d * 31 + ((iI (σ.2 4 k)).toInt64)) * 31 + ((iI (σ.2 5 k)).toInt64)) * 31 + ((iI (σ.2 6 k)).toInt64)) * 31 + ((iI (σ.2 7 k)).toInt64))]) ⟨hx, hb, hml, hown, hts⟩ (c_X0_witnessesFor l G x a B σ k hI (by omega)) (cwV 1 hts gX0_digestOfSlight_X0_witnessesFor rfl rfl rfl (by decide +kernel) ⟨Nat.le_of_ble_eq_true rfl, Nat.le_of_ble_eq_true rfl⟩) (preVX hK hP) rfl rfl hl.1 rfl (lv_room (Nat.le_of_ble_eq_true rfl)) dX0_digestOfSlight_55 ⟨Nat.le_of_ble_eq_true rfl, Nat.le_of_ble_eq_true rfl⟩) ?_
  have f_5 := wit_bd hI k
  refine lv_i2l (v := (iI (wit σ k)).toInt64) hx hb dX0_digestOfSlight_58 rfl ?_
  refine zc_l (va_runS (As := [.long ((((d * 31 + ((iI (σ.2 4 k)).toInt64)) * 31 + ((iI (σ.2 5 k)).toInt64)) * 31 + ((iI (σ.2 6 k)).toInt64)) * 31 + ((iI (σ.2 7 k)).toInt64)), .long ((iI (wit σ k)).toInt64)]) (rest := []) ⟨hx, hb, hml, hown, hts⟩ (c_X0_digestWith l  ((((d * 31 + ((iI (σ.2 4 k)).toInt64)) * 31 + ((iI (σ.2 5 k)).toInt64)) * 31 + ((iI (σ.2 6 k)).toInt64)) * 31 + ((iI (σ.2 7 k)).toInt64)) ((iI (wit σ k)).toInt64)) (va_cwS 2 hts gX0_digestOfSlight_X0_digestWith rfl rfl rfl (by decide +kernel) ⟨Nat.le_of_ble_eq_true rfl, Nat.le_of_ble_eq_true rfl⟩) preS0 rfl rfl hl.1 rfl (lv_room (Nat.le_of_ble_eq_true rfl)) dX0_digestOfSlight_59 ⟨Nat.le_of_ble_eq_true rfl, Nat.le_of_ble_eq_true rfl⟩) ?_
  refine lv_lstore (lv' := [(4, .long (((((d * 31 + ((iI (σ.2 4 k)).toInt64)) * 31 + ((iI (σ.2 5 k)).toInt64)) * 31 + ((iI (σ.2 6 k)).toInt64)) * 31 + ((iI (σ.2 7 k)).toInt64)) * 31 + ((iI (wit σ k)).toInt64))), (0, .ref x), (1, .long d), (3, .int (iI (k : Int)))]) hx hb dX0_digestOfSlight_62 hl (by decide) rfl (fun ls hl => ?_)
  refine lv_lload hx hb dX0_digestOfSlight_64 (lv_at hl 0 rfl) ?_
  refine lv_aload_n hx hb dX0_digestOfSlight_66 rfl (lv_at hl 1 rfl) ?_
  refine lv_iload_n hx hb dX0_digestOfSlight_67 rfl (lv_at hl 3 rfl) ?_
  refine zc_i (va_runV (As := [.int (iI (k : Int))]) (rest := [.long (((((d * 31 + ((iI (σ.2 4 k)).toInt64)) * 31 + ((iI (σ.2 5 k)).toInt64)) * 31 + ((iI (σ.2 6 k)).toInt64)) * 31 + ((iI (σ.2 7 k)).toInt64)) * 31 + ((iI (wit σ k)).toInt64))]) ⟨hx, hb, hml, hown, hts⟩ (c_X0_wordsWanted l G x a B σ k hI (by omega)) (cwV 1 hts gX0_digestOfSlight_X0_wordsWanted rfl rfl rfl (by decide +kernel) ⟨Nat.le_of_ble_eq_true rfl, Nat.le_of_ble_eq_true rfl⟩) (preVX hK hP) rfl rfl hl.1 rfl (lv_room (Nat.le_of_ble_eq_true rfl)) dX0_digestOfSlight_68 ⟨Nat.le_of_ble_eq_true rfl, Nat.le_of_ble_eq_true rfl⟩) ?_
  have f_6 := wan_bd σ k
  refine lv_i2l (v := (iI (wan σ k)).toInt64) hx hb dX0_digestOfSlight_71 rfl ?_
  refine zc_l (va_runS (As := [.long (((((d * 31 + ((iI (σ.2 4 k)).toInt64)) * 31 + ((iI (σ.2 5 k)).toInt64)) * 31 + ((iI (σ.2 6 k)).toInt64)) * 31 + ((iI (σ.2 7 k)).toInt64)) * 31 + ((iI (wit σ k)).toInt64)), .long ((iI (wan σ k)).toInt64)]) (rest := []) ⟨hx, hb, hml, hown, hts⟩ (c_X0_digestWith l  (((((d * 31 + ((iI (σ.2 4 k)).toInt64)) * 31 + ((iI (σ.2 5 k)).toInt64)) * 31 + ((iI (σ.2 6 k)).toInt64)) * 31 + ((iI (σ.2 7 k)).toInt64)) * 31 + ((iI (wit σ k)).toInt64)) ((iI (wan σ k)).toInt64)) (va_cwS 2 hts gX0_digestOfSlight_X0_digestWith rfl rfl rfl (by decide +kernel) ⟨Nat.le_of_ble_eq_true rfl, Nat.le_of_ble_eq_true rfl⟩) preS0 rfl rfl hl.1 rfl (lv_room (Nat.le_of_ble_eq_true rfl)) dX0_digestOfSlight_72 ⟨Nat.le_of_ble_eq_true rfl, Nat.le_of_ble_eq_true rfl⟩) ?_
  refine lv_lstore (lv' := [(4, .long ((((((d * 31 + ((iI (σ.2 4 k)).toInt64)) * 31 + ((iI (σ.2 5 k)).toInt64)) * 31 + ((iI (σ.2 6 k)).toInt64)) * 31 + ((iI (σ.2 7 k)).toInt64)) * 31 + ((iI (wit σ k)).toInt64)) * 31 + ((iI (wan σ k)).toInt64))), (0, .ref x), (1, .long d), (3, .int (iI (k : Int)))]) hx hb dX0_digestOfSlight_75 hl (by decide) rfl (fun ls hl => ?_)
  refine lv_lload hx hb dX0_digestOfSlight_77 (lv_at hl 0 rfl) ?_
  refine lv_aload_n hx hb dX0_digestOfSlight_79 rfl (lv_at hl 1 rfl) ?_
  refine lv_iload_n hx hb dX0_digestOfSlight_80 rfl (lv_at hl 3 rfl) ?_
  refine lv_bipush (v := iI 7) hx hb dX0_digestOfSlight_81 (by decide) ?_
  refine zc_i (va_runV (As := [.int (iI (k : Int)), .int (iI 7)]) (rest := [.long ((((((d * 31 + ((iI (σ.2 4 k)).toInt64)) * 31 + ((iI (σ.2 5 k)).toInt64)) * 31 + ((iI (σ.2 6 k)).toInt64)) * 31 + ((iI (σ.2 7 k)).toInt64)) * 31 + ((iI (wit σ k)).toInt64)) * 31 + ((iI (wan σ k)).toInt64))]) ⟨hx, hb, hml, hown, hts⟩ (c_X0_weightIn l G x a B σ k 7 hI (by omega) (by omega)) (cwV 2 hts gX0_digestOfSlight_X0_weightIn rfl rfl rfl (by decide +kernel) ⟨Nat.le_of_ble_eq_true rfl, Nat.le_of_ble_eq_true rfl⟩) (preVX hK hP) rfl rfl hl.1 rfl (lv_room (Nat.le_of_ble_eq_true rfl)) dX0_digestOfSlight_83 ⟨Nat.le_of_ble_eq_true rfl, Nat.le_of_ble_eq_true rfl⟩) ?_
  have f_7 := lat_bd hI k 7
  refine lv_i2l (v := (iI (lat σ k 7)).toInt64) hx hb dX0_digestOfSlight_86 rfl ?_
  refine zc_l (va_runS (As := [.long ((((((d * 31 + ((iI (σ.2 4 k)).toInt64)) * 31 + ((iI (σ.2 5 k)).toInt64)) * 31 + ((iI (σ.2 6 k)).toInt64)) * 31 + ((iI (σ.2 7 k)).toInt64)) * 31 + ((iI (wit σ k)).toInt64)) * 31 + ((iI (wan σ k)).toInt64)), .long ((iI (lat σ k 7)).toInt64)]) (rest := []) ⟨hx, hb, hml, hown, hts⟩ (c_X0_digestWith l  ((((((d * 31 + ((iI (σ.2 4 k)).toInt64)) * 31 + ((iI (σ.2 5 k)).toInt64)) * 31 + ((iI (σ.2 6 k)).toInt64)) * 31 + ((iI (σ.2 7 k)).toInt64)) * 31 + ((iI (wit σ k)).toInt64)) * 31 + ((iI (wan σ k)).toInt64)) ((iI (lat σ k 7)).toInt64)) (va_cwS 2 hts gX0_digestOfSlight_X0_digestWith rfl rfl rfl (by decide +kernel) ⟨Nat.le_of_ble_eq_true rfl, Nat.le_of_ble_eq_true rfl⟩) preS0 rfl rfl hl.1 rfl (lv_room (Nat.le_of_ble_eq_true rfl)) dX0_digestOfSlight_87 ⟨Nat.le_of_ble_eq_true rfl, Nat.le_of_ble_eq_true rfl⟩) ?_
  refine lv_lstore (lv' := [(4, .long (((((((d * 31 + ((iI (σ.2 4 k)).toInt64)) * 31 + ((iI (σ.2 5 k)).toInt64)) * 31 + ((iI (σ.2 6 k)).toInt64)) * 31 + ((iI (σ.2 7 k)).toInt64)) * 31 + ((iI (wit σ k)).toInt64)) * 31 + ((iI (wan σ k)).toInt64)) * 31 + ((iI (lat σ k 7)).toInt64))), (0, .ref x), (1, .long d), (3, .int (iI (k : Int)))]) hx hb dX0_digestOfSlight_90 hl (by decide) rfl (fun ls hl => ?_)
  refine lv_lload hx hb dX0_digestOfSlight_92 (lv_at hl 0 rfl) ?_
  refine lv_aload_n hx hb dX0_digestOfSlight_94 rfl (lv_at hl 1 rfl) ?_
  refine lv_iload_n hx hb dX0_digestOfSlight_95 rfl (lv_at hl 3 rfl) ?_
  refine zc_i (va_runV (As := [.int (iI (k : Int))]) (rest := [.long (((((((d * 31 + ((iI (σ.2 4 k)).toInt64)) * 31 + ((iI (σ.2 5 k)).toInt64)) * 31 + ((iI (σ.2 6 k)).toInt64)) * 31 + ((iI (σ.2 7 k)).toInt64)) * 31 + ((iI (wit σ k)).toInt64)) * 31 + ((iI (wan σ k)).toInt64)) * 31 + ((iI (lat σ k 7)).toInt64))]) ⟨hx, hb, hml, hown, hts⟩ (c_X0_daysUntilForgotten l G x a B σ k hI (by omega)) (cwV 1 hts gX0_digestOfSlight_X0_daysUntilForgotten rfl rfl rfl (by decide +kernel) ⟨Nat.le_of_ble_eq_true rfl, Nat.le_of_ble_eq_true rfl⟩) (preVX hK hP) rfl rfl hl.1 rfl (lv_room (Nat.le_of_ble_eq_true rfl)) dX0_digestOfSlight_96 ⟨Nat.le_of_ble_eq_true rfl, Nat.le_of_ble_eq_true rfl⟩) ?_
  have f_8 := unt_bd hI k
  refine lv_i2l (v := (iI (unt σ k)).toInt64) hx hb dX0_digestOfSlight_99 rfl ?_
  refine zc_l (va_runS (As := [.long (((((((d * 31 + ((iI (σ.2 4 k)).toInt64)) * 31 + ((iI (σ.2 5 k)).toInt64)) * 31 + ((iI (σ.2 6 k)).toInt64)) * 31 + ((iI (σ.2 7 k)).toInt64)) * 31 + ((iI (wit σ k)).toInt64)) * 31 + ((iI (wan σ k)).toInt64)) * 31 + ((iI (lat σ k 7)).toInt64)), .long ((iI (unt σ k)).toInt64)]) (rest := []) ⟨hx, hb, hml, hown, hts⟩ (c_X0_digestWith l  (((((((d * 31 + ((iI (σ.2 4 k)).toInt64)) * 31 + ((iI (σ.2 5 k)).toInt64)) * 31 + ((iI (σ.2 6 k)).toInt64)) * 31 + ((iI (σ.2 7 k)).toInt64)) * 31 + ((iI (wit σ k)).toInt64)) * 31 + ((iI (wan σ k)).toInt64)) * 31 + ((iI (lat σ k 7)).toInt64)) ((iI (unt σ k)).toInt64)) (va_cwS 2 hts gX0_digestOfSlight_X0_digestWith rfl rfl rfl (by decide +kernel) ⟨Nat.le_of_ble_eq_true rfl, Nat.le_of_ble_eq_true rfl⟩) preS0 rfl rfl hl.1 rfl (lv_room (Nat.le_of_ble_eq_true rfl)) dX0_digestOfSlight_100 ⟨Nat.le_of_ble_eq_true rfl, Nat.le_of_ble_eq_true rfl⟩) ?_
  exact W.lret hx hb hr (fun t ht _ => ⟨_, rfl, (by rfl), ht⟩) (fun q hq => absurd hq List.not_mem_nil) dX0_digestOfSlight_103
set_option maxHeartbeats 4000000 in
set_option maxRecDepth 100000 in
theorem c_X0_digest (l : Launch) (G : zG) (x : Nat) (a : Nat → Nat) (B : Nat) (σ : zS) (hI : zI B σ) : Met l yX0_digest wsX0_digest ({ frames := 5, cells := 0, slots := 0, locals := 119 } : Room) (va_Pc [.ref x] (pX G x a σ)) (vp_Sl (fun r => r = (dig σ))) 0 0 (fun _ => False) := by
  refine Met.ofW (cc := cX0_digest) (maxL := 4) (ret := (some .long)) (by decide) rfl ?_
  intro pp ee s m args below meth c s₁ B9 hml hv
  obtain ⟨rfl, hP, hK⟩ := hv
  have hx := B9.exec
  have hb := B9.bytes
  have hr := B9.returns
  have hts := atoms_spec (ws := wsX0_digest) B9.pre
  have hown : s.vm.findClass RX0 = some m.cls := findClass_of_methodNamed B9.named
  have hlocks := B9.notSynchronized
  have hin0 : ∀ w ∈ wsX00, w ∈ wsX0_digest := by decide +kernel
  have w_0 := hts (.constantLong RX0 130 2027) (by decide +kernel)
  have w_1 := hts (.fieldLink RX0 39 "ApologyLedger" "personCount" "I") (by decide +kernel)
  have w_2 := hts (.fieldLink RX0 60 "ApologyLedger" "slightCount" "I") (by decide +kernel)
  have hl := lv_entry ([.ref x]) (n := 4) (Nat.le_of_ble_eq_true rfl)
  rw [lg_entry_eq]
  generalize (lg_sl ([.ref x]) ++ List.replicate (4 - (lg_sl ([.ref x])).length) Slot.unset).toArray = ls at hl ⊢
  have hl : lv_has ls 4 [(0, .ref x)] := hl
  have hIn := hI.n
  have hIb := hI.b
  refine lv_aload_n hx hb dX0_digest_0 rfl (lv_at hl 0 rfl) ?_
  refine lv_ldc2 hx hb hown w_0 dX0_digest_1 ?_
  refine zc_l (va_runV (As := [.long 2027]) (rest := []) ⟨hx, hb, hml, hown, hts⟩ (c_X0_digestOfTheWhole l G x a B σ 2027 hI) (cwV 1 hts gX0_digest_X0_digestOfTheWhole rfl rfl rfl (by decide +kernel) ⟨Nat.le_of_ble_eq_true rfl, Nat.le_of_ble_eq_true rfl⟩) (preVX hK hP) rfl rfl hl.1 rfl (lv_room (Nat.le_of_ble_eq_true rfl)) dX0_digest_4 ⟨Nat.le_of_ble_eq_true rfl, Nat.le_of_ble_eq_true rfl⟩) ?_
  refine lv_lstore_n (lv' := [(1, .long (dgl 2027 (dgW σ))), (0, .ref x)]) hx hb dX0_digest_7 rfl hl (by decide) rfl (fun ls hl => ?_)
  refine lv_iconst (v := iI 0) hx hb dX0_digest_8 rfl ?_
  refine lv_istore_n (lv' := [(3, .int (iI 0)), (1, .long (dgl 2027 (dgW σ))), (0, .ref x)]) hx hb dX0_digest_9 rfl hl (by decide) rfl (fun ls hl => ?_)
  have LP10 : ∀ (r10 : Nat) (j : Nat) (d1 : Int64), j ≤ σ.1 0 → σ.1 0 - j < r10 → d1 = dgp σ (dgl 2027 (dgW σ)) j → ∀ (ls : Array Slot), lv_has ls 4 [(3, .int (iI (j : Int))), (1, .long d1), (0, .ref x)] → W pp l ee (headSpec wsX0_digest ({ frames := 5, cells := 0, slots := 0, locals := 119 } : Room)).room s m ([.ref x] : List Value).toArray below meth c s.heap [] 0 0 (MQ below (vp_Sl (fun r => r = (dig σ))) ([.ref x] : List Value).toArray s 0 0 (fun _ => False)) (F0 m 10 ls []) := by
    intro r10
    induction r10 with
    | zero => intro j d1 hv10_0 hv10_1; exfalso; omega
    | succ r10 ih10 =>
      intro j d1 hv10_0 hv10_1 hv10_2 ls hl
      refine lv_iload_n hx hb dX0_digest_10 rfl (lv_at hl 0 rfl) ?_
      refine lv_aload_n hx hb dX0_digest_11 rfl (lv_at hl 2 rfl) ?_
      refine x_get (v := .int (iI (σ.1 0 : Nat))) hx hb hts hin0 hown hK hP 0 rfl 2 (by decide) w_1 rfl dX0_digest_12 ?_
      refine z_icmp_ge (tgt := 31) hx hb dX0_digest_15 (by decide) (by omega) (by omega) (fun c_1 => ?_) (fun c_1 => ?_)
      ·
        refine lv_iconst (v := iI 0) hx hb dX0_digest_31 rfl ?_
        refine lv_istore_n (lv' := [(3, .int (iI 0)), (1, .long d1), (0, .ref x)]) hx hb dX0_digest_32 rfl hl (by decide) rfl (fun ls hl => ?_)
        have LP33 : ∀ (r33 : Nat) (i : Nat) (d2 : Int64), i ≤ σ.1 1 → σ.1 1 - i < r33 → d2 = dgs σ (dgp σ (dgl 2027 (dgW σ)) (σ.1 0)) i → ∀ (ls : Array Slot), lv_has ls 4 [(3, .int (iI (i : Int))), (1, .long d2), (0, .ref x)] → W pp l ee (headSpec wsX0_digest ({ frames := 5, cells := 0, slots := 0, locals := 119 } : Room)).room s m ([.ref x] : List Value).toArray below meth c s.heap [] 0 0 (MQ below (vp_Sl (fun r => r = (dig σ))) ([.ref x] : List Value).toArray s 0 0 (fun _ => False)) (F0 m 33 ls []) := by
          intro r33
          induction r33 with
          | zero => intro i d2 hv33_0 hv33_1; exfalso; omega
          | succ r33 ih33 =>
            intro i d2 hv33_0 hv33_1 hv33_2 ls hl
            refine lv_iload_n hx hb dX0_digest_33 rfl (lv_at hl 0 rfl) ?_
            refine lv_aload_n hx hb dX0_digest_34 rfl (lv_at hl 2 rfl) ?_
            refine x_get (v := .int (iI (σ.1 1 : Nat))) hx hb hts hin0 hown hK hP 0 rfl 9 (by decide) w_2 rfl dX0_digest_35 ?_
            refine z_icmp_ge (tgt := 54) hx hb dX0_digest_38 (by decide) (by omega) (by omega) (fun c_2 => ?_) (fun c_2 => ?_)
            ·
              refine lv_lload_n hx hb dX0_digest_54 rfl (lv_at hl 1 rfl) ?_
              exact W.lret hx hb hr (fun t ht _ => ⟨_, rfl, (by rw [hv33_2, show i = σ.1 1 from by omega]; rfl), ht⟩) (fun q hq => absurd hq List.not_mem_nil) dX0_digest_55
            ·
              refine lv_aload_n hx hb dX0_digest_41 rfl (lv_at hl 2 rfl) ?_
              refine lv_lload_n hx hb dX0_digest_42 rfl (lv_at hl 1 rfl) ?_
              refine lv_iload_n hx hb dX0_digest_43 rfl (lv_at hl 0 rfl) ?_
              refine zc_l (va_runV (As := [.long d2, .int (iI (i : Int))]) (rest := []) ⟨hx, hb, hml, hown, hts⟩ (c_X0_digestOfSlight l G x a B σ d2 i hI (by omega)) (cwV 2 hts gX0_digest_X0_digestOfSlight rfl rfl rfl (by decide +kernel) ⟨Nat.le_of_ble_eq_true rfl, Nat.le_of_ble_eq_true rfl⟩) (preVX hK hP) rfl rfl hl.1 rfl (lv_room (Nat.le_of_ble_eq_true rfl)) dX0_digest_44 ⟨Nat.le_of_ble_eq_true rfl, Nat.le_of_ble_eq_true rfl⟩) ?_
              refine lv_lstore_n (lv' := [(1, .long (dgl d2 (dgS σ i))), (3, .int (iI (i : Int))), (0, .ref x)]) hx hb dX0_digest_47 rfl hl (by decide) rfl (fun ls hl => ?_)
              refine lv_iinc (v := iI ((i : Int) + 1)) (lv' := [(3, .int (iI ((i : Int) + 1))), (1, .long (dgl d2 (dgS σ i))), (0, .ref x)]) hx hb dX0_digest_48 hl (k := 1) rfl (iI_add _ _) (by decide) rfl (fun ls hl => ?_)
              refine lv_goto (tgt := 33) hx hb dX0_digest_51 (by decide) ?_
              exact ih33 (i + 1) (dgl d2 (dgS σ i)) (by omega) (by omega) (by rw [hv33_2]; rfl) ls (lv_sub hl [0, 1, 2] rfl)
        exact LP33 (σ.1 1 - (0) + 1) 0 d1 (by omega) (by omega) (by rw [hv10_2, show j = σ.1 0 from by omega]; rfl) ls (lv_sub hl [0, 1, 2] rfl)
      ·
        refine lv_aload_n hx hb dX0_digest_18 rfl (lv_at hl 2 rfl) ?_
        refine lv_lload_n hx hb dX0_digest_19 rfl (lv_at hl 1 rfl) ?_
        refine lv_iload_n hx hb dX0_digest_20 rfl (lv_at hl 0 rfl) ?_
        refine zc_l (va_runV (As := [.long d1, .int (iI (j : Int))]) (rest := []) ⟨hx, hb, hml, hown, hts⟩ (c_X0_digestOfPerson l G x a B σ d1 j hI (by omega)) (cwV 2 hts gX0_digest_X0_digestOfPerson rfl rfl rfl (by decide +kernel) ⟨Nat.le_of_ble_eq_true rfl, Nat.le_of_ble_eq_true rfl⟩) (preVX hK hP) rfl rfl hl.1 rfl (lv_room (Nat.le_of_ble_eq_true rfl)) dX0_digest_21 ⟨Nat.le_of_ble_eq_true rfl, Nat.le_of_ble_eq_true rfl⟩) ?_
        refine lv_lstore_n (lv' := [(1, .long (dgl d1 (dgP σ j))), (3, .int (iI (j : Int))), (0, .ref x)]) hx hb dX0_digest_24 rfl hl (by decide) rfl (fun ls hl => ?_)
        refine lv_iinc (v := iI ((j : Int) + 1)) (lv' := [(3, .int (iI ((j : Int) + 1))), (1, .long (dgl d1 (dgP σ j))), (0, .ref x)]) hx hb dX0_digest_25 hl (k := 1) rfl (iI_add _ _) (by decide) rfl (fun ls hl => ?_)
        refine lv_goto (tgt := 10) hx hb dX0_digest_28 (by decide) ?_
        exact ih10 (j + 1) (dgl d1 (dgP σ j)) (by omega) (by omega) (by rw [hv10_2]; rfl) ls (lv_sub hl [0, 1, 2] rfl)
  exact LP10 (σ.1 0 - (0) + 1) 0 (dgl 2027 (dgW σ)) (by omega) (by omega) (by rfl) ls (lv_sub hl [0, 1, 2] rfl)
