/-! READS of the reference. -/
set_option maxHeartbeats 4000000 in
set_option maxRecDepth 100000 in
theorem c_X1_isIn (l : Launch)  (z : Int) (lo : Int) (hi : Int) (hzb : -2147483648 ≤ z ∧ z < 2147483648) (hlo : -2147483648 ≤ lo ∧ lo < 2147483648) (hhi : -2147483648 ≤ hi ∧ hi < 2147483648) : Met l yX1_isIn wsX1_isIn ({ frames := 0, cells := 0, slots := 0, locals := 0 } : Room) (va_Pc [.int (iI z), .int (iI lo), .int (iI hi)] (fun _ => True)) (vp_Si (fun r => r = iI (inn z lo hi))) 0 0 (fun _ => False) := by
  refine Met.ofW (cc := cX1_isIn) (maxL := 3) (ret := (some .boolean)) (by decide) rfl ?_
  intro pp ee s m args below meth c s₁ B9 hml hv
  obtain ⟨rfl, -⟩ := hv
  have hx := B9.exec
  have hb := B9.bytes
  have hr := B9.returns
  have hts := atoms_spec (ws := wsX1_isIn) B9.pre
  have hown : s.vm.findClass RX1 = some m.cls := findClass_of_methodNamed B9.named
  have hlocks := B9.notSynchronized
  have hl := lv_entry ([.int (iI z), .int (iI lo), .int (iI hi)]) (n := 3) (Nat.le_of_ble_eq_true rfl)
  rw [lg_entry_eq]
  generalize (lg_sl ([.int (iI z), .int (iI lo), .int (iI hi)]) ++ List.replicate (3 - (lg_sl ([.int (iI z), .int (iI lo), .int (iI hi)])).length) Slot.unset).toArray = ls at hl ⊢
  have hl : lv_has ls 3 [(0, .int (iI z)), (1, .int (iI lo)), (2, .int (iI hi))] := hl
  refine lv_iload_n hx hb dX1_isIn_0 rfl (lv_at hl 0 rfl) ?_
  refine lv_iload_n hx hb dX1_isIn_1 rfl (lv_at hl 1 rfl) ?_
  refine z_icmp_lt (tgt := 14) hx hb dX1_isIn_2 (by decide) (by omega) (by omega) (fun c_1 => ?_) (fun c_1 => ?_)
  ·
    refine lv_iconst (v := iI 0) hx hb dX1_isIn_14 rfl ?_
    refine z_re (v' := iI (inn z lo hi)) (congrArg iI (by unfold inn; split <;> omega)) ?_
    exact W.zret hx hb hr (z_nb (by have := inn_or z lo hi; omega)) (fun t ht _ => ⟨_, rfl, rfl, ht⟩) (fun q hq => absurd hq List.not_mem_nil) dX1_isIn_15
  ·
    refine lv_iload_n hx hb dX1_isIn_5 rfl (lv_at hl 0 rfl) ?_
    refine lv_iload_n hx hb dX1_isIn_6 rfl (lv_at hl 2 rfl) ?_
    refine z_icmp_gt (tgt := 14) hx hb dX1_isIn_7 (by decide) (by omega) (by omega) (fun c_2 => ?_) (fun c_2 => ?_)
    ·
      refine lv_iconst (v := iI 0) hx hb dX1_isIn_14 rfl ?_
      refine z_re (v' := iI (inn z lo hi)) (congrArg iI (by unfold inn; split <;> omega)) ?_
      exact W.zret hx hb hr (z_nb (by have := inn_or z lo hi; omega)) (fun t ht _ => ⟨_, rfl, rfl, ht⟩) (fun q hq => absurd hq List.not_mem_nil) dX1_isIn_15
    ·
      refine lv_iconst (v := iI 1) hx hb dX1_isIn_10 rfl ?_
      refine lv_goto (tgt := 15) hx hb dX1_isIn_11 (by decide) ?_
      refine z_re (v' := iI (inn z lo hi)) (congrArg iI (by unfold inn; split <;> omega)) ?_
      exact W.zret hx hb hr (z_nb (by have := inn_or z lo hi; omega)) (fun t ht _ => ⟨_, rfl, rfl, ht⟩) (fun q hq => absurd hq List.not_mem_nil) dX1_isIn_15
set_option maxHeartbeats 4000000 in
set_option maxRecDepth 100000 in
theorem c_X1_isPerson (l : Launch) (G : zG) (x : Nat) (a : Nat → Nat) (σ : zS) (t : Nat) (z : Int) (hn : σ.1 0 ≤ 6) (hzb : -2147483648 ≤ z ∧ z < 2147483648) : Met l yX1_isPerson wsX1_isPerson ({ frames := 1, cells := 0, slots := 0, locals := 22 } : Room) (va_Pc [.ref x, .int (iI z)] (pM G x a t σ)) (vp_Si (fun r => r = iI (inn z 0 ((σ.1 0 : Nat) - 1)))) 0 0 (fun _ => False) := by
  refine Met.ofW (cc := cX1_isPerson) (maxL := 2) (ret := (some .boolean)) (by decide) rfl ?_
  intro pp ee s m args below meth c s₁ B9 hml hv
  obtain ⟨rfl, hP, hK⟩ := hv
  have hx := B9.exec
  have hb := B9.bytes
  have hr := B9.returns
  have hts := atoms_spec (ws := wsX1_isPerson) B9.pre
  have hown : s.vm.findClass RX1 = some m.cls := findClass_of_methodNamed B9.named
  have hlocks := B9.notSynchronized
  have hin0 : ∀ w ∈ wsX10, w ∈ wsX1_isPerson := by decide +kernel
  have w_0 := hts (.fieldLink RX1 39 "ApologyLedgerModel" "persons" "I") (by decide +kernel)
  have hl := lv_entry ([.ref x, .int (iI z)]) (n := 2) (Nat.le_of_ble_eq_true rfl)
  rw [lg_entry_eq]
  generalize (lg_sl ([.ref x, .int (iI z)]) ++ List.replicate (2 - (lg_sl ([.ref x, .int (iI z)])).length) Slot.unset).toArray = ls at hl ⊢
  have hl : lv_has ls 2 [(0, .ref x), (1, .int (iI z))] := hl
  refine lv_iload_n hx hb dX1_isPerson_0 rfl (lv_at hl 1 rfl) ?_
  refine lv_iconst (v := iI 0) hx hb dX1_isPerson_1 rfl ?_
  refine lv_aload_n hx hb dX1_isPerson_2 rfl (lv_at hl 0 rfl) ?_
  refine m_get (v := .int (iI (σ.1 0 : Nat))) hx hb hts hin0 hown hK hP 0 rfl 3 (by decide) w_0 rfl dX1_isPerson_3 ?_
  refine lv_iconst (v := iI 1) hx hb dX1_isPerson_6 rfl ?_
  refine z_isub hx hb dX1_isPerson_7 ?_
  refine zc_i (va_runS (As := [.int (iI z), .int (iI 0), .int (iI ((σ.1 0 : Nat) - 1))]) (rest := []) ⟨hx, hb, hml, hown, hts⟩ (c_X1_isIn l  z 0 ((σ.1 0 : Nat) - 1) (by omega) (by omega) (by omega)) (va_cwS 3 hts gX1_isPerson_X1_isIn rfl rfl rfl (by decide +kernel) ⟨Nat.le_of_ble_eq_true rfl, Nat.le_of_ble_eq_true rfl⟩) preS0 rfl rfl hl.1 rfl (lv_room (Nat.le_of_ble_eq_true rfl)) dX1_isPerson_8 ⟨Nat.le_of_ble_eq_true rfl, Nat.le_of_ble_eq_true rfl⟩) ?_
  have f_1 := inn_or z 0 ((σ.1 0 : Nat) - 1)
  refine z_re (v' := iI (inn z 0 ((σ.1 0 : Nat) - 1))) (congrArg iI (by rfl)) ?_
  exact W.zret hx hb hr (z_nb (by omega)) (fun t ht _ => ⟨_, rfl, rfl, ht⟩) (fun q hq => absurd hq List.not_mem_nil) dX1_isPerson_11
set_option maxHeartbeats 4000000 in
set_option maxRecDepth 100000 in
theorem c_X1_isSlight (l : Launch) (G : zG) (x : Nat) (a : Nat → Nat) (σ : zS) (t : Nat) (z : Int) (hn : σ.1 1 ≤ 20) (hzb : -2147483648 ≤ z ∧ z < 2147483648) : Met l yX1_isSlight wsX1_isSlight ({ frames := 1, cells := 0, slots := 0, locals := 22 } : Room) (va_Pc [.ref x, .int (iI z)] (pM G x a t σ)) (vp_Si (fun r => r = iI (inn z 0 ((σ.1 1 : Nat) - 1)))) 0 0 (fun _ => False) := by
  refine Met.ofW (cc := cX1_isSlight) (maxL := 2) (ret := (some .boolean)) (by decide) rfl ?_
  intro pp ee s m args below meth c s₁ B9 hml hv
  obtain ⟨rfl, hP, hK⟩ := hv
  have hx := B9.exec
  have hb := B9.bytes
  have hr := B9.returns
  have hts := atoms_spec (ws := wsX1_isSlight) B9.pre
  have hown : s.vm.findClass RX1 = some m.cls := findClass_of_methodNamed B9.named
  have hlocks := B9.notSynchronized
  have hin0 : ∀ w ∈ wsX10, w ∈ wsX1_isSlight := by decide +kernel
  have w_0 := hts (.fieldLink RX1 46 "ApologyLedgerModel" "slights" "I") (by decide +kernel)
  have hl := lv_entry ([.ref x, .int (iI z)]) (n := 2) (Nat.le_of_ble_eq_true rfl)
  rw [lg_entry_eq]
  generalize (lg_sl ([.ref x, .int (iI z)]) ++ List.replicate (2 - (lg_sl ([.ref x, .int (iI z)])).length) Slot.unset).toArray = ls at hl ⊢
  have hl : lv_has ls 2 [(0, .ref x), (1, .int (iI z))] := hl
  refine lv_iload_n hx hb dX1_isSlight_0 rfl (lv_at hl 1 rfl) ?_
  refine lv_iconst (v := iI 0) hx hb dX1_isSlight_1 rfl ?_
  refine lv_aload_n hx hb dX1_isSlight_2 rfl (lv_at hl 0 rfl) ?_
  refine m_get (v := .int (iI (σ.1 1 : Nat))) hx hb hts hin0 hown hK hP 0 rfl 6 (by decide) w_0 rfl dX1_isSlight_3 ?_
  refine lv_iconst (v := iI 1) hx hb dX1_isSlight_6 rfl ?_
  refine z_isub hx hb dX1_isSlight_7 ?_
  refine zc_i (va_runS (As := [.int (iI z), .int (iI 0), .int (iI ((σ.1 1 : Nat) - 1))]) (rest := []) ⟨hx, hb, hml, hown, hts⟩ (c_X1_isIn l  z 0 ((σ.1 1 : Nat) - 1) (by omega) (by omega) (by omega)) (va_cwS 3 hts gX1_isSlight_X1_isIn rfl rfl rfl (by decide +kernel) ⟨Nat.le_of_ble_eq_true rfl, Nat.le_of_ble_eq_true rfl⟩) preS0 rfl rfl hl.1 rfl (lv_room (Nat.le_of_ble_eq_true rfl)) dX1_isSlight_8 ⟨Nat.le_of_ble_eq_true rfl, Nat.le_of_ble_eq_true rfl⟩) ?_
  have f_1 := inn_or z 0 ((σ.1 1 : Nat) - 1)
  refine z_re (v' := iI (inn z 0 ((σ.1 1 : Nat) - 1))) (congrArg iI (by rfl)) ?_
  exact W.zret hx hb hr (z_nb (by omega)) (fun t ht _ => ⟨_, rfl, rfl, ht⟩) (fun q hq => absurd hq List.not_mem_nil) dX1_isSlight_11
set_option maxHeartbeats 4000000 in
set_option maxRecDepth 100000 in
theorem c_X1_isOpen (l : Launch) (G : zG) (x : Nat) (a : Nat → Nat) (σ : zS) (t : Nat) (k : Nat) (hk : k < 20) (h5 : 0 ≤ σ.2 5 k ∧ σ.2 5 k ≤ 3) : Met l yX1_isOpen wsX1_isOpen ({ frames := 0, cells := 0, slots := 0, locals := 0 } : Room) (va_Pc [.ref x, .int (iI (k : Int))] (pM G x a t σ)) (vp_Si (fun r => r = iI (opn σ k))) 0 0 (fun _ => False) := by
  refine Met.ofW (cc := cX1_isOpen) (maxL := 2) (ret := (some .boolean)) (by decide) rfl ?_
  intro pp ee s m args below meth c s₁ B9 hml hv
  obtain ⟨rfl, hP, hK⟩ := hv
  have hx := B9.exec
  have hb := B9.bytes
  have hr := B9.returns
  have hts := atoms_spec (ws := wsX1_isOpen) B9.pre
  have hown : s.vm.findClass RX1 = some m.cls := findClass_of_methodNamed B9.named
  have hlocks := B9.notSynchronized
  have hin0 : ∀ w ∈ wsX10, w ∈ wsX1_isOpen := by decide +kernel
  have w_0 := hts (.fieldLink RX1 26 "ApologyLedgerModel" "state" "[I") (by decide +kernel)
  have hl := lv_entry ([.ref x, .int (iI (k : Int))]) (n := 2) (Nat.le_of_ble_eq_true rfl)
  rw [lg_entry_eq]
  generalize (lg_sl ([.ref x, .int (iI (k : Int))]) ++ List.replicate (2 - (lg_sl ([.ref x, .int (iI (k : Int))])).length) Slot.unset).toArray = ls at hl ⊢
  have hl : lv_has ls 2 [(0, .ref x), (1, .int (iI (k : Int)))] := hl
  refine lv_aload_n hx hb dX1_isOpen_0 rfl (lv_at hl 0 rfl) ?_
  refine m_get (v := .ref (a 5)) hx hb hts hin0 hown hK hP 0 rfl 10 (by decide) w_0 rfl dX1_isOpen_1 ?_
  refine lv_iload_n hx hb dX1_isOpen_4 rfl (lv_at hl 1 rfl) ?_
  refine z_iald (v := iI (σ.2 5 k)) hx hb hK hP 6 0 rfl rfl (k := k) (by omega) (by decide) rfl dX1_isOpen_5 ?_
  refine z_if_ne (tgt := 13) hx hb dX1_isOpen_6 (by decide) (by omega) (fun c_1 => ?_) (fun c_1 => ?_)
  ·
    refine lv_iconst (v := iI 0) hx hb dX1_isOpen_13 rfl ?_
    refine z_re (v' := iI (opn σ k)) (congrArg iI (by unfold opn; split <;> omega)) ?_
    exact W.zret hx hb hr (z_nb (by have := opn_or σ k; omega)) (fun t ht _ => ⟨_, rfl, rfl, ht⟩) (fun q hq => absurd hq List.not_mem_nil) dX1_isOpen_14
  ·
    refine lv_iconst (v := iI 1) hx hb dX1_isOpen_9 rfl ?_
    refine lv_goto (tgt := 14) hx hb dX1_isOpen_10 (by decide) ?_
    refine z_re (v' := iI (opn σ k)) (congrArg iI (by unfold opn; split <;> omega)) ?_
    exact W.zret hx hb hr (z_nb (by have := opn_or σ k; omega)) (fun t ht _ => ⟨_, rfl, rfl, ht⟩) (fun q hq => absurd hq List.not_mem_nil) dX1_isOpen_14
set_option maxHeartbeats 4000000 in
set_option maxRecDepth 100000 in
theorem c_X1_grown (l : Launch)  (w : Int) (hw : 0 ≤ w ∧ w ≤ 99) : Met l yX1_grown wsX1_grown ({ frames := 1, cells := 0, slots := 0, locals := 24 } : Room) (va_Pc [.int (iI w)] (fun _ => True)) (vp_Si (fun r => r = iI (gro w))) 0 0 (fun _ => False) := by
  refine Met.ofW (cc := cX1_grown) (maxL := 1) (ret := (some .int)) (by decide) rfl ?_
  intro pp ee s m args below meth c s₁ B9 hml hv
  obtain ⟨rfl, -⟩ := hv
  have hx := B9.exec
  have hb := B9.bytes
  have hr := B9.returns
  have hts := atoms_spec (ws := wsX1_grown) B9.pre
  have hown : s.vm.findClass RX1 = some m.cls := findClass_of_methodNamed B9.named
  have hlocks := B9.notSynchronized
  have w_0 := hts (.methodLink RX1 55 Lib.Math.max.name) (by decide +kernel)
  have w_1 := hts (.static Lib.Math.max.name) (by decide +kernel)
  have w_2 := hts (.initialized "java/lang/Math") (by decide +kernel)
  have w_3 := hts (.code Lib.Math.max.name Lib.Math.max.code 2 (some .int)) (by decide +kernel)
  have w_4 := hts (.methodLink RX1 49 Lib.Math.min.name) (by decide +kernel)
  have w_5 := hts (.static Lib.Math.min.name) (by decide +kernel)
  have w_6 := hts (.code Lib.Math.min.name Lib.Math.min.code 2 (some .int)) (by decide +kernel)
  have hl := lv_entry ([.int (iI w)]) (n := 1) (Nat.le_of_ble_eq_true rfl)
  rw [lg_entry_eq]
  generalize (lg_sl ([.int (iI w)]) ++ List.replicate (1 - (lg_sl ([.int (iI w)])).length) Slot.unset).toArray = ls at hl ⊢
  have hl : lv_has ls 1 [(0, .int (iI w))] := hl
  refine lv_bipush (v := iI 99) hx hb dX1_grown_0 (by decide) ?_
  refine lv_iload_n hx hb dX1_grown_2 rfl (lv_at hl 0 rfl) ?_
  refine lv_iconst (v := iI 1) hx hb dX1_grown_3 rfl ?_
  refine lv_iload_n hx hb dX1_grown_4 rfl (lv_at hl 0 rfl) ?_
  refine lv_bipush (v := iI 10) hx hb dX1_grown_5 (by decide) ?_
  refine z_idiv hx hb dX1_grown_7 (by omega) (by omega) ?_
  refine z_max hx hb (by rw [hml]; exact hl.1.symm) hown w_0 w_1 w_2 w_3 (Nat.le_of_ble_eq_true rfl) (Nat.le_of_ble_eq_true rfl) (Nat.le_of_ble_eq_true rfl) (Nat.le_of_ble_eq_true rfl) (by omega) (by omega) dX1_grown_8 ?_
  refine z_iadd hx hb dX1_grown_11 ?_
  refine z_min hx hb (by rw [hml]; exact hl.1.symm) hown w_4 w_5 w_2 w_6 (Nat.le_of_ble_eq_true rfl) (Nat.le_of_ble_eq_true rfl) (Nat.le_of_ble_eq_true rfl) (Nat.le_of_ble_eq_true rfl) (by omega) (by omega) dX1_grown_12 ?_
  refine z_re (v' := iI (gro w)) (congrArg iI (by rfl)) ?_
  exact W.iret hx hb hr (fun t ht _ => ⟨_, rfl, rfl, ht⟩) (fun q hq => absurd hq List.not_mem_nil) dX1_grown_15
set_option maxHeartbeats 4000000 in
set_option maxRecDepth 100000 in
theorem c_X1_later (l : Launch) (G : zG) (x : Nat) (a : Nat → Nat) (σ : zS) (t : Nat) (k : Nat) (d : Int) (hk : k < 20) (h4 : 0 ≤ σ.2 4 k ∧ σ.2 4 k ≤ 99) (h5 : 0 ≤ σ.2 5 k ∧ σ.2 5 k ≤ 3) (h6 : 0 ≤ σ.2 6 k ∧ σ.2 6 k ≤ 500000) (h7 : 0 ≤ σ.2 7 k ∧ σ.2 7 k ≤ 100) (hd : 0 ≤ d ∧ d ≤ 60) : Met l yX1_later wsX1_later ({ frames := 2, cells := 0, slots := 0, locals := 44 } : Room) (va_Pc [.ref x, .int (iI (k : Int)), .int (iI d)] (pM G x a t σ)) (vp_Si (fun r => r = iI (lat σ k d))) 0 0 (fun _ => False) := by
  refine Met.ofW (cc := cX1_later) (maxL := 5) (ret := (some .int)) (by decide) rfl ?_
  intro pp ee s m args below meth c s₁ B9 hml hv
  obtain ⟨rfl, hP, hK⟩ := hv
  have hx := B9.exec
  have hb := B9.bytes
  have hr := B9.returns
  have hts := atoms_spec (ws := wsX1_later) B9.pre
  have hown : s.vm.findClass RX1 = some m.cls := findClass_of_methodNamed B9.named
  have hlocks := B9.notSynchronized
  have hin0 : ∀ w ∈ wsX10, w ∈ wsX1_later := by decide +kernel
  have w_0 := hts (.fieldLink RX1 32 "ApologyLedgerModel" "quiet" "[I") (by decide +kernel)
  have w_1 := hts (.fieldLink RX1 23 "ApologyLedgerModel" "weight" "[I") (by decide +kernel)
  have w_2 := hts (.fieldLink RX1 29 "ApologyLedgerModel" "borne" "[I") (by decide +kernel)
  have hl := lv_entry ([.ref x, .int (iI (k : Int)), .int (iI d)]) (n := 5) (Nat.le_of_ble_eq_true rfl)
  rw [lg_entry_eq]
  generalize (lg_sl ([.ref x, .int (iI (k : Int)), .int (iI d)]) ++ List.replicate (5 - (lg_sl ([.ref x, .int (iI (k : Int)), .int (iI d)])).length) Slot.unset).toArray = ls at hl ⊢
  have hl : lv_has ls 5 [(0, .ref x), (1, .int (iI (k : Int))), (2, .int (iI d))] := hl
  refine lv_aload_n hx hb dX1_later_0 rfl (lv_at hl 0 rfl) ?_
  refine lv_iload_n hx hb dX1_later_1 rfl (lv_at hl 1 rfl) ?_
  refine zc_i (va_runV (As := [.int (iI (k : Int))]) (rest := []) ⟨hx, hb, hml, hown, hts⟩ (c_X1_isOpen l G x a σ t k (by omega) (by omega)) (cwV 1 hts gX1_later_X1_isOpen rfl rfl rfl (by decide +kernel) ⟨Nat.le_of_ble_eq_true rfl, Nat.le_of_ble_eq_true rfl⟩) (preVM hK hP) rfl rfl hl.1 rfl (lv_room (Nat.le_of_ble_eq_true rfl)) dX1_later_2 ⟨Nat.le_of_ble_eq_true rfl, Nat.le_of_ble_eq_true rfl⟩) ?_
  have f_1 := opn_or σ k
  refine z_if_eq (tgt := 21) hx hb dX1_later_5 (by decide) (by omega) (fun c_2 => ?_) (fun c_2 => ?_)
  ·
    refine lv_iconst (v := iI 0) hx hb dX1_later_21 rfl ?_
    refine z_re (v' := iI (lat σ k d)) (congrArg iI (by rw [lat, if_neg (by omega)])) ?_
    exact W.iret hx hb hr (fun t ht _ => ⟨_, rfl, rfl, ht⟩) (fun q hq => absurd hq List.not_mem_nil) dX1_later_22
  ·
    refine lv_aload_n hx hb dX1_later_8 rfl (lv_at hl 0 rfl) ?_
    refine m_get (v := .ref (a 7)) hx hb hts hin0 hown hK hP 0 rfl 12 (by decide) w_0 rfl dX1_later_9 ?_
    refine lv_iload_n hx hb dX1_later_12 rfl (lv_at hl 1 rfl) ?_
    refine z_iald (v := iI (σ.2 7 k)) hx hb hK hP 8 0 rfl rfl (k := k) (by omega) (by decide) rfl dX1_later_13 ?_
    refine lv_iload_n hx hb dX1_later_14 rfl (lv_at hl 2 rfl) ?_
    refine z_iadd hx hb dX1_later_15 ?_
    refine lv_bipush (v := iI 30) hx hb dX1_later_16 (by decide) ?_
    refine z_icmp_lt (tgt := 23) hx hb dX1_later_18 (by decide) (by omega) (by omega) (fun c_3 => ?_) (fun c_3 => ?_)
    ·
      refine lv_aload_n hx hb dX1_later_23 rfl (lv_at hl 0 rfl) ?_
      refine m_get (v := .ref (a 4)) hx hb hts hin0 hown hK hP 0 rfl 9 (by decide) w_1 rfl dX1_later_24 ?_
      refine lv_iload_n hx hb dX1_later_27 rfl (lv_at hl 1 rfl) ?_
      refine z_iald (v := iI (σ.2 4 k)) hx hb hK hP 5 0 rfl rfl (k := k) (by omega) (by decide) rfl dX1_later_28 ?_
      refine lv_istore_n (lv' := [(3, .int (iI (σ.2 4 k))), (0, .ref x), (1, .int (iI (k : Int))), (2, .int (iI d))]) hx hb dX1_later_29 rfl hl (by decide) rfl (fun ls hl => ?_)
      refine lv_aload_n hx hb dX1_later_30 rfl (lv_at hl 1 rfl) ?_
      refine m_get (v := .ref (a 6)) hx hb hts hin0 hown hK hP 0 rfl 11 (by decide) w_2 rfl dX1_later_31 ?_
      refine lv_iload_n hx hb dX1_later_34 rfl (lv_at hl 2 rfl) ?_
      refine z_iald (v := iI (σ.2 6 k)) hx hb hK hP 7 0 rfl rfl (k := k) (by omega) (by decide) rfl dX1_later_35 ?_
      refine lv_iload_n hx hb dX1_later_36 rfl (lv_at hl 3 rfl) ?_
      refine z_iadd hx hb dX1_later_37 ?_
      refine lv_iconst (v := iI 5) hx hb dX1_later_38 rfl ?_
      refine z_idiv hx hb dX1_later_39 (by omega) (by omega) ?_
      refine lv_aload_n hx hb dX1_later_40 rfl (lv_at hl 1 rfl) ?_
      refine m_get (v := .ref (a 6)) hx hb hts hin0 hown hK hP 0 rfl 11 (by decide) w_2 rfl dX1_later_41 ?_
      refine lv_iload_n hx hb dX1_later_44 rfl (lv_at hl 2 rfl) ?_
      refine z_iald (v := iI (σ.2 6 k)) hx hb hK hP 7 0 rfl rfl (k := k) (by omega) (by decide) rfl dX1_later_45 ?_
      refine lv_iconst (v := iI 5) hx hb dX1_later_46 rfl ?_
      refine z_idiv hx hb dX1_later_47 (by omega) (by omega) ?_
      refine z_isub hx hb dX1_later_48 ?_
      refine lv_istore (lv' := [(4, .int (iI ((((σ.2 6 k) + d) / 5) - ((σ.2 6 k) / 5)))), (3, .int (iI (σ.2 4 k))), (0, .ref x), (1, .int (iI (k : Int))), (2, .int (iI d))]) hx hb dX1_later_49 hl (by decide) rfl (fun ls hl => ?_)
      have LP51 : ∀ (r51 : Nat) (j : Nat) (s1 : Int) (s2 : Int), j ≤ ((σ.2 6 k + d) / 5 - σ.2 6 k / 5).toNat → ((σ.2 6 k + d) / 5 - σ.2 6 k / 5).toNat - j < r51 → s1 = itg j (σ.2 4 k) → s2 = ((σ.2 6 k + d) / 5 - σ.2 6 k / 5) - (j : Int) → ∀ (ls : Array Slot), lv_has ls 5 [(4, .int (iI s2)), (3, .int (iI s1)), (0, .ref x), (1, .int (iI (k : Int))), (2, .int (iI d))] → W pp l ee (headSpec wsX1_later ({ frames := 2, cells := 0, slots := 0, locals := 44 } : Room)).room s m ([.ref x, .int (iI (k : Int)), .int (iI d)] : List Value).toArray below meth c s.heap [] 0 0 (MQ below (vp_Si (fun r => r = iI (lat σ k d))) ([.ref x, .int (iI (k : Int)), .int (iI d)] : List Value).toArray s 0 0 (fun _ => False)) (F0 m 51 ls []) := by
        intro r51
        induction r51 with
        | zero => intro j s1 s2 hv51_0 hv51_1; exfalso; omega
        | succ r51 ih51 =>
          intro j s1 s2 hv51_0 hv51_1 hv51_2 hv51_3 ls hl
          have f_4 := itg_bd j h4
          refine lv_iload hx hb dX1_later_51 (lv_at hl 0 rfl) ?_
          refine z_if_le (tgt := 67) hx hb dX1_later_53 (by decide) (by omega) (fun c_5 => ?_) (fun c_5 => ?_)
          ·
            refine lv_iload_n hx hb dX1_later_67 rfl (lv_at hl 1 rfl) ?_
            refine z_re (v' := iI (lat σ k d)) (congrArg iI (by rw [lat, if_pos (by omega), hv51_2, show j = ((σ.2 6 k + d) / 5 - σ.2 6 k / 5).toNat from by omega])) ?_
            exact W.iret hx hb hr (fun t ht _ => ⟨_, rfl, rfl, ht⟩) (fun q hq => absurd hq List.not_mem_nil) dX1_later_68
          ·
            refine lv_iload_n hx hb dX1_later_56 rfl (lv_at hl 1 rfl) ?_
            refine zc_i (va_runS (As := [.int (iI s1)]) (rest := []) ⟨hx, hb, hml, hown, hts⟩ (c_X1_grown l  s1 (by omega)) (va_cwS 1 hts gX1_later_X1_grown rfl rfl rfl (by decide +kernel) ⟨Nat.le_of_ble_eq_true rfl, Nat.le_of_ble_eq_true rfl⟩) preS0 rfl rfl hl.1 rfl (lv_room (Nat.le_of_ble_eq_true rfl)) dX1_later_57 ⟨Nat.le_of_ble_eq_true rfl, Nat.le_of_ble_eq_true rfl⟩) ?_
            refine lv_istore_n (lv' := [(3, .int (iI (gro s1))), (4, .int (iI s2)), (0, .ref x), (1, .int (iI (k : Int))), (2, .int (iI d))]) hx hb dX1_later_60 rfl hl (by decide) rfl (fun ls hl => ?_)
            refine lv_iinc (v := iI (s2 + (-1))) (lv' := [(4, .int (iI (s2 + (-1)))), (3, .int (iI (gro s1))), (0, .ref x), (1, .int (iI (k : Int))), (2, .int (iI d))]) hx hb dX1_later_61 hl (k := 1) rfl (iI_add _ _) (by decide) rfl (fun ls hl => ?_)
            refine lv_goto (tgt := 51) hx hb dX1_later_64 (by decide) ?_
            exact ih51 (j + 1) (gro s1) (s2 + (-1)) (by omega) (by omega) (by rw [hv51_2]; rfl) (by omega) ls (lv_sub hl [0, 1, 2, 3, 4] rfl)
      exact LP51 (((σ.2 6 k + d) / 5 - σ.2 6 k / 5).toNat - (0) + 1) 0 (σ.2 4 k) ((σ.2 6 k + d) / 5 - σ.2 6 k / 5) (by omega) (by omega) (by rfl) (by omega) ls (lv_sub hl [0, 1, 2, 3, 4] rfl)
    ·
      refine lv_iconst (v := iI 0) hx hb dX1_later_21 rfl ?_
      refine z_re (v' := iI (lat σ k d)) (congrArg iI (by rw [lat, if_neg (by omega)])) ?_
      exact W.iret hx hb hr (fun t ht _ => ⟨_, rfl, rfl, ht⟩) (fun q hq => absurd hq List.not_mem_nil) dX1_later_22
set_option maxHeartbeats 4000000 in
set_option maxRecDepth 100000 in
theorem c_X1_witnesses (l : Launch) (G : zG) (x : Nat) (a : Nat → Nat) (B : Nat) (σ : zS) (t : Nat) (k : Nat) (hI : zI B σ) (hk : k < σ.1 1) : Met l yX1_witnesses wsX1_witnesses ({ frames := 0, cells := 0, slots := 0, locals := 0 } : Room) (va_Pc [.ref x, .int (iI (k : Int))] (pM G x a t σ)) (vp_Si (fun r => r = iI (wit σ k))) 0 0 (fun _ => False) := by
  refine Met.ofW (cc := cX1_witnesses) (maxL := 4) (ret := (some .int)) (by decide) rfl ?_
  intro pp ee s m args below meth c s₁ B9 hml hv
  obtain ⟨rfl, hP, hK⟩ := hv
  have hx := B9.exec
  have hb := B9.bytes
  have hr := B9.returns
  have hts := atoms_spec (ws := wsX1_witnesses) B9.pre
  have hown : s.vm.findClass RX1 = some m.cls := findClass_of_methodNamed B9.named
  have hlocks := B9.notSynchronized
  have hin0 : ∀ w ∈ wsX10, w ∈ wsX1_witnesses := by decide +kernel
  have w_0 := hts (.fieldLink RX1 39 "ApologyLedgerModel" "persons" "I") (by decide +kernel)
  have w_1 := hts (.fieldLink RX1 13 "ApologyLedgerModel" "isHere" "[Z") (by decide +kernel)
  have w_2 := hts (.fieldLink RX1 17 "ApologyLedgerModel" "by" "[I") (by decide +kernel)
  have w_3 := hts (.fieldLink RX1 20 "ApologyLedgerModel" "against" "[I") (by decide +kernel)
  have hl := lv_entry ([.ref x, .int (iI (k : Int))]) (n := 4) (Nat.le_of_ble_eq_true rfl)
  rw [lg_entry_eq]
  generalize (lg_sl ([.ref x, .int (iI (k : Int))]) ++ List.replicate (4 - (lg_sl ([.ref x, .int (iI (k : Int))])).length) Slot.unset).toArray = ls at hl ⊢
  have hl : lv_has ls 4 [(0, .ref x), (1, .int (iI (k : Int)))] := hl
  have hIn := hI.n
  have hIb := hI.b
  refine lv_iconst (v := iI 0) hx hb dX1_witnesses_0 rfl ?_
  refine lv_istore_n (lv' := [(2, .int (iI 0)), (0, .ref x), (1, .int (iI (k : Int)))]) hx hb dX1_witnesses_1 rfl hl (by decide) rfl (fun ls hl => ?_)
  refine lv_iconst (v := iI 0) hx hb dX1_witnesses_2 rfl ?_
  refine lv_istore_n (lv' := [(3, .int (iI 0)), (2, .int (iI 0)), (0, .ref x), (1, .int (iI (k : Int)))]) hx hb dX1_witnesses_3 rfl hl (by decide) rfl (fun ls hl => ?_)
  have LP4 : ∀ (r4 : Nat) (j : Nat) (s1 : Int), j ≤ σ.1 0 → σ.1 0 - j < r4 → s1 = zs (fun p => if σ.2 1 p = 1 ∧ (p : Int) ≠ σ.2 2 k ∧ (p : Int) ≠ σ.2 3 k then 1 else 0) j → ∀ (ls : Array Slot), lv_has ls 4 [(3, .int (iI (j : Int))), (2, .int (iI s1)), (0, .ref x), (1, .int (iI (k : Int)))] → W pp l ee (headSpec wsX1_witnesses ({ frames := 0, cells := 0, slots := 0, locals := 0 } : Room)).room s m ([.ref x, .int (iI (k : Int))] : List Value).toArray below meth c s.heap [] 0 0 (MQ below (vp_Si (fun r => r = iI (wit σ k))) ([.ref x, .int (iI (k : Int))] : List Value).toArray s 0 0 (fun _ => False)) (F0 m 4 ls []) := by
    intro r4
    induction r4 with
    | zero => intro j s1 hv4_0 hv4_1; exfalso; omega
    | succ r4 ih4 =>
      intro j s1 hv4_0 hv4_1 hv4_2 ls hl
      refine lv_iload_n hx hb dX1_witnesses_4 rfl (lv_at hl 0 rfl) ?_
      refine lv_aload_n hx hb dX1_witnesses_5 rfl (lv_at hl 2 rfl) ?_
      refine m_get (v := .int (iI (σ.1 0 : Nat))) hx hb hts hin0 hown hK hP 0 rfl 3 (by decide) w_0 rfl dX1_witnesses_6 ?_
      refine z_icmp_ge (tgt := 55) hx hb dX1_witnesses_9 (by decide) (by omega) (by omega) (fun c_1 => ?_) (fun c_1 => ?_)
      ·
        refine lv_iload_n hx hb dX1_witnesses_55 rfl (lv_at hl 1 rfl) ?_
        refine z_re (v' := iI (wit σ k)) (congrArg iI (by rw [hv4_2, show j = σ.1 0 from by omega]; rfl)) ?_
        exact W.iret hx hb hr (fun t ht _ => ⟨_, rfl, rfl, ht⟩) (fun q hq => absurd hq List.not_mem_nil) dX1_witnesses_56
      ·
        refine lv_iload_n hx hb dX1_witnesses_12 rfl (lv_at hl 1 rfl) ?_
        refine lv_aload_n hx hb dX1_witnesses_13 rfl (lv_at hl 2 rfl) ?_
        refine m_get (v := .ref (a 1)) hx hb hts hin0 hown hK hP 0 rfl 5 (by decide) w_1 rfl dX1_witnesses_14 ?_
        refine lv_iload_n hx hb dX1_witnesses_17 rfl (lv_at hl 0 rfl) ?_
        refine z_zald (v := iI (σ.2 1 j)) hx hb hK hP 2 1 rfl rfl (k := j) (by omega) (by decide) rfl dX1_witnesses_18 ?_
        have f_2 := hI.r1 j
        refine z_if_eq (tgt := 46) hx hb dX1_witnesses_19 (by decide) (by omega) (fun c_3 => ?_) (fun c_3 => ?_)
        ·
          refine lv_iconst (v := iI 0) hx hb dX1_witnesses_46 rfl ?_
          refine z_iadd hx hb dX1_witnesses_47 ?_
          refine lv_istore_n (lv' := [(2, .int (iI (s1 + 0))), (3, .int (iI (j : Int))), (0, .ref x), (1, .int (iI (k : Int)))]) hx hb dX1_witnesses_48 rfl hl (by decide) rfl (fun ls hl => ?_)
          refine lv_iinc (v := iI ((j : Int) + 1)) (lv' := [(3, .int (iI ((j : Int) + 1))), (2, .int (iI (s1 + 0))), (0, .ref x), (1, .int (iI (k : Int)))]) hx hb dX1_witnesses_49 hl (k := 1) rfl (iI_add _ _) (by decide) rfl (fun ls hl => ?_)
          refine lv_goto (tgt := 4) hx hb dX1_witnesses_52 (by decide) ?_
          exact ih4 (j + 1) (s1 + 0) (by omega) (by omega) (by rw [zs_s, ← hv4_2]; (try dsimp only); split <;> omega) ls (lv_sub hl [0, 1, 2, 3] rfl)
        ·
          refine lv_iload_n hx hb dX1_witnesses_22 rfl (lv_at hl 0 rfl) ?_
          refine lv_aload_n hx hb dX1_witnesses_23 rfl (lv_at hl 2 rfl) ?_
          refine m_get (v := .ref (a 2)) hx hb hts hin0 hown hK hP 0 rfl 7 (by decide) w_2 rfl dX1_witnesses_24 ?_
          refine lv_iload_n hx hb dX1_witnesses_27 rfl (lv_at hl 3 rfl) ?_
          refine z_iald (v := iI (σ.2 2 k)) hx hb hK hP 3 0 rfl rfl (k := k) (by omega) (by decide) rfl dX1_witnesses_28 ?_
          have f_4 := hI.r2 (k := k) (by omega)
          refine z_icmp_eq (tgt := 46) hx hb dX1_witnesses_29 (by decide) (by omega) (by omega) (fun c_5 => ?_) (fun c_5 => ?_)
          ·
            refine lv_iconst (v := iI 0) hx hb dX1_witnesses_46 rfl ?_
            refine z_iadd hx hb dX1_witnesses_47 ?_
            refine lv_istore_n (lv' := [(2, .int (iI (s1 + 0))), (3, .int (iI (j : Int))), (0, .ref x), (1, .int (iI (k : Int)))]) hx hb dX1_witnesses_48 rfl hl (by decide) rfl (fun ls hl => ?_)
            refine lv_iinc (v := iI ((j : Int) + 1)) (lv' := [(3, .int (iI ((j : Int) + 1))), (2, .int (iI (s1 + 0))), (0, .ref x), (1, .int (iI (k : Int)))]) hx hb dX1_witnesses_49 hl (k := 1) rfl (iI_add _ _) (by decide) rfl (fun ls hl => ?_)
            refine lv_goto (tgt := 4) hx hb dX1_witnesses_52 (by decide) ?_
            exact ih4 (j + 1) (s1 + 0) (by omega) (by omega) (by rw [zs_s, ← hv4_2]; (try dsimp only); split <;> omega) ls (lv_sub hl [0, 1, 2, 3] rfl)
          ·
            refine lv_iload_n hx hb dX1_witnesses_32 rfl (lv_at hl 0 rfl) ?_
            refine lv_aload_n hx hb dX1_witnesses_33 rfl (lv_at hl 2 rfl) ?_
            refine m_get (v := .ref (a 3)) hx hb hts hin0 hown hK hP 0 rfl 8 (by decide) w_3 rfl dX1_witnesses_34 ?_
            refine lv_iload_n hx hb dX1_witnesses_37 rfl (lv_at hl 3 rfl) ?_
            refine z_iald (v := iI (σ.2 3 k)) hx hb hK hP 4 0 rfl rfl (k := k) (by omega) (by decide) rfl dX1_witnesses_38 ?_
            have f_6 := hI.r3 (k := k) (by omega)
            refine z_icmp_eq (tgt := 46) hx hb dX1_witnesses_39 (by decide) (by omega) (by omega) (fun c_7 => ?_) (fun c_7 => ?_)
            ·
              refine lv_iconst (v := iI 0) hx hb dX1_witnesses_46 rfl ?_
              refine z_iadd hx hb dX1_witnesses_47 ?_
              refine lv_istore_n (lv' := [(2, .int (iI (s1 + 0))), (3, .int (iI (j : Int))), (0, .ref x), (1, .int (iI (k : Int)))]) hx hb dX1_witnesses_48 rfl hl (by decide) rfl (fun ls hl => ?_)
              refine lv_iinc (v := iI ((j : Int) + 1)) (lv' := [(3, .int (iI ((j : Int) + 1))), (2, .int (iI (s1 + 0))), (0, .ref x), (1, .int (iI (k : Int)))]) hx hb dX1_witnesses_49 hl (k := 1) rfl (iI_add _ _) (by decide) rfl (fun ls hl => ?_)
              refine lv_goto (tgt := 4) hx hb dX1_witnesses_52 (by decide) ?_
              exact ih4 (j + 1) (s1 + 0) (by omega) (by omega) (by rw [zs_s, ← hv4_2]; (try dsimp only); split <;> omega) ls (lv_sub hl [0, 1, 2, 3] rfl)
            ·
              refine lv_iconst (v := iI 1) hx hb dX1_witnesses_42 rfl ?_
              refine lv_goto (tgt := 47) hx hb dX1_witnesses_43 (by decide) ?_
              refine z_iadd hx hb dX1_witnesses_47 ?_
              refine lv_istore_n (lv' := [(2, .int (iI (s1 + 1))), (3, .int (iI (j : Int))), (0, .ref x), (1, .int (iI (k : Int)))]) hx hb dX1_witnesses_48 rfl hl (by decide) rfl (fun ls hl => ?_)
              refine lv_iinc (v := iI ((j : Int) + 1)) (lv' := [(3, .int (iI ((j : Int) + 1))), (2, .int (iI (s1 + 1))), (0, .ref x), (1, .int (iI (k : Int)))]) hx hb dX1_witnesses_49 hl (k := 1) rfl (iI_add _ _) (by decide) rfl (fun ls hl => ?_)
              refine lv_goto (tgt := 4) hx hb dX1_witnesses_52 (by decide) ?_
              exact ih4 (j + 1) (s1 + 1) (by omega) (by omega) (by rw [zs_s, ← hv4_2]; (try dsimp only); split <;> omega) ls (lv_sub hl [0, 1, 2, 3] rfl)
  exact LP4 (σ.1 0 - (0) + 1) 0 0 (by omega) (by omega) (by rfl) ls (lv_sub hl [0, 1, 2, 3] rfl)
set_option maxHeartbeats 4000000 in
set_option maxRecDepth 100000 in
theorem c_X1_isScorned (l : Launch) (G : zG) (x : Nat) (a : Nat → Nat) (B : Nat) (σ : zS) (t : Nat) (k : Nat) (w : Int) (hI : zI B σ) (hk : k < σ.1 1) (hw : 1 ≤ w ∧ w ≤ 20) : Met l yX1_isScorned wsX1_isScorned ({ frames := 1, cells := 0, slots := 0, locals := 23 } : Room) (va_Pc [.ref x, .int (iI (k : Int)), .int (iI w)] (pM G x a t σ)) (vp_Si (fun r => r = iI (scn σ k w))) 0 0 (fun _ => False) := by
  refine Met.ofW (cc := cX1_isScorned) (maxL := 4) (ret := (some .boolean)) (by decide) rfl ?_
  intro pp ee s m args below meth c s₁ B9 hml hv
  obtain ⟨rfl, hP, hK⟩ := hv
  have hx := B9.exec
  have hb := B9.bytes
  have hr := B9.returns
  have hts := atoms_spec (ws := wsX1_isScorned) B9.pre
  have hown : s.vm.findClass RX1 = some m.cls := findClass_of_methodNamed B9.named
  have hlocks := B9.notSynchronized
  have hin0 : ∀ w ∈ wsX10, w ∈ wsX1_isScorned := by decide +kernel
  have w_0 := hts (.fieldLink RX1 9 "ApologyLedgerModel" "pride" "[I") (by decide +kernel)
  have w_1 := hts (.fieldLink RX1 20 "ApologyLedgerModel" "against" "[I") (by decide +kernel)
  have w_2 := hts (.fieldLink RX1 23 "ApologyLedgerModel" "weight" "[I") (by decide +kernel)
  have hl := lv_entry ([.ref x, .int (iI (k : Int)), .int (iI w)]) (n := 4) (Nat.le_of_ble_eq_true rfl)
  rw [lg_entry_eq]
  generalize (lg_sl ([.ref x, .int (iI (k : Int)), .int (iI w)]) ++ List.replicate (4 - (lg_sl ([.ref x, .int (iI (k : Int)), .int (iI w)])).length) Slot.unset).toArray = ls at hl ⊢
  have hl : lv_has ls 4 [(0, .ref x), (1, .int (iI (k : Int))), (2, .int (iI w))] := hl
  have hIn := hI.n
  have hIb := hI.b
  refine lv_iload_n hx hb dX1_isScorned_0 rfl (lv_at hl 2 rfl) ?_
  refine lv_iconst (v := iI 2) hx hb dX1_isScorned_1 rfl ?_
  refine lv_aload_n hx hb dX1_isScorned_2 rfl (lv_at hl 0 rfl) ?_
  refine lv_iload_n hx hb dX1_isScorned_3 rfl (lv_at hl 1 rfl) ?_
  refine zc_i (va_runV (As := [.int (iI (k : Int))]) (rest := [.int (iI 2), .int (iI w)]) ⟨hx, hb, hml, hown, hts⟩ (c_X1_witnesses l G x a B σ t k hI (by omega)) (cwV 1 hts gX1_isScorned_X1_witnesses rfl rfl rfl (by decide +kernel) ⟨Nat.le_of_ble_eq_true rfl, Nat.le_of_ble_eq_true rfl⟩) (preVM hK hP) rfl rfl hl.1 rfl (lv_room (Nat.le_of_ble_eq_true rfl)) dX1_isScorned_4 ⟨Nat.le_of_ble_eq_true rfl, Nat.le_of_ble_eq_true rfl⟩) ?_
  have f_1 := wit_bd hI k
  refine z_imul hx hb dX1_isScorned_7 ?_
  refine z_iadd hx hb dX1_isScorned_8 ?_
  refine lv_istore_n (lv' := [(3, .int (iI (w + (2 * (wit σ k))))), (0, .ref x), (1, .int (iI (k : Int))), (2, .int (iI w))]) hx hb dX1_isScorned_9 rfl hl (by decide) rfl (fun ls hl => ?_)
  refine lv_iload_n hx hb dX1_isScorned_10 rfl (lv_at hl 0 rfl) ?_
  refine lv_aload_n hx hb dX1_isScorned_11 rfl (lv_at hl 1 rfl) ?_
  refine m_get (v := .ref (a 0)) hx hb hts hin0 hown hK hP 0 rfl 4 (by decide) w_0 rfl dX1_isScorned_12 ?_
  refine lv_aload_n hx hb dX1_isScorned_15 rfl (lv_at hl 1 rfl) ?_
  refine m_get (v := .ref (a 3)) hx hb hts hin0 hown hK hP 0 rfl 8 (by decide) w_1 rfl dX1_isScorned_16 ?_
  refine lv_iload_n hx hb dX1_isScorned_19 rfl (lv_at hl 2 rfl) ?_
  refine z_iald (v := iI (σ.2 3 k)) hx hb hK hP 4 0 rfl rfl (k := k) (by omega) (by decide) rfl dX1_isScorned_20 ?_
  have f_2 := hI.r3 (k := k) (by omega)
  refine z_re (v' := iI (((σ.2 3 k).toNat : Nat) : Int)) (congrArg iI (by omega)) ?_
  refine z_iald (v := iI (σ.2 0 ((σ.2 3 k).toNat))) hx hb hK hP 1 0 rfl rfl (k := (σ.2 3 k).toNat) (by omega) (by decide) rfl dX1_isScorned_21 ?_
  have f_3 := hI.r0 ((σ.2 3 k).toNat)
  refine z_icmp_lt (tgt := 37) hx hb dX1_isScorned_22 (by decide) (by omega) (by omega) (fun c_4 => ?_) (fun c_4 => ?_)
  ·
    refine lv_iconst (v := iI 1) hx hb dX1_isScorned_37 rfl ?_
    refine lv_goto (tgt := 42) hx hb dX1_isScorned_38 (by decide) ?_
    refine z_re (v' := iI (scn σ k w)) (congrArg iI (by unfold scn lea; split <;> omega)) ?_
    exact W.zret hx hb hr (z_nb (by have := scn_or σ k w; omega)) (fun t ht _ => ⟨_, rfl, rfl, ht⟩) (fun q hq => absurd hq List.not_mem_nil) dX1_isScorned_42
  ·
    refine lv_iload_n hx hb dX1_isScorned_25 rfl (lv_at hl 0 rfl) ?_
    refine lv_aload_n hx hb dX1_isScorned_26 rfl (lv_at hl 1 rfl) ?_
    refine m_get (v := .ref (a 4)) hx hb hts hin0 hown hK hP 0 rfl 9 (by decide) w_2 rfl dX1_isScorned_27 ?_
    refine lv_iload_n hx hb dX1_isScorned_30 rfl (lv_at hl 2 rfl) ?_
    refine z_iald (v := iI (σ.2 4 k)) hx hb hK hP 5 0 rfl rfl (k := k) (by omega) (by decide) rfl dX1_isScorned_31 ?_
    have f_5 := hI.r4 k
    refine lv_iconst (v := iI 4) hx hb dX1_isScorned_32 rfl ?_
    refine z_idiv hx hb dX1_isScorned_33 (by omega) (by omega) ?_
    refine z_icmp_ge (tgt := 41) hx hb dX1_isScorned_34 (by decide) (by omega) (by omega) (fun c_6 => ?_) (fun c_6 => ?_)
    ·
      refine lv_iconst (v := iI 0) hx hb dX1_isScorned_41 rfl ?_
      refine z_re (v' := iI (scn σ k w)) (congrArg iI (by unfold scn lea; split <;> omega)) ?_
      exact W.zret hx hb hr (z_nb (by have := scn_or σ k w; omega)) (fun t ht _ => ⟨_, rfl, rfl, ht⟩) (fun q hq => absurd hq List.not_mem_nil) dX1_isScorned_42
    ·
      refine lv_iconst (v := iI 1) hx hb dX1_isScorned_37 rfl ?_
      refine lv_goto (tgt := 42) hx hb dX1_isScorned_38 (by decide) ?_
      refine z_re (v' := iI (scn σ k w)) (congrArg iI (by unfold scn lea; split <;> omega)) ?_
      exact W.zret hx hb hr (z_nb (by have := scn_or σ k w; omega)) (fun t ht _ => ⟨_, rfl, rfl, ht⟩) (fun q hq => absurd hq List.not_mem_nil) dX1_isScorned_42
set_option maxHeartbeats 4000000 in
set_option maxRecDepth 100000 in
theorem c_X1_areOpposite (l : Launch) (G : zG) (x : Nat) (a : Nat → Nat) (B : Nat) (σ : zS) (t : Nat) (i : Nat) (o : Nat) (hI : zI B σ) (hi : i < σ.1 1) (ho : o < σ.1 1) : Met l yX1_areOpposite wsX1_areOpposite ({ frames := 1, cells := 0, slots := 0, locals := 21 } : Room) (va_Pc [.ref x, .int (iI (i : Int)), .int (iI (o : Int))] (pM G x a t σ)) (vp_Si (fun r => r = iI (pq σ i o))) 0 0 (fun _ => False) := by
  refine Met.ofW (cc := cX1_areOpposite) (maxL := 3) (ret := (some .boolean)) (by decide) rfl ?_
  intro pp ee s m args below meth c s₁ B9 hml hv
  obtain ⟨rfl, hP, hK⟩ := hv
  have hx := B9.exec
  have hb := B9.bytes
  have hr := B9.returns
  have hts := atoms_spec (ws := wsX1_areOpposite) B9.pre
  have hown : s.vm.findClass RX1 = some m.cls := findClass_of_methodNamed B9.named
  have hlocks := B9.notSynchronized
  have hin0 : ∀ w ∈ wsX10, w ∈ wsX1_areOpposite := by decide +kernel
  have w_0 := hts (.fieldLink RX1 17 "ApologyLedgerModel" "by" "[I") (by decide +kernel)
  have w_1 := hts (.fieldLink RX1 20 "ApologyLedgerModel" "against" "[I") (by decide +kernel)
  have hl := lv_entry ([.ref x, .int (iI (i : Int)), .int (iI (o : Int))]) (n := 3) (Nat.le_of_ble_eq_true rfl)
  rw [lg_entry_eq]
  generalize (lg_sl ([.ref x, .int (iI (i : Int)), .int (iI (o : Int))]) ++ List.replicate (3 - (lg_sl ([.ref x, .int (iI (i : Int)), .int (iI (o : Int))])).length) Slot.unset).toArray = ls at hl ⊢
  have hl : lv_has ls 3 [(0, .ref x), (1, .int (iI (i : Int))), (2, .int (iI (o : Int)))] := hl
  have hIn := hI.n
  have hIb := hI.b
  have g5 := hI.r5 i
  have g6 := hI.r5 o
  refine lv_aload_n hx hb dX1_areOpposite_0 rfl (lv_at hl 0 rfl) ?_
  refine lv_iload_n hx hb dX1_areOpposite_1 rfl (lv_at hl 1 rfl) ?_
  refine zc_i (va_runV (As := [.int (iI (i : Int))]) (rest := []) ⟨hx, hb, hml, hown, hts⟩ (c_X1_isOpen l G x a σ t i (by omega) (by omega)) (cwV 1 hts gX1_areOpposite_X1_isOpen rfl rfl rfl (by decide +kernel) ⟨Nat.le_of_ble_eq_true rfl, Nat.le_of_ble_eq_true rfl⟩) (preVM hK hP) rfl rfl hl.1 rfl (lv_room (Nat.le_of_ble_eq_true rfl)) dX1_areOpposite_2 ⟨Nat.le_of_ble_eq_true rfl, Nat.le_of_ble_eq_true rfl⟩) ?_
  have f_1 := opn_or σ i
  refine z_if_eq (tgt := 50) hx hb dX1_areOpposite_5 (by decide) (by omega) (fun c_2 => ?_) (fun c_2 => ?_)
  ·
    refine lv_iconst (v := iI 0) hx hb dX1_areOpposite_50 rfl ?_
    refine z_re (v' := iI (pq σ i o)) (congrArg iI (by unfold pq; split <;> omega)) ?_
    exact W.zret hx hb hr (z_nb (by have := pq_or σ i o; omega)) (fun t ht _ => ⟨_, rfl, rfl, ht⟩) (fun q hq => absurd hq List.not_mem_nil) dX1_areOpposite_51
  ·
    refine lv_aload_n hx hb dX1_areOpposite_8 rfl (lv_at hl 0 rfl) ?_
    refine lv_iload_n hx hb dX1_areOpposite_9 rfl (lv_at hl 2 rfl) ?_
    refine zc_i (va_runV (As := [.int (iI (o : Int))]) (rest := []) ⟨hx, hb, hml, hown, hts⟩ (c_X1_isOpen l G x a σ t o (by omega) (by omega)) (cwV 1 hts gX1_areOpposite_X1_isOpen rfl rfl rfl (by decide +kernel) ⟨Nat.le_of_ble_eq_true rfl, Nat.le_of_ble_eq_true rfl⟩) (preVM hK hP) rfl rfl hl.1 rfl (lv_room (Nat.le_of_ble_eq_true rfl)) dX1_areOpposite_10 ⟨Nat.le_of_ble_eq_true rfl, Nat.le_of_ble_eq_true rfl⟩) ?_
    have f_3 := opn_or σ o
    refine z_if_eq (tgt := 50) hx hb dX1_areOpposite_13 (by decide) (by omega) (fun c_4 => ?_) (fun c_4 => ?_)
    ·
      refine lv_iconst (v := iI 0) hx hb dX1_areOpposite_50 rfl ?_
      refine z_re (v' := iI (pq σ i o)) (congrArg iI (by unfold pq; split <;> omega)) ?_
      exact W.zret hx hb hr (z_nb (by have := pq_or σ i o; omega)) (fun t ht _ => ⟨_, rfl, rfl, ht⟩) (fun q hq => absurd hq List.not_mem_nil) dX1_areOpposite_51
    ·
      refine lv_aload_n hx hb dX1_areOpposite_16 rfl (lv_at hl 0 rfl) ?_
      refine m_get (v := .ref (a 2)) hx hb hts hin0 hown hK hP 0 rfl 7 (by decide) w_0 rfl dX1_areOpposite_17 ?_
      refine lv_iload_n hx hb dX1_areOpposite_20 rfl (lv_at hl 1 rfl) ?_
      refine z_iald (v := iI (σ.2 2 i)) hx hb hK hP 3 0 rfl rfl (k := i) (by omega) (by decide) rfl dX1_areOpposite_21 ?_
      have f_5 := hI.r2 (k := i) (by omega)
      refine lv_aload_n hx hb dX1_areOpposite_22 rfl (lv_at hl 0 rfl) ?_
      refine m_get (v := .ref (a 3)) hx hb hts hin0 hown hK hP 0 rfl 8 (by decide) w_1 rfl dX1_areOpposite_23 ?_
      refine lv_iload_n hx hb dX1_areOpposite_26 rfl (lv_at hl 2 rfl) ?_
      refine z_iald (v := iI (σ.2 3 o)) hx hb hK hP 4 0 rfl rfl (k := o) (by omega) (by decide) rfl dX1_areOpposite_27 ?_
      have f_6 := hI.r3 (k := o) (by omega)
      refine z_icmp_ne (tgt := 50) hx hb dX1_areOpposite_28 (by decide) (by omega) (by omega) (fun c_7 => ?_) (fun c_7 => ?_)
      ·
        refine lv_iconst (v := iI 0) hx hb dX1_areOpposite_50 rfl ?_
        refine z_re (v' := iI (pq σ i o)) (congrArg iI (by unfold pq; split <;> omega)) ?_
        exact W.zret hx hb hr (z_nb (by have := pq_or σ i o; omega)) (fun t ht _ => ⟨_, rfl, rfl, ht⟩) (fun q hq => absurd hq List.not_mem_nil) dX1_areOpposite_51
      ·
        refine lv_aload_n hx hb dX1_areOpposite_31 rfl (lv_at hl 0 rfl) ?_
        refine m_get (v := .ref (a 2)) hx hb hts hin0 hown hK hP 0 rfl 7 (by decide) w_0 rfl dX1_areOpposite_32 ?_
        refine lv_iload_n hx hb dX1_areOpposite_35 rfl (lv_at hl 2 rfl) ?_
        refine z_iald (v := iI (σ.2 2 o)) hx hb hK hP 3 0 rfl rfl (k := o) (by omega) (by decide) rfl dX1_areOpposite_36 ?_
        have f_8 := hI.r2 (k := o) (by omega)
        refine lv_aload_n hx hb dX1_areOpposite_37 rfl (lv_at hl 0 rfl) ?_
        refine m_get (v := .ref (a 3)) hx hb hts hin0 hown hK hP 0 rfl 8 (by decide) w_1 rfl dX1_areOpposite_38 ?_
        refine lv_iload_n hx hb dX1_areOpposite_41 rfl (lv_at hl 1 rfl) ?_
        refine z_iald (v := iI (σ.2 3 i)) hx hb hK hP 4 0 rfl rfl (k := i) (by omega) (by decide) rfl dX1_areOpposite_42 ?_
        have f_9 := hI.r3 (k := i) (by omega)
        refine z_icmp_ne (tgt := 50) hx hb dX1_areOpposite_43 (by decide) (by omega) (by omega) (fun c_10 => ?_) (fun c_10 => ?_)
        ·
          refine lv_iconst (v := iI 0) hx hb dX1_areOpposite_50 rfl ?_
          refine z_re (v' := iI (pq σ i o)) (congrArg iI (by unfold pq; split <;> omega)) ?_
          exact W.zret hx hb hr (z_nb (by have := pq_or σ i o; omega)) (fun t ht _ => ⟨_, rfl, rfl, ht⟩) (fun q hq => absurd hq List.not_mem_nil) dX1_areOpposite_51
        ·
          refine lv_iconst (v := iI 1) hx hb dX1_areOpposite_46 rfl ?_
          refine lv_goto (tgt := 51) hx hb dX1_areOpposite_47 (by decide) ?_
          refine z_re (v' := iI (pq σ i o)) (congrArg iI (by unfold pq; split <;> omega)) ?_
          exact W.zret hx hb hr (z_nb (by have := pq_or σ i o; omega)) (fun t ht _ => ⟨_, rfl, rfl, ht⟩) (fun q hq => absurd hq List.not_mem_nil) dX1_areOpposite_51
set_option maxHeartbeats 4000000 in
set_option maxRecDepth 100000 in
theorem c_X1_here (l : Launch) (G : zG) (x : Nat) (a : Nat → Nat) (B : Nat) (σ : zS) (t : Nat) (hI : zI B σ) : Met l yX1_here wsX1_here ({ frames := 0, cells := 0, slots := 0, locals := 0 } : Room) (va_Pc [.ref x] (pM G x a t σ)) (vp_Si (fun r => r = iI (inh σ))) 0 0 (fun _ => False) := by
  refine Met.ofW (cc := cX1_here) (maxL := 3) (ret := (some .int)) (by decide) rfl ?_
  intro pp ee s m args below meth c s₁ B9 hml hv
  obtain ⟨rfl, hP, hK⟩ := hv
  have hx := B9.exec
  have hb := B9.bytes
  have hr := B9.returns
  have hts := atoms_spec (ws := wsX1_here) B9.pre
  have hown : s.vm.findClass RX1 = some m.cls := findClass_of_methodNamed B9.named
  have hlocks := B9.notSynchronized
  have hin0 : ∀ w ∈ wsX10, w ∈ wsX1_here := by decide +kernel
  have w_0 := hts (.fieldLink RX1 39 "ApologyLedgerModel" "persons" "I") (by decide +kernel)
  have w_1 := hts (.fieldLink RX1 13 "ApologyLedgerModel" "isHere" "[Z") (by decide +kernel)
  have hl := lv_entry ([.ref x]) (n := 3) (Nat.le_of_ble_eq_true rfl)
  rw [lg_entry_eq]
  generalize (lg_sl ([.ref x]) ++ List.replicate (3 - (lg_sl ([.ref x])).length) Slot.unset).toArray = ls at hl ⊢
  have hl : lv_has ls 3 [(0, .ref x)] := hl
  have hIn := hI.n
  have hIb := hI.b
  refine lv_iconst (v := iI 0) hx hb dX1_here_0 rfl ?_
  refine lv_istore_n (lv' := [(1, .int (iI 0)), (0, .ref x)]) hx hb dX1_here_1 rfl hl (by decide) rfl (fun ls hl => ?_)
  refine lv_iconst (v := iI 0) hx hb dX1_here_2 rfl ?_
  refine lv_istore_n (lv' := [(2, .int (iI 0)), (1, .int (iI 0)), (0, .ref x)]) hx hb dX1_here_3 rfl hl (by decide) rfl (fun ls hl => ?_)
  have LP4 : ∀ (r4 : Nat) (j : Nat) (s1 : Int), j ≤ σ.1 0 → σ.1 0 - j < r4 → s1 = zs (fun p => if σ.2 1 p = 1 then 1 else 0) j → ∀ (ls : Array Slot), lv_has ls 3 [(2, .int (iI (j : Int))), (1, .int (iI s1)), (0, .ref x)] → W pp l ee (headSpec wsX1_here ({ frames := 0, cells := 0, slots := 0, locals := 0 } : Room)).room s m ([.ref x] : List Value).toArray below meth c s.heap [] 0 0 (MQ below (vp_Si (fun r => r = iI (inh σ))) ([.ref x] : List Value).toArray s 0 0 (fun _ => False)) (F0 m 4 ls []) := by
    intro r4
    induction r4 with
    | zero => intro j s1 hv4_0 hv4_1; exfalso; omega
    | succ r4 ih4 =>
      intro j s1 hv4_0 hv4_1 hv4_2 ls hl
      refine lv_iload_n hx hb dX1_here_4 rfl (lv_at hl 0 rfl) ?_
      refine lv_aload_n hx hb dX1_here_5 rfl (lv_at hl 2 rfl) ?_
      refine m_get (v := .int (iI (σ.1 0 : Nat))) hx hb hts hin0 hown hK hP 0 rfl 3 (by decide) w_0 rfl dX1_here_6 ?_
      refine z_icmp_ge (tgt := 35) hx hb dX1_here_9 (by decide) (by omega) (by omega) (fun c_1 => ?_) (fun c_1 => ?_)
      ·
        refine lv_iload_n hx hb dX1_here_35 rfl (lv_at hl 1 rfl) ?_
        refine z_re (v' := iI (inh σ)) (congrArg iI (by rw [hv4_2, show j = σ.1 0 from by omega]; rfl)) ?_
        exact W.iret hx hb hr (fun t ht _ => ⟨_, rfl, rfl, ht⟩) (fun q hq => absurd hq List.not_mem_nil) dX1_here_36
      ·
        refine lv_iload_n hx hb dX1_here_12 rfl (lv_at hl 1 rfl) ?_
        refine lv_aload_n hx hb dX1_here_13 rfl (lv_at hl 2 rfl) ?_
        refine m_get (v := .ref (a 1)) hx hb hts hin0 hown hK hP 0 rfl 5 (by decide) w_1 rfl dX1_here_14 ?_
        refine lv_iload_n hx hb dX1_here_17 rfl (lv_at hl 0 rfl) ?_
        refine z_zald (v := iI (σ.2 1 j)) hx hb hK hP 2 1 rfl rfl (k := j) (by omega) (by decide) rfl dX1_here_18 ?_
        have f_2 := hI.r1 j
        refine z_if_eq (tgt := 26) hx hb dX1_here_19 (by decide) (by omega) (fun c_3 => ?_) (fun c_3 => ?_)
        ·
          refine lv_iconst (v := iI 0) hx hb dX1_here_26 rfl ?_
          refine z_iadd hx hb dX1_here_27 ?_
          refine lv_istore_n (lv' := [(1, .int (iI (s1 + 0))), (2, .int (iI (j : Int))), (0, .ref x)]) hx hb dX1_here_28 rfl hl (by decide) rfl (fun ls hl => ?_)
          refine lv_iinc (v := iI ((j : Int) + 1)) (lv' := [(2, .int (iI ((j : Int) + 1))), (1, .int (iI (s1 + 0))), (0, .ref x)]) hx hb dX1_here_29 hl (k := 1) rfl (iI_add _ _) (by decide) rfl (fun ls hl => ?_)
          refine lv_goto (tgt := 4) hx hb dX1_here_32 (by decide) ?_
          exact ih4 (j + 1) (s1 + 0) (by omega) (by omega) (by rw [zs_s, ← hv4_2]; (try dsimp only); split <;> omega) ls (lv_sub hl [0, 1, 2] rfl)
        ·
          refine lv_iconst (v := iI 1) hx hb dX1_here_22 rfl ?_
          refine lv_goto (tgt := 27) hx hb dX1_here_23 (by decide) ?_
          refine z_iadd hx hb dX1_here_27 ?_
          refine lv_istore_n (lv' := [(1, .int (iI (s1 + 1))), (2, .int (iI (j : Int))), (0, .ref x)]) hx hb dX1_here_28 rfl hl (by decide) rfl (fun ls hl => ?_)
          refine lv_iinc (v := iI ((j : Int) + 1)) (lv' := [(2, .int (iI ((j : Int) + 1))), (1, .int (iI (s1 + 1))), (0, .ref x)]) hx hb dX1_here_29 hl (k := 1) rfl (iI_add _ _) (by decide) rfl (fun ls hl => ?_)
          refine lv_goto (tgt := 4) hx hb dX1_here_32 (by decide) ?_
          exact ih4 (j + 1) (s1 + 1) (by omega) (by omega) (by rw [zs_s, ← hv4_2]; (try dsimp only); split <;> omega) ls (lv_sub hl [0, 1, 2] rfl)
  exact LP4 (σ.1 0 - (0) + 1) 0 0 (by omega) (by omega) (by rfl) ls (lv_sub hl [0, 1, 2] rfl)
set_option maxHeartbeats 4000000 in
set_option maxRecDepth 100000 in
theorem c_done_b (l : Launch) (G : zG) (x : Nat) (a : Nat → Nat) (B : Nat) (σ : zS) (t : Nat) (p : Int) (hI : zI B σ) (hp : 0 ≤ p ∧ p ≤ 1000) : Met l yX1_done wsX1_done ({ frames := 0, cells := 0, slots := 0, locals := 0 } : Room) (va_Pc [.ref x, .int (iI (-1)), .int (iI p)] (pM G x a t σ)) (vp_Si (fun r => r = iI (bor σ p))) 0 0 (fun _ => False) := by
  refine Met.ofW (cc := cX1_done) (maxL := 5) (ret := (some .int)) (by decide) rfl ?_
  intro pp ee s m args below meth c s₁ B9 hml hv
  obtain ⟨rfl, hP, hK⟩ := hv
  have hx := B9.exec
  have hb := B9.bytes
  have hr := B9.returns
  have hts := atoms_spec (ws := wsX1_done) B9.pre
  have hown : s.vm.findClass RX1 = some m.cls := findClass_of_methodNamed B9.named
  have hlocks := B9.notSynchronized
  have hin0 : ∀ w ∈ wsX10, w ∈ wsX1_done := by decide +kernel
  have w_0 := hts (.fieldLink RX1 46 "ApologyLedgerModel" "slights" "I") (by decide +kernel)
  have w_1 := hts (.fieldLink RX1 23 "ApologyLedgerModel" "weight" "[I") (by decide +kernel)
  have w_2 := hts (.fieldLink RX1 20 "ApologyLedgerModel" "against" "[I") (by decide +kernel)
  have hl := lv_entry ([.ref x, .int (iI (-1)), .int (iI p)]) (n := 5) (Nat.le_of_ble_eq_true rfl)
  rw [lg_entry_eq]
  generalize (lg_sl ([.ref x, .int (iI (-1)), .int (iI p)]) ++ List.replicate (5 - (lg_sl ([.ref x, .int (iI (-1)), .int (iI p)])).length) Slot.unset).toArray = ls at hl ⊢
  have hl : lv_has ls 5 [(0, .ref x), (1, .int (iI (-1))), (2, .int (iI p))] := hl
  have hIn := hI.n
  have hIb := hI.b
  refine lv_iconst (v := iI 0) hx hb dX1_done_0 rfl ?_
  refine lv_istore_n (lv' := [(3, .int (iI 0)), (0, .ref x), (1, .int (iI (-1))), (2, .int (iI p))]) hx hb dX1_done_1 rfl hl (by decide) rfl (fun ls hl => ?_)
  refine lv_iconst (v := iI 0) hx hb dX1_done_2 rfl ?_
  refine lv_istore (lv' := [(4, .int (iI 0)), (3, .int (iI 0)), (0, .ref x), (1, .int (iI (-1))), (2, .int (iI p))]) hx hb dX1_done_3 hl (by decide) rfl (fun ls hl => ?_)
  have LP5 : ∀ (r5 : Nat) (j : Nat) (s1 : Int), j ≤ σ.1 1 → σ.1 1 - j < r5 → s1 = zs (fun k => if σ.2 5 k = 0 ∧ σ.2 3 k = p then σ.2 4 k else 0) j → ∀ (ls : Array Slot), lv_has ls 5 [(4, .int (iI (j : Int))), (3, .int (iI s1)), (0, .ref x), (1, .int (iI (-1))), (2, .int (iI p))] → W pp l ee (headSpec wsX1_done ({ frames := 0, cells := 0, slots := 0, locals := 0 } : Room)).room s m ([.ref x, .int (iI (-1)), .int (iI p)] : List Value).toArray below meth c s.heap [] 0 0 (MQ below (vp_Si (fun r => r = iI (bor σ p))) ([.ref x, .int (iI (-1)), .int (iI p)] : List Value).toArray s 0 0 (fun _ => False)) (F0 m 5 ls []) := by
    intro r5
    induction r5 with
    | zero => intro j s1 hv5_0 hv5_1; exfalso; omega
    | succ r5 ih5 =>
      intro j s1 hv5_0 hv5_1 hv5_2 ls hl
      have f_1 := hI.c4o j
      refine lv_iload hx hb dX1_done_5 (lv_at hl 0 rfl) ?_
      refine lv_aload_n hx hb dX1_done_7 rfl (lv_at hl 2 rfl) ?_
      refine m_get (v := .int (iI (σ.1 1 : Nat))) hx hb hts hin0 hown hK hP 0 rfl 6 (by decide) w_0 rfl dX1_done_8 ?_
      refine z_icmp_ge (tgt := 66) hx hb dX1_done_11 (by decide) (by omega) (by omega) (fun c_2 => ?_) (fun c_2 => ?_)
      ·
        refine lv_iload_n hx hb dX1_done_66 rfl (lv_at hl 1 rfl) ?_
        refine z_re (v' := iI (bor σ p)) (congrArg iI (by rw [hv5_2, show j = σ.1 1 from by omega]; rfl)) ?_
        exact W.iret hx hb hr (fun t ht _ => ⟨_, rfl, rfl, ht⟩) (fun q hq => absurd hq List.not_mem_nil) dX1_done_67
      ·
        refine lv_iload_n hx hb dX1_done_14 rfl (lv_at hl 1 rfl) ?_
        refine lv_iload_n hx hb dX1_done_15 rfl (lv_at hl 3 rfl) ?_
        refine lv_iconst (v := iI (-1)) hx hb dX1_done_16 rfl ?_
        refine z_icmp_eq (tgt := 31) hx hb dX1_done_17 (by decide) (by omega) (by omega) (fun c_3 => ?_) (fun c_3 => ?_)
        ·
          refine lv_iload_n hx hb dX1_done_31 rfl (lv_at hl 4 rfl) ?_
          refine lv_iconst (v := iI (-1)) hx hb dX1_done_32 rfl ?_
          refine z_icmp_eq (tgt := 47) hx hb dX1_done_33 (by decide) (by omega) (by omega) (fun c_4 => ?_) (fun c_4 => ?_)
          ·
            refine lv_aload_n hx hb dX1_done_47 rfl (lv_at hl 2 rfl) ?_
            refine m_get (v := .ref (a 4)) hx hb hts hin0 hown hK hP 0 rfl 9 (by decide) w_1 rfl dX1_done_48 ?_
            refine lv_iload hx hb dX1_done_51 (lv_at hl 0 rfl) ?_
            refine z_iald (v := iI (σ.2 4 j)) hx hb hK hP 5 0 rfl rfl (k := j) (by omega) (by decide) rfl dX1_done_53 ?_
            have f_5 := hI.r4 j
            refine lv_goto (tgt := 58) hx hb dX1_done_54 (by decide) ?_
            refine z_iadd hx hb dX1_done_58 ?_
            refine lv_istore_n (lv' := [(3, .int (iI (s1 + (σ.2 4 j)))), (4, .int (iI (j : Int))), (0, .ref x), (1, .int (iI (-1))), (2, .int (iI p))]) hx hb dX1_done_59 rfl hl (by decide) rfl (fun ls hl => ?_)
            refine lv_iinc (v := iI ((j : Int) + 1)) (lv' := [(4, .int (iI ((j : Int) + 1))), (3, .int (iI (s1 + (σ.2 4 j)))), (0, .ref x), (1, .int (iI (-1))), (2, .int (iI p))]) hx hb dX1_done_60 hl (k := 1) rfl (iI_add _ _) (by decide) rfl (fun ls hl => ?_)
            refine lv_goto (tgt := 5) hx hb dX1_done_63 (by decide) ?_
            exact ih5 (j + 1) (s1 + (σ.2 4 j)) (by omega) (by omega) (by rw [zs_s, ← hv5_2]; (try dsimp only); split <;> omega) ls (lv_sub hl [0, 1, 2, 3, 4] rfl)
          ·
            refine lv_aload_n hx hb dX1_done_36 rfl (lv_at hl 2 rfl) ?_
            refine m_get (v := .ref (a 3)) hx hb hts hin0 hown hK hP 0 rfl 8 (by decide) w_2 rfl dX1_done_37 ?_
            refine lv_iload hx hb dX1_done_40 (lv_at hl 0 rfl) ?_
            refine z_iald (v := iI (σ.2 3 j)) hx hb hK hP 4 0 rfl rfl (k := j) (by omega) (by decide) rfl dX1_done_42 ?_
            have f_6 := hI.r3 (k := j) (by omega)
            refine lv_iload_n hx hb dX1_done_43 rfl (lv_at hl 4 rfl) ?_
            refine z_icmp_ne (tgt := 57) hx hb dX1_done_44 (by decide) (by omega) (by omega) (fun c_7 => ?_) (fun c_7 => ?_)
            ·
              refine lv_iconst (v := iI 0) hx hb dX1_done_57 rfl ?_
              refine z_iadd hx hb dX1_done_58 ?_
              refine lv_istore_n (lv' := [(3, .int (iI (s1 + 0))), (4, .int (iI (j : Int))), (0, .ref x), (1, .int (iI (-1))), (2, .int (iI p))]) hx hb dX1_done_59 rfl hl (by decide) rfl (fun ls hl => ?_)
              refine lv_iinc (v := iI ((j : Int) + 1)) (lv' := [(4, .int (iI ((j : Int) + 1))), (3, .int (iI (s1 + 0))), (0, .ref x), (1, .int (iI (-1))), (2, .int (iI p))]) hx hb dX1_done_60 hl (k := 1) rfl (iI_add _ _) (by decide) rfl (fun ls hl => ?_)
              refine lv_goto (tgt := 5) hx hb dX1_done_63 (by decide) ?_
              exact ih5 (j + 1) (s1 + 0) (by omega) (by omega) (by rw [zs_s, ← hv5_2]; (try dsimp only); split <;> omega) ls (lv_sub hl [0, 1, 2, 3, 4] rfl)
            ·
              refine lv_aload_n hx hb dX1_done_47 rfl (lv_at hl 2 rfl) ?_
              refine m_get (v := .ref (a 4)) hx hb hts hin0 hown hK hP 0 rfl 9 (by decide) w_1 rfl dX1_done_48 ?_
              refine lv_iload hx hb dX1_done_51 (lv_at hl 0 rfl) ?_
              refine z_iald (v := iI (σ.2 4 j)) hx hb hK hP 5 0 rfl rfl (k := j) (by omega) (by decide) rfl dX1_done_53 ?_
              have f_8 := hI.r4 j
              refine lv_goto (tgt := 58) hx hb dX1_done_54 (by decide) ?_
              refine z_iadd hx hb dX1_done_58 ?_
              refine lv_istore_n (lv' := [(3, .int (iI (s1 + (σ.2 4 j)))), (4, .int (iI (j : Int))), (0, .ref x), (1, .int (iI (-1))), (2, .int (iI p))]) hx hb dX1_done_59 rfl hl (by decide) rfl (fun ls hl => ?_)
              refine lv_iinc (v := iI ((j : Int) + 1)) (lv' := [(4, .int (iI ((j : Int) + 1))), (3, .int (iI (s1 + (σ.2 4 j)))), (0, .ref x), (1, .int (iI (-1))), (2, .int (iI p))]) hx hb dX1_done_60 hl (k := 1) rfl (iI_add _ _) (by decide) rfl (fun ls hl => ?_)
              refine lv_goto (tgt := 5) hx hb dX1_done_63 (by decide) ?_
              exact ih5 (j + 1) (s1 + (σ.2 4 j)) (by omega) (by omega) (by rw [zs_s, ← hv5_2]; (try dsimp only); split <;> omega) ls (lv_sub hl [0, 1, 2, 3, 4] rfl)
        ·
          exact absurd c_3 (by decide)
  exact LP5 (σ.1 1 - (0) + 1) 0 0 (by omega) (by omega) (by rfl) ls (lv_sub hl [0, 1, 2, 3, 4] rfl)
set_option maxHeartbeats 4000000 in
set_option maxRecDepth 100000 in
theorem c_done_o (l : Launch) (G : zG) (x : Nat) (a : Nat → Nat) (B : Nat) (σ : zS) (t : Nat) (p : Int) (hI : zI B σ) (hp : 0 ≤ p ∧ p ≤ 1000) : Met l yX1_done wsX1_done ({ frames := 0, cells := 0, slots := 0, locals := 0 } : Room) (va_Pc [.ref x, .int (iI p), .int (iI (-1))] (pM G x a t σ)) (vp_Si (fun r => r = iI (owe σ p))) 0 0 (fun _ => False) := by
  refine Met.ofW (cc := cX1_done) (maxL := 5) (ret := (some .int)) (by decide) rfl ?_
  intro pp ee s m args below meth c s₁ B9 hml hv
  obtain ⟨rfl, hP, hK⟩ := hv
  have hx := B9.exec
  have hb := B9.bytes
  have hr := B9.returns
  have hts := atoms_spec (ws := wsX1_done) B9.pre
  have hown : s.vm.findClass RX1 = some m.cls := findClass_of_methodNamed B9.named
  have hlocks := B9.notSynchronized
  have hin0 : ∀ w ∈ wsX10, w ∈ wsX1_done := by decide +kernel
  have w_0 := hts (.fieldLink RX1 46 "ApologyLedgerModel" "slights" "I") (by decide +kernel)
  have w_1 := hts (.fieldLink RX1 23 "ApologyLedgerModel" "weight" "[I") (by decide +kernel)
  have w_2 := hts (.fieldLink RX1 17 "ApologyLedgerModel" "by" "[I") (by decide +kernel)
  have hl := lv_entry ([.ref x, .int (iI p), .int (iI (-1))]) (n := 5) (Nat.le_of_ble_eq_true rfl)
  rw [lg_entry_eq]
  generalize (lg_sl ([.ref x, .int (iI p), .int (iI (-1))]) ++ List.replicate (5 - (lg_sl ([.ref x, .int (iI p), .int (iI (-1))])).length) Slot.unset).toArray = ls at hl ⊢
  have hl : lv_has ls 5 [(0, .ref x), (1, .int (iI p)), (2, .int (iI (-1)))] := hl
  have hIn := hI.n
  have hIb := hI.b
  refine lv_iconst (v := iI 0) hx hb dX1_done_0 rfl ?_
  refine lv_istore_n (lv' := [(3, .int (iI 0)), (0, .ref x), (1, .int (iI p)), (2, .int (iI (-1)))]) hx hb dX1_done_1 rfl hl (by decide) rfl (fun ls hl => ?_)
  refine lv_iconst (v := iI 0) hx hb dX1_done_2 rfl ?_
  refine lv_istore (lv' := [(4, .int (iI 0)), (3, .int (iI 0)), (0, .ref x), (1, .int (iI p)), (2, .int (iI (-1)))]) hx hb dX1_done_3 hl (by decide) rfl (fun ls hl => ?_)
  have LP5 : ∀ (r5 : Nat) (j : Nat) (s1 : Int), j ≤ σ.1 1 → σ.1 1 - j < r5 → s1 = zs (fun k => if σ.2 5 k = 0 ∧ σ.2 2 k = p then σ.2 4 k else 0) j → ∀ (ls : Array Slot), lv_has ls 5 [(4, .int (iI (j : Int))), (3, .int (iI s1)), (0, .ref x), (1, .int (iI p)), (2, .int (iI (-1)))] → W pp l ee (headSpec wsX1_done ({ frames := 0, cells := 0, slots := 0, locals := 0 } : Room)).room s m ([.ref x, .int (iI p), .int (iI (-1))] : List Value).toArray below meth c s.heap [] 0 0 (MQ below (vp_Si (fun r => r = iI (owe σ p))) ([.ref x, .int (iI p), .int (iI (-1))] : List Value).toArray s 0 0 (fun _ => False)) (F0 m 5 ls []) := by
    intro r5
    induction r5 with
    | zero => intro j s1 hv5_0 hv5_1; exfalso; omega
    | succ r5 ih5 =>
      intro j s1 hv5_0 hv5_1 hv5_2 ls hl
      have f_1 := hI.c4o j
      refine lv_iload hx hb dX1_done_5 (lv_at hl 0 rfl) ?_
      refine lv_aload_n hx hb dX1_done_7 rfl (lv_at hl 2 rfl) ?_
      refine m_get (v := .int (iI (σ.1 1 : Nat))) hx hb hts hin0 hown hK hP 0 rfl 6 (by decide) w_0 rfl dX1_done_8 ?_
      refine z_icmp_ge (tgt := 66) hx hb dX1_done_11 (by decide) (by omega) (by omega) (fun c_2 => ?_) (fun c_2 => ?_)
      ·
        refine lv_iload_n hx hb dX1_done_66 rfl (lv_at hl 1 rfl) ?_
        refine z_re (v' := iI (owe σ p)) (congrArg iI (by rw [hv5_2, show j = σ.1 1 from by omega]; rfl)) ?_
        exact W.iret hx hb hr (fun t ht _ => ⟨_, rfl, rfl, ht⟩) (fun q hq => absurd hq List.not_mem_nil) dX1_done_67
      ·
        refine lv_iload_n hx hb dX1_done_14 rfl (lv_at hl 1 rfl) ?_
        refine lv_iload_n hx hb dX1_done_15 rfl (lv_at hl 3 rfl) ?_
        refine lv_iconst (v := iI (-1)) hx hb dX1_done_16 rfl ?_
        refine z_icmp_eq (tgt := 31) hx hb dX1_done_17 (by decide) (by omega) (by omega) (fun c_3 => ?_) (fun c_3 => ?_)
        ·
          refine lv_iload_n hx hb dX1_done_31 rfl (lv_at hl 4 rfl) ?_
          refine lv_iconst (v := iI (-1)) hx hb dX1_done_32 rfl ?_
          refine z_icmp_eq (tgt := 47) hx hb dX1_done_33 (by decide) (by omega) (by omega) (fun c_4 => ?_) (fun c_4 => ?_)
          ·
            refine lv_aload_n hx hb dX1_done_47 rfl (lv_at hl 2 rfl) ?_
            refine m_get (v := .ref (a 4)) hx hb hts hin0 hown hK hP 0 rfl 9 (by decide) w_1 rfl dX1_done_48 ?_
            refine lv_iload hx hb dX1_done_51 (lv_at hl 0 rfl) ?_
            refine z_iald (v := iI (σ.2 4 j)) hx hb hK hP 5 0 rfl rfl (k := j) (by omega) (by decide) rfl dX1_done_53 ?_
            have f_5 := hI.r4 j
            refine lv_goto (tgt := 58) hx hb dX1_done_54 (by decide) ?_
            refine z_iadd hx hb dX1_done_58 ?_
            refine lv_istore_n (lv' := [(3, .int (iI (s1 + (σ.2 4 j)))), (4, .int (iI (j : Int))), (0, .ref x), (1, .int (iI p)), (2, .int (iI (-1)))]) hx hb dX1_done_59 rfl hl (by decide) rfl (fun ls hl => ?_)
            refine lv_iinc (v := iI ((j : Int) + 1)) (lv' := [(4, .int (iI ((j : Int) + 1))), (3, .int (iI (s1 + (σ.2 4 j)))), (0, .ref x), (1, .int (iI p)), (2, .int (iI (-1)))]) hx hb dX1_done_60 hl (k := 1) rfl (iI_add _ _) (by decide) rfl (fun ls hl => ?_)
            refine lv_goto (tgt := 5) hx hb dX1_done_63 (by decide) ?_
            exact ih5 (j + 1) (s1 + (σ.2 4 j)) (by omega) (by omega) (by rw [zs_s, ← hv5_2]; (try dsimp only); split <;> omega) ls (lv_sub hl [0, 1, 2, 3, 4] rfl)
          ·
            exact absurd c_4 (by decide)
        ·
          refine lv_aload_n hx hb dX1_done_20 rfl (lv_at hl 2 rfl) ?_
          refine m_get (v := .ref (a 2)) hx hb hts hin0 hown hK hP 0 rfl 7 (by decide) w_2 rfl dX1_done_21 ?_
          refine lv_iload hx hb dX1_done_24 (lv_at hl 0 rfl) ?_
          refine z_iald (v := iI (σ.2 2 j)) hx hb hK hP 3 0 rfl rfl (k := j) (by omega) (by decide) rfl dX1_done_26 ?_
          have f_6 := hI.r2 (k := j) (by omega)
          refine lv_iload_n hx hb dX1_done_27 rfl (lv_at hl 3 rfl) ?_
          refine z_icmp_ne (tgt := 57) hx hb dX1_done_28 (by decide) (by omega) (by omega) (fun c_7 => ?_) (fun c_7 => ?_)
          ·
            refine lv_iconst (v := iI 0) hx hb dX1_done_57 rfl ?_
            refine z_iadd hx hb dX1_done_58 ?_
            refine lv_istore_n (lv' := [(3, .int (iI (s1 + 0))), (4, .int (iI (j : Int))), (0, .ref x), (1, .int (iI p)), (2, .int (iI (-1)))]) hx hb dX1_done_59 rfl hl (by decide) rfl (fun ls hl => ?_)
            refine lv_iinc (v := iI ((j : Int) + 1)) (lv' := [(4, .int (iI ((j : Int) + 1))), (3, .int (iI (s1 + 0))), (0, .ref x), (1, .int (iI p)), (2, .int (iI (-1)))]) hx hb dX1_done_60 hl (k := 1) rfl (iI_add _ _) (by decide) rfl (fun ls hl => ?_)
            refine lv_goto (tgt := 5) hx hb dX1_done_63 (by decide) ?_
            exact ih5 (j + 1) (s1 + 0) (by omega) (by omega) (by rw [zs_s, ← hv5_2]; (try dsimp only); split <;> omega) ls (lv_sub hl [0, 1, 2, 3, 4] rfl)
          ·
            refine lv_iload_n hx hb dX1_done_31 rfl (lv_at hl 4 rfl) ?_
            refine lv_iconst (v := iI (-1)) hx hb dX1_done_32 rfl ?_
            refine z_icmp_eq (tgt := 47) hx hb dX1_done_33 (by decide) (by omega) (by omega) (fun c_8 => ?_) (fun c_8 => ?_)
            ·
              refine lv_aload_n hx hb dX1_done_47 rfl (lv_at hl 2 rfl) ?_
              refine m_get (v := .ref (a 4)) hx hb hts hin0 hown hK hP 0 rfl 9 (by decide) w_1 rfl dX1_done_48 ?_
              refine lv_iload hx hb dX1_done_51 (lv_at hl 0 rfl) ?_
              refine z_iald (v := iI (σ.2 4 j)) hx hb hK hP 5 0 rfl rfl (k := j) (by omega) (by decide) rfl dX1_done_53 ?_
              have f_9 := hI.r4 j
              refine lv_goto (tgt := 58) hx hb dX1_done_54 (by decide) ?_
              refine z_iadd hx hb dX1_done_58 ?_
              refine lv_istore_n (lv' := [(3, .int (iI (s1 + (σ.2 4 j)))), (4, .int (iI (j : Int))), (0, .ref x), (1, .int (iI p)), (2, .int (iI (-1)))]) hx hb dX1_done_59 rfl hl (by decide) rfl (fun ls hl => ?_)
              refine lv_iinc (v := iI ((j : Int) + 1)) (lv' := [(4, .int (iI ((j : Int) + 1))), (3, .int (iI (s1 + (σ.2 4 j)))), (0, .ref x), (1, .int (iI p)), (2, .int (iI (-1)))]) hx hb dX1_done_60 hl (k := 1) rfl (iI_add _ _) (by decide) rfl (fun ls hl => ?_)
              refine lv_goto (tgt := 5) hx hb dX1_done_63 (by decide) ?_
              exact ih5 (j + 1) (s1 + (σ.2 4 j)) (by omega) (by omega) (by rw [zs_s, ← hv5_2]; (try dsimp only); split <;> omega) ls (lv_sub hl [0, 1, 2, 3, 4] rfl)
            ·
              exact absurd c_8 (by decide)
  exact LP5 (σ.1 1 - (0) + 1) 0 0 (by omega) (by omega) (by rfl) ls (lv_sub hl [0, 1, 2, 3, 4] rfl)
set_option maxHeartbeats 4000000 in
set_option maxRecDepth 100000 in
theorem c_done_w (l : Launch) (G : zG) (x : Nat) (a : Nat → Nat) (B : Nat) (σ : zS) (t : Nat) (i : Int) (o : Int) (hI : zI B σ) (hi : 0 ≤ i ∧ i ≤ 1000) (ho : 0 ≤ o ∧ o ≤ 1000) : Met l yX1_done wsX1_done ({ frames := 0, cells := 0, slots := 0, locals := 0 } : Room) (va_Pc [.ref x, .int (iI i), .int (iI o)] (pM G x a t σ)) (vp_Si (fun r => r = iI (btw σ i o))) 0 0 (fun _ => False) := by
  refine Met.ofW (cc := cX1_done) (maxL := 5) (ret := (some .int)) (by decide) rfl ?_
  intro pp ee s m args below meth c s₁ B9 hml hv
  obtain ⟨rfl, hP, hK⟩ := hv
  have hx := B9.exec
  have hb := B9.bytes
  have hr := B9.returns
  have hts := atoms_spec (ws := wsX1_done) B9.pre
  have hown : s.vm.findClass RX1 = some m.cls := findClass_of_methodNamed B9.named
  have hlocks := B9.notSynchronized
  have hin0 : ∀ w ∈ wsX10, w ∈ wsX1_done := by decide +kernel
  have w_0 := hts (.fieldLink RX1 46 "ApologyLedgerModel" "slights" "I") (by decide +kernel)
  have w_1 := hts (.fieldLink RX1 23 "ApologyLedgerModel" "weight" "[I") (by decide +kernel)
  have w_2 := hts (.fieldLink RX1 20 "ApologyLedgerModel" "against" "[I") (by decide +kernel)
  have w_3 := hts (.fieldLink RX1 17 "ApologyLedgerModel" "by" "[I") (by decide +kernel)
  have hl := lv_entry ([.ref x, .int (iI i), .int (iI o)]) (n := 5) (Nat.le_of_ble_eq_true rfl)
  rw [lg_entry_eq]
  generalize (lg_sl ([.ref x, .int (iI i), .int (iI o)]) ++ List.replicate (5 - (lg_sl ([.ref x, .int (iI i), .int (iI o)])).length) Slot.unset).toArray = ls at hl ⊢
  have hl : lv_has ls 5 [(0, .ref x), (1, .int (iI i)), (2, .int (iI o))] := hl
  have hIn := hI.n
  have hIb := hI.b
  refine lv_iconst (v := iI 0) hx hb dX1_done_0 rfl ?_
  refine lv_istore_n (lv' := [(3, .int (iI 0)), (0, .ref x), (1, .int (iI i)), (2, .int (iI o))]) hx hb dX1_done_1 rfl hl (by decide) rfl (fun ls hl => ?_)
  refine lv_iconst (v := iI 0) hx hb dX1_done_2 rfl ?_
  refine lv_istore (lv' := [(4, .int (iI 0)), (3, .int (iI 0)), (0, .ref x), (1, .int (iI i)), (2, .int (iI o))]) hx hb dX1_done_3 hl (by decide) rfl (fun ls hl => ?_)
  have LP5 : ∀ (r5 : Nat) (j : Nat) (s1 : Int), j ≤ σ.1 1 → σ.1 1 - j < r5 → s1 = zs (fun k => if σ.2 5 k = 0 ∧ σ.2 2 k = i ∧ σ.2 3 k = o then σ.2 4 k else 0) j → ∀ (ls : Array Slot), lv_has ls 5 [(4, .int (iI (j : Int))), (3, .int (iI s1)), (0, .ref x), (1, .int (iI i)), (2, .int (iI o))] → W pp l ee (headSpec wsX1_done ({ frames := 0, cells := 0, slots := 0, locals := 0 } : Room)).room s m ([.ref x, .int (iI i), .int (iI o)] : List Value).toArray below meth c s.heap [] 0 0 (MQ below (vp_Si (fun r => r = iI (btw σ i o))) ([.ref x, .int (iI i), .int (iI o)] : List Value).toArray s 0 0 (fun _ => False)) (F0 m 5 ls []) := by
    intro r5
    induction r5 with
    | zero => intro j s1 hv5_0 hv5_1; exfalso; omega
    | succ r5 ih5 =>
      intro j s1 hv5_0 hv5_1 hv5_2 ls hl
      have f_1 := hI.c4o j
      refine lv_iload hx hb dX1_done_5 (lv_at hl 0 rfl) ?_
      refine lv_aload_n hx hb dX1_done_7 rfl (lv_at hl 2 rfl) ?_
      refine m_get (v := .int (iI (σ.1 1 : Nat))) hx hb hts hin0 hown hK hP 0 rfl 6 (by decide) w_0 rfl dX1_done_8 ?_
      refine z_icmp_ge (tgt := 66) hx hb dX1_done_11 (by decide) (by omega) (by omega) (fun c_2 => ?_) (fun c_2 => ?_)
      ·
        refine lv_iload_n hx hb dX1_done_66 rfl (lv_at hl 1 rfl) ?_
        refine z_re (v' := iI (btw σ i o)) (congrArg iI (by rw [hv5_2, show j = σ.1 1 from by omega]; rfl)) ?_
        exact W.iret hx hb hr (fun t ht _ => ⟨_, rfl, rfl, ht⟩) (fun q hq => absurd hq List.not_mem_nil) dX1_done_67
      ·
        refine lv_iload_n hx hb dX1_done_14 rfl (lv_at hl 1 rfl) ?_
        refine lv_iload_n hx hb dX1_done_15 rfl (lv_at hl 3 rfl) ?_
        refine lv_iconst (v := iI (-1)) hx hb dX1_done_16 rfl ?_
        refine z_icmp_eq (tgt := 31) hx hb dX1_done_17 (by decide) (by omega) (by omega) (fun c_3 => ?_) (fun c_3 => ?_)
        ·
          refine lv_iload_n hx hb dX1_done_31 rfl (lv_at hl 4 rfl) ?_
          refine lv_iconst (v := iI (-1)) hx hb dX1_done_32 rfl ?_
          refine z_icmp_eq (tgt := 47) hx hb dX1_done_33 (by decide) (by omega) (by omega) (fun c_4 => ?_) (fun c_4 => ?_)
          ·
            refine lv_aload_n hx hb dX1_done_47 rfl (lv_at hl 2 rfl) ?_
            refine m_get (v := .ref (a 4)) hx hb hts hin0 hown hK hP 0 rfl 9 (by decide) w_1 rfl dX1_done_48 ?_
            refine lv_iload hx hb dX1_done_51 (lv_at hl 0 rfl) ?_
            refine z_iald (v := iI (σ.2 4 j)) hx hb hK hP 5 0 rfl rfl (k := j) (by omega) (by decide) rfl dX1_done_53 ?_
            have f_5 := hI.r4 j
            refine lv_goto (tgt := 58) hx hb dX1_done_54 (by decide) ?_
            refine z_iadd hx hb dX1_done_58 ?_
            refine lv_istore_n (lv' := [(3, .int (iI (s1 + (σ.2 4 j)))), (4, .int (iI (j : Int))), (0, .ref x), (1, .int (iI i)), (2, .int (iI o))]) hx hb dX1_done_59 rfl hl (by decide) rfl (fun ls hl => ?_)
            refine lv_iinc (v := iI ((j : Int) + 1)) (lv' := [(4, .int (iI ((j : Int) + 1))), (3, .int (iI (s1 + (σ.2 4 j)))), (0, .ref x), (1, .int (iI i)), (2, .int (iI o))]) hx hb dX1_done_60 hl (k := 1) rfl (iI_add _ _) (by decide) rfl (fun ls hl => ?_)
            refine lv_goto (tgt := 5) hx hb dX1_done_63 (by decide) ?_
            exact ih5 (j + 1) (s1 + (σ.2 4 j)) (by omega) (by omega) (by rw [zs_s, ← hv5_2]; (try dsimp only); split <;> omega) ls (lv_sub hl [0, 1, 2, 3, 4] rfl)
          ·
            refine lv_aload_n hx hb dX1_done_36 rfl (lv_at hl 2 rfl) ?_
            refine m_get (v := .ref (a 3)) hx hb hts hin0 hown hK hP 0 rfl 8 (by decide) w_2 rfl dX1_done_37 ?_
            refine lv_iload hx hb dX1_done_40 (lv_at hl 0 rfl) ?_
            refine z_iald (v := iI (σ.2 3 j)) hx hb hK hP 4 0 rfl rfl (k := j) (by omega) (by decide) rfl dX1_done_42 ?_
            have f_6 := hI.r3 (k := j) (by omega)
            refine lv_iload_n hx hb dX1_done_43 rfl (lv_at hl 4 rfl) ?_
            refine z_icmp_ne (tgt := 57) hx hb dX1_done_44 (by decide) (by omega) (by omega) (fun c_7 => ?_) (fun c_7 => ?_)
            ·
              refine lv_iconst (v := iI 0) hx hb dX1_done_57 rfl ?_
              refine z_iadd hx hb dX1_done_58 ?_
              refine lv_istore_n (lv' := [(3, .int (iI (s1 + 0))), (4, .int (iI (j : Int))), (0, .ref x), (1, .int (iI i)), (2, .int (iI o))]) hx hb dX1_done_59 rfl hl (by decide) rfl (fun ls hl => ?_)
              refine lv_iinc (v := iI ((j : Int) + 1)) (lv' := [(4, .int (iI ((j : Int) + 1))), (3, .int (iI (s1 + 0))), (0, .ref x), (1, .int (iI i)), (2, .int (iI o))]) hx hb dX1_done_60 hl (k := 1) rfl (iI_add _ _) (by decide) rfl (fun ls hl => ?_)
              refine lv_goto (tgt := 5) hx hb dX1_done_63 (by decide) ?_
              exact ih5 (j + 1) (s1 + 0) (by omega) (by omega) (by rw [zs_s, ← hv5_2]; (try dsimp only); split <;> omega) ls (lv_sub hl [0, 1, 2, 3, 4] rfl)
            ·
              refine lv_aload_n hx hb dX1_done_47 rfl (lv_at hl 2 rfl) ?_
              refine m_get (v := .ref (a 4)) hx hb hts hin0 hown hK hP 0 rfl 9 (by decide) w_1 rfl dX1_done_48 ?_
              refine lv_iload hx hb dX1_done_51 (lv_at hl 0 rfl) ?_
              refine z_iald (v := iI (σ.2 4 j)) hx hb hK hP 5 0 rfl rfl (k := j) (by omega) (by decide) rfl dX1_done_53 ?_
              have f_8 := hI.r4 j
              refine lv_goto (tgt := 58) hx hb dX1_done_54 (by decide) ?_
              refine z_iadd hx hb dX1_done_58 ?_
              refine lv_istore_n (lv' := [(3, .int (iI (s1 + (σ.2 4 j)))), (4, .int (iI (j : Int))), (0, .ref x), (1, .int (iI i)), (2, .int (iI o))]) hx hb dX1_done_59 rfl hl (by decide) rfl (fun ls hl => ?_)
              refine lv_iinc (v := iI ((j : Int) + 1)) (lv' := [(4, .int (iI ((j : Int) + 1))), (3, .int (iI (s1 + (σ.2 4 j)))), (0, .ref x), (1, .int (iI i)), (2, .int (iI o))]) hx hb dX1_done_60 hl (k := 1) rfl (iI_add _ _) (by decide) rfl (fun ls hl => ?_)
              refine lv_goto (tgt := 5) hx hb dX1_done_63 (by decide) ?_
              exact ih5 (j + 1) (s1 + (σ.2 4 j)) (by omega) (by omega) (by rw [zs_s, ← hv5_2]; (try dsimp only); split <;> omega) ls (lv_sub hl [0, 1, 2, 3, 4] rfl)
        ·
          refine lv_aload_n hx hb dX1_done_20 rfl (lv_at hl 2 rfl) ?_
          refine m_get (v := .ref (a 2)) hx hb hts hin0 hown hK hP 0 rfl 7 (by decide) w_3 rfl dX1_done_21 ?_
          refine lv_iload hx hb dX1_done_24 (lv_at hl 0 rfl) ?_
          refine z_iald (v := iI (σ.2 2 j)) hx hb hK hP 3 0 rfl rfl (k := j) (by omega) (by decide) rfl dX1_done_26 ?_
          have f_9 := hI.r2 (k := j) (by omega)
          refine lv_iload_n hx hb dX1_done_27 rfl (lv_at hl 3 rfl) ?_
          refine z_icmp_ne (tgt := 57) hx hb dX1_done_28 (by decide) (by omega) (by omega) (fun c_10 => ?_) (fun c_10 => ?_)
          ·
            refine lv_iconst (v := iI 0) hx hb dX1_done_57 rfl ?_
            refine z_iadd hx hb dX1_done_58 ?_
            refine lv_istore_n (lv' := [(3, .int (iI (s1 + 0))), (4, .int (iI (j : Int))), (0, .ref x), (1, .int (iI i)), (2, .int (iI o))]) hx hb dX1_done_59 rfl hl (by decide) rfl (fun ls hl => ?_)
            refine lv_iinc (v := iI ((j : Int) + 1)) (lv' := [(4, .int (iI ((j : Int) + 1))), (3, .int (iI (s1 + 0))), (0, .ref x), (1, .int (iI i)), (2, .int (iI o))]) hx hb dX1_done_60 hl (k := 1) rfl (iI_add _ _) (by decide) rfl (fun ls hl => ?_)
            refine lv_goto (tgt := 5) hx hb dX1_done_63 (by decide) ?_
            exact ih5 (j + 1) (s1 + 0) (by omega) (by omega) (by rw [zs_s, ← hv5_2]; (try dsimp only); split <;> omega) ls (lv_sub hl [0, 1, 2, 3, 4] rfl)
          ·
            refine lv_iload_n hx hb dX1_done_31 rfl (lv_at hl 4 rfl) ?_
            refine lv_iconst (v := iI (-1)) hx hb dX1_done_32 rfl ?_
            refine z_icmp_eq (tgt := 47) hx hb dX1_done_33 (by decide) (by omega) (by omega) (fun c_11 => ?_) (fun c_11 => ?_)
            ·
              refine lv_aload_n hx hb dX1_done_47 rfl (lv_at hl 2 rfl) ?_
              refine m_get (v := .ref (a 4)) hx hb hts hin0 hown hK hP 0 rfl 9 (by decide) w_1 rfl dX1_done_48 ?_
              refine lv_iload hx hb dX1_done_51 (lv_at hl 0 rfl) ?_
              refine z_iald (v := iI (σ.2 4 j)) hx hb hK hP 5 0 rfl rfl (k := j) (by omega) (by decide) rfl dX1_done_53 ?_
              have f_12 := hI.r4 j
              refine lv_goto (tgt := 58) hx hb dX1_done_54 (by decide) ?_
              refine z_iadd hx hb dX1_done_58 ?_
              refine lv_istore_n (lv' := [(3, .int (iI (s1 + (σ.2 4 j)))), (4, .int (iI (j : Int))), (0, .ref x), (1, .int (iI i)), (2, .int (iI o))]) hx hb dX1_done_59 rfl hl (by decide) rfl (fun ls hl => ?_)
              refine lv_iinc (v := iI ((j : Int) + 1)) (lv' := [(4, .int (iI ((j : Int) + 1))), (3, .int (iI (s1 + (σ.2 4 j)))), (0, .ref x), (1, .int (iI i)), (2, .int (iI o))]) hx hb dX1_done_60 hl (k := 1) rfl (iI_add _ _) (by decide) rfl (fun ls hl => ?_)
              refine lv_goto (tgt := 5) hx hb dX1_done_63 (by decide) ?_
              exact ih5 (j + 1) (s1 + (σ.2 4 j)) (by omega) (by omega) (by rw [zs_s, ← hv5_2]; (try dsimp only); split <;> omega) ls (lv_sub hl [0, 1, 2, 3, 4] rfl)
            ·
              refine lv_aload_n hx hb dX1_done_36 rfl (lv_at hl 2 rfl) ?_
              refine m_get (v := .ref (a 3)) hx hb hts hin0 hown hK hP 0 rfl 8 (by decide) w_2 rfl dX1_done_37 ?_
              refine lv_iload hx hb dX1_done_40 (lv_at hl 0 rfl) ?_
              refine z_iald (v := iI (σ.2 3 j)) hx hb hK hP 4 0 rfl rfl (k := j) (by omega) (by decide) rfl dX1_done_42 ?_
              have f_13 := hI.r3 (k := j) (by omega)
              refine lv_iload_n hx hb dX1_done_43 rfl (lv_at hl 4 rfl) ?_
              refine z_icmp_ne (tgt := 57) hx hb dX1_done_44 (by decide) (by omega) (by omega) (fun c_14 => ?_) (fun c_14 => ?_)
              ·
                refine lv_iconst (v := iI 0) hx hb dX1_done_57 rfl ?_
                refine z_iadd hx hb dX1_done_58 ?_
                refine lv_istore_n (lv' := [(3, .int (iI (s1 + 0))), (4, .int (iI (j : Int))), (0, .ref x), (1, .int (iI i)), (2, .int (iI o))]) hx hb dX1_done_59 rfl hl (by decide) rfl (fun ls hl => ?_)
                refine lv_iinc (v := iI ((j : Int) + 1)) (lv' := [(4, .int (iI ((j : Int) + 1))), (3, .int (iI (s1 + 0))), (0, .ref x), (1, .int (iI i)), (2, .int (iI o))]) hx hb dX1_done_60 hl (k := 1) rfl (iI_add _ _) (by decide) rfl (fun ls hl => ?_)
                refine lv_goto (tgt := 5) hx hb dX1_done_63 (by decide) ?_
                exact ih5 (j + 1) (s1 + 0) (by omega) (by omega) (by rw [zs_s, ← hv5_2]; (try dsimp only); split <;> omega) ls (lv_sub hl [0, 1, 2, 3, 4] rfl)
              ·
                refine lv_aload_n hx hb dX1_done_47 rfl (lv_at hl 2 rfl) ?_
                refine m_get (v := .ref (a 4)) hx hb hts hin0 hown hK hP 0 rfl 9 (by decide) w_1 rfl dX1_done_48 ?_
                refine lv_iload hx hb dX1_done_51 (lv_at hl 0 rfl) ?_
                refine z_iald (v := iI (σ.2 4 j)) hx hb hK hP 5 0 rfl rfl (k := j) (by omega) (by decide) rfl dX1_done_53 ?_
                have f_15 := hI.r4 j
                refine lv_goto (tgt := 58) hx hb dX1_done_54 (by decide) ?_
                refine z_iadd hx hb dX1_done_58 ?_
                refine lv_istore_n (lv' := [(3, .int (iI (s1 + (σ.2 4 j)))), (4, .int (iI (j : Int))), (0, .ref x), (1, .int (iI i)), (2, .int (iI o))]) hx hb dX1_done_59 rfl hl (by decide) rfl (fun ls hl => ?_)
                refine lv_iinc (v := iI ((j : Int) + 1)) (lv' := [(4, .int (iI ((j : Int) + 1))), (3, .int (iI (s1 + (σ.2 4 j)))), (0, .ref x), (1, .int (iI i)), (2, .int (iI o))]) hx hb dX1_done_60 hl (k := 1) rfl (iI_add _ _) (by decide) rfl (fun ls hl => ?_)
                refine lv_goto (tgt := 5) hx hb dX1_done_63 (by decide) ?_
                exact ih5 (j + 1) (s1 + (σ.2 4 j)) (by omega) (by omega) (by rw [zs_s, ← hv5_2]; (try dsimp only); split <;> omega) ls (lv_sub hl [0, 1, 2, 3, 4] rfl)
  exact LP5 (σ.1 1 - (0) + 1) 0 0 (by omega) (by omega) (by rfl) ls (lv_sub hl [0, 1, 2, 3, 4] rfl)
set_option maxHeartbeats 4000000 in
set_option maxRecDepth 100000 in
theorem c_done_t (l : Launch) (G : zG) (x : Nat) (a : Nat → Nat) (B : Nat) (σ : zS) (t : Nat) (hI : zI B σ) : Met l yX1_done wsX1_done ({ frames := 0, cells := 0, slots := 0, locals := 0 } : Room) (va_Pc [.ref x, .int (iI (-1)), .int (iI (-1))] (pM G x a t σ)) (vp_Si (fun r => r = iI (tot σ))) 0 0 (fun _ => False) := by
  refine Met.ofW (cc := cX1_done) (maxL := 5) (ret := (some .int)) (by decide) rfl ?_
  intro pp ee s m args below meth c s₁ B9 hml hv
  obtain ⟨rfl, hP, hK⟩ := hv
  have hx := B9.exec
  have hb := B9.bytes
  have hr := B9.returns
  have hts := atoms_spec (ws := wsX1_done) B9.pre
  have hown : s.vm.findClass RX1 = some m.cls := findClass_of_methodNamed B9.named
  have hlocks := B9.notSynchronized
  have hin0 : ∀ w ∈ wsX10, w ∈ wsX1_done := by decide +kernel
  have w_0 := hts (.fieldLink RX1 46 "ApologyLedgerModel" "slights" "I") (by decide +kernel)
  have w_1 := hts (.fieldLink RX1 23 "ApologyLedgerModel" "weight" "[I") (by decide +kernel)
  have hl := lv_entry ([.ref x, .int (iI (-1)), .int (iI (-1))]) (n := 5) (Nat.le_of_ble_eq_true rfl)
  rw [lg_entry_eq]
  generalize (lg_sl ([.ref x, .int (iI (-1)), .int (iI (-1))]) ++ List.replicate (5 - (lg_sl ([.ref x, .int (iI (-1)), .int (iI (-1))])).length) Slot.unset).toArray = ls at hl ⊢
  have hl : lv_has ls 5 [(0, .ref x), (1, .int (iI (-1))), (2, .int (iI (-1)))] := hl
  have hIn := hI.n
  have hIb := hI.b
  refine lv_iconst (v := iI 0) hx hb dX1_done_0 rfl ?_
  refine lv_istore_n (lv' := [(3, .int (iI 0)), (0, .ref x), (1, .int (iI (-1))), (2, .int (iI (-1)))]) hx hb dX1_done_1 rfl hl (by decide) rfl (fun ls hl => ?_)
  refine lv_iconst (v := iI 0) hx hb dX1_done_2 rfl ?_
  refine lv_istore (lv' := [(4, .int (iI 0)), (3, .int (iI 0)), (0, .ref x), (1, .int (iI (-1))), (2, .int (iI (-1)))]) hx hb dX1_done_3 hl (by decide) rfl (fun ls hl => ?_)
  have LP5 : ∀ (r5 : Nat) (j : Nat) (s1 : Int), j ≤ σ.1 1 → σ.1 1 - j < r5 → s1 = zs (fun k => if σ.2 5 k = 0 then σ.2 4 k else 0) j → ∀ (ls : Array Slot), lv_has ls 5 [(4, .int (iI (j : Int))), (3, .int (iI s1)), (0, .ref x), (1, .int (iI (-1))), (2, .int (iI (-1)))] → W pp l ee (headSpec wsX1_done ({ frames := 0, cells := 0, slots := 0, locals := 0 } : Room)).room s m ([.ref x, .int (iI (-1)), .int (iI (-1))] : List Value).toArray below meth c s.heap [] 0 0 (MQ below (vp_Si (fun r => r = iI (tot σ))) ([.ref x, .int (iI (-1)), .int (iI (-1))] : List Value).toArray s 0 0 (fun _ => False)) (F0 m 5 ls []) := by
    intro r5
    induction r5 with
    | zero => intro j s1 hv5_0 hv5_1; exfalso; omega
    | succ r5 ih5 =>
      intro j s1 hv5_0 hv5_1 hv5_2 ls hl
      have f_1 := hI.c4o j
      refine lv_iload hx hb dX1_done_5 (lv_at hl 0 rfl) ?_
      refine lv_aload_n hx hb dX1_done_7 rfl (lv_at hl 2 rfl) ?_
      refine m_get (v := .int (iI (σ.1 1 : Nat))) hx hb hts hin0 hown hK hP 0 rfl 6 (by decide) w_0 rfl dX1_done_8 ?_
      refine z_icmp_ge (tgt := 66) hx hb dX1_done_11 (by decide) (by omega) (by omega) (fun c_2 => ?_) (fun c_2 => ?_)
      ·
        refine lv_iload_n hx hb dX1_done_66 rfl (lv_at hl 1 rfl) ?_
        refine z_re (v' := iI (tot σ)) (congrArg iI (by rw [hv5_2, show j = σ.1 1 from by omega]; rfl)) ?_
        exact W.iret hx hb hr (fun t ht _ => ⟨_, rfl, rfl, ht⟩) (fun q hq => absurd hq List.not_mem_nil) dX1_done_67
      ·
        refine lv_iload_n hx hb dX1_done_14 rfl (lv_at hl 1 rfl) ?_
        refine lv_iload_n hx hb dX1_done_15 rfl (lv_at hl 3 rfl) ?_
        refine lv_iconst (v := iI (-1)) hx hb dX1_done_16 rfl ?_
        refine z_icmp_eq (tgt := 31) hx hb dX1_done_17 (by decide) (by omega) (by omega) (fun c_3 => ?_) (fun c_3 => ?_)
        ·
          refine lv_iload_n hx hb dX1_done_31 rfl (lv_at hl 4 rfl) ?_
          refine lv_iconst (v := iI (-1)) hx hb dX1_done_32 rfl ?_
          refine z_icmp_eq (tgt := 47) hx hb dX1_done_33 (by decide) (by omega) (by omega) (fun c_4 => ?_) (fun c_4 => ?_)
          ·
            refine lv_aload_n hx hb dX1_done_47 rfl (lv_at hl 2 rfl) ?_
            refine m_get (v := .ref (a 4)) hx hb hts hin0 hown hK hP 0 rfl 9 (by decide) w_1 rfl dX1_done_48 ?_
            refine lv_iload hx hb dX1_done_51 (lv_at hl 0 rfl) ?_
            refine z_iald (v := iI (σ.2 4 j)) hx hb hK hP 5 0 rfl rfl (k := j) (by omega) (by decide) rfl dX1_done_53 ?_
            have f_5 := hI.r4 j
            refine lv_goto (tgt := 58) hx hb dX1_done_54 (by decide) ?_
            refine z_iadd hx hb dX1_done_58 ?_
            refine lv_istore_n (lv' := [(3, .int (iI (s1 + (σ.2 4 j)))), (4, .int (iI (j : Int))), (0, .ref x), (1, .int (iI (-1))), (2, .int (iI (-1)))]) hx hb dX1_done_59 rfl hl (by decide) rfl (fun ls hl => ?_)
            refine lv_iinc (v := iI ((j : Int) + 1)) (lv' := [(4, .int (iI ((j : Int) + 1))), (3, .int (iI (s1 + (σ.2 4 j)))), (0, .ref x), (1, .int (iI (-1))), (2, .int (iI (-1)))]) hx hb dX1_done_60 hl (k := 1) rfl (iI_add _ _) (by decide) rfl (fun ls hl => ?_)
            refine lv_goto (tgt := 5) hx hb dX1_done_63 (by decide) ?_
            exact ih5 (j + 1) (s1 + (σ.2 4 j)) (by omega) (by omega) (by rw [zs_s, ← hv5_2]; (try dsimp only); split <;> omega) ls (lv_sub hl [0, 1, 2, 3, 4] rfl)
          ·
            exact absurd c_4 (by decide)
        ·
          exact absurd c_3 (by decide)
  exact LP5 (σ.1 1 - (0) + 1) 0 0 (by omega) (by omega) (by rfl) ls (lv_sub hl [0, 1, 2, 3, 4] rfl)
set_option maxHeartbeats 4000000 in
set_option maxRecDepth 100000 in
theorem c_X1_sore (l : Launch) (G : zG) (x : Nat) (a : Nat → Nat) (B : Nat) (σ : zS) (t : Nat) (hI : zI B σ) : Met l yX1_sore wsX1_sore ({ frames := 1, cells := 0, slots := 0, locals := 24 } : Room) (va_Pc [.ref x] (pM G x a t σ)) (vp_Si (fun r => r = iI (sor σ))) 0 0 (fun _ => False) := by
  refine Met.ofW (cc := cX1_sore) (maxL := 3) (ret := (some .int)) (by decide) rfl ?_
  intro pp ee s m args below meth c s₁ B9 hml hv
  obtain ⟨rfl, hP, hK⟩ := hv
  have hx := B9.exec
  have hb := B9.bytes
  have hr := B9.returns
  have hts := atoms_spec (ws := wsX1_sore) B9.pre
  have hown : s.vm.findClass RX1 = some m.cls := findClass_of_methodNamed B9.named
  have hlocks := B9.notSynchronized
  have hin0 : ∀ w ∈ wsX10, w ∈ wsX1_sore := by decide +kernel
  have w_0 := hts (.fieldLink RX1 39 "ApologyLedgerModel" "persons" "I") (by decide +kernel)
  have hl := lv_entry ([.ref x]) (n := 3) (Nat.le_of_ble_eq_true rfl)
  rw [lg_entry_eq]
  generalize (lg_sl ([.ref x]) ++ List.replicate (3 - (lg_sl ([.ref x])).length) Slot.unset).toArray = ls at hl ⊢
  have hl : lv_has ls 3 [(0, .ref x)] := hl
  have hIn := hI.n
  have hIb := hI.b
  refine lv_iconst (v := iI (-1)) hx hb dX1_sore_0 rfl ?_
  refine lv_istore_n (lv' := [(1, .int (iI (-1))), (0, .ref x)]) hx hb dX1_sore_1 rfl hl (by decide) rfl (fun ls hl => ?_)
  refine lv_iconst (v := iI 0) hx hb dX1_sore_2 rfl ?_
  refine lv_istore_n (lv' := [(2, .int (iI 0)), (1, .int (iI (-1))), (0, .ref x)]) hx hb dX1_sore_3 rfl hl (by decide) rfl (fun ls hl => ?_)
  have LP4 : ∀ (r4 : Nat) (j : Nat) (s1 : Int), j ≤ σ.1 0 → σ.1 0 - j < r4 → s1 = arg (fun _ => True) (fun p => bor σ p) j → ∀ (ls : Array Slot), lv_has ls 3 [(2, .int (iI (j : Int))), (1, .int (iI s1)), (0, .ref x)] → W pp l ee (headSpec wsX1_sore ({ frames := 1, cells := 0, slots := 0, locals := 24 } : Room)).room s m ([.ref x] : List Value).toArray below meth c s.heap [] 0 0 (MQ below (vp_Si (fun r => r = iI (sor σ))) ([.ref x] : List Value).toArray s 0 0 (fun _ => False)) (F0 m 4 ls []) := by
    intro r4
    induction r4 with
    | zero => intro j s1 hv4_0 hv4_1; exfalso; omega
    | succ r4 ih4 =>
      intro j s1 hv4_0 hv4_1 hv4_2 ls hl
      have f_1 := arg_bd (fun _ => True) (fun p => bor σ p) j
      refine lv_iload_n hx hb dX1_sore_4 rfl (lv_at hl 0 rfl) ?_
      refine lv_aload_n hx hb dX1_sore_5 rfl (lv_at hl 2 rfl) ?_
      refine m_get (v := .int (iI (σ.1 0 : Nat))) hx hb hts hin0 hown hK hP 0 rfl 3 (by decide) w_0 rfl dX1_sore_6 ?_
      refine z_icmp_ge (tgt := 40) hx hb dX1_sore_9 (by decide) (by omega) (by omega) (fun c_2 => ?_) (fun c_2 => ?_)
      ·
        refine lv_iload_n hx hb dX1_sore_40 rfl (lv_at hl 1 rfl) ?_
        refine z_re (v' := iI (sor σ)) (congrArg iI (by rw [hv4_2, show j = σ.1 0 from by omega]; rfl)) ?_
        exact W.iret hx hb hr (fun t ht _ => ⟨_, rfl, rfl, ht⟩) (fun q hq => absurd hq List.not_mem_nil) dX1_sore_41
      ·
        refine lv_iload_n hx hb dX1_sore_12 rfl (lv_at hl 1 rfl) ?_
        refine lv_iconst (v := iI (-1)) hx hb dX1_sore_13 rfl ?_
        refine z_icmp_eq (tgt := 32) hx hb dX1_sore_14 (by decide) (by omega) (by omega) (fun c_3 => ?_) (fun c_3 => ?_)
        ·
          refine lv_iload_n hx hb dX1_sore_32 rfl (lv_at hl 0 rfl) ?_
          refine lv_istore_n (lv' := [(1, .int (iI (j : Int))), (2, .int (iI (j : Int))), (0, .ref x)]) hx hb dX1_sore_33 rfl hl (by decide) rfl (fun ls hl => ?_)
          refine lv_iinc (v := iI ((j : Int) + 1)) (lv' := [(2, .int (iI ((j : Int) + 1))), (1, .int (iI (j : Int))), (0, .ref x)]) hx hb dX1_sore_34 hl (k := 1) rfl (iI_add _ _) (by decide) rfl (fun ls hl => ?_)
          refine lv_goto (tgt := 4) hx hb dX1_sore_37 (by decide) ?_
          exact ih4 (j + 1) (j : Int) (by omega) (by omega) (by rw [arg_s, ← hv4_2]; (try dsimp only); simp only [true_and]; (try rw [show ((s1.toNat : Nat) : Int) = s1 from by omega]); split <;> omega) ls (lv_sub hl [0, 1, 2] rfl)
        ·
          refine lv_aload_n hx hb dX1_sore_17 rfl (lv_at hl 2 rfl) ?_
          refine lv_iconst (v := iI (-1)) hx hb dX1_sore_18 rfl ?_
          refine lv_iload_n hx hb dX1_sore_19 rfl (lv_at hl 0 rfl) ?_
          refine zc_i (va_runV (As := [.int (iI (-1)), .int (iI (j : Int))]) (rest := []) ⟨hx, hb, hml, hown, hts⟩ (c_done_b l G x a B σ t (j : Int) hI (by omega)) (cwV 2 hts gX1_sore_X1_done rfl rfl rfl (by decide +kernel) ⟨Nat.le_of_ble_eq_true rfl, Nat.le_of_ble_eq_true rfl⟩) (preVM hK hP) rfl rfl hl.1 rfl (lv_room (Nat.le_of_ble_eq_true rfl)) dX1_sore_20 ⟨Nat.le_of_ble_eq_true rfl, Nat.le_of_ble_eq_true rfl⟩) ?_
          have f_4 := bor_bd hI (j : Int)
          refine lv_aload_n hx hb dX1_sore_23 rfl (lv_at hl 2 rfl) ?_
          refine lv_iconst (v := iI (-1)) hx hb dX1_sore_24 rfl ?_
          refine lv_iload_n hx hb dX1_sore_25 rfl (lv_at hl 1 rfl) ?_
          refine zc_i (va_runV (As := [.int (iI (-1)), .int (iI s1)]) (rest := [.int (iI (bor σ (j : Int)))]) ⟨hx, hb, hml, hown, hts⟩ (c_done_b l G x a B σ t s1 hI (by omega)) (cwV 2 hts gX1_sore_X1_done rfl rfl rfl (by decide +kernel) ⟨Nat.le_of_ble_eq_true rfl, Nat.le_of_ble_eq_true rfl⟩) (preVM hK hP) rfl rfl hl.1 rfl (lv_room (Nat.le_of_ble_eq_true rfl)) dX1_sore_26 ⟨Nat.le_of_ble_eq_true rfl, Nat.le_of_ble_eq_true rfl⟩) ?_
          have f_5 := bor_bd hI s1
          refine z_icmp_le (tgt := 34) hx hb dX1_sore_29 (by decide) (by omega) (by omega) (fun c_6 => ?_) (fun c_6 => ?_)
          ·
            refine lv_iinc (v := iI ((j : Int) + 1)) (lv' := [(2, .int (iI ((j : Int) + 1))), (1, .int (iI s1)), (0, .ref x)]) hx hb dX1_sore_34 hl (k := 0) rfl (iI_add _ _) (by decide) rfl (fun ls hl => ?_)
            refine lv_goto (tgt := 4) hx hb dX1_sore_37 (by decide) ?_
            exact ih4 (j + 1) s1 (by omega) (by omega) (by rw [arg_s, ← hv4_2]; (try dsimp only); simp only [true_and]; (try rw [show ((s1.toNat : Nat) : Int) = s1 from by omega]); split <;> omega) ls (lv_sub hl [0, 1, 2] rfl)
          ·
            refine lv_iload_n hx hb dX1_sore_32 rfl (lv_at hl 0 rfl) ?_
            refine lv_istore_n (lv' := [(1, .int (iI (j : Int))), (2, .int (iI (j : Int))), (0, .ref x)]) hx hb dX1_sore_33 rfl hl (by decide) rfl (fun ls hl => ?_)
            refine lv_iinc (v := iI ((j : Int) + 1)) (lv' := [(2, .int (iI ((j : Int) + 1))), (1, .int (iI (j : Int))), (0, .ref x)]) hx hb dX1_sore_34 hl (k := 1) rfl (iI_add _ _) (by decide) rfl (fun ls hl => ?_)
            refine lv_goto (tgt := 4) hx hb dX1_sore_37 (by decide) ?_
            exact ih4 (j + 1) (j : Int) (by omega) (by omega) (by rw [arg_s, ← hv4_2]; (try dsimp only); simp only [true_and]; (try rw [show ((s1.toNat : Nat) : Int) = s1 from by omega]); split <;> omega) ls (lv_sub hl [0, 1, 2] rfl)
  exact LP4 (σ.1 0 - (0) + 1) 0 (-1) (by omega) (by omega) (by rfl) ls (lv_sub hl [0, 1, 2] rfl)
set_option maxHeartbeats 4000000 in
set_option maxRecDepth 100000 in
theorem c_X1_count (l : Launch) (G : zG) (x : Nat) (a : Nat → Nat) (B : Nat) (σ : zS) (t : Nat) (z : Int) (hI : zI B σ) (hz : 0 ≤ z ∧ z ≤ 3) : Met l yX1_count wsX1_count ({ frames := 0, cells := 0, slots := 0, locals := 0 } : Room) (va_Pc [.ref x, .int (iI z)] (pM G x a t σ)) (vp_Si (fun r => r = iI (cnt σ z))) 0 0 (fun _ => False) := by
  refine Met.ofW (cc := cX1_count) (maxL := 4) (ret := (some .int)) (by decide) rfl ?_
  intro pp ee s m args below meth c s₁ B9 hml hv
  obtain ⟨rfl, hP, hK⟩ := hv
  have hx := B9.exec
  have hb := B9.bytes
  have hr := B9.returns
  have hts := atoms_spec (ws := wsX1_count) B9.pre
  have hown : s.vm.findClass RX1 = some m.cls := findClass_of_methodNamed B9.named
  have hlocks := B9.notSynchronized
  have hin0 : ∀ w ∈ wsX10, w ∈ wsX1_count := by decide +kernel
  have w_0 := hts (.fieldLink RX1 46 "ApologyLedgerModel" "slights" "I") (by decide +kernel)
  have w_1 := hts (.fieldLink RX1 26 "ApologyLedgerModel" "state" "[I") (by decide +kernel)
  have hl := lv_entry ([.ref x, .int (iI z)]) (n := 4) (Nat.le_of_ble_eq_true rfl)
  rw [lg_entry_eq]
  generalize (lg_sl ([.ref x, .int (iI z)]) ++ List.replicate (4 - (lg_sl ([.ref x, .int (iI z)])).length) Slot.unset).toArray = ls at hl ⊢
  have hl : lv_has ls 4 [(0, .ref x), (1, .int (iI z))] := hl
  have hIn := hI.n
  have hIb := hI.b
  refine lv_iconst (v := iI 0) hx hb dX1_count_0 rfl ?_
  refine lv_istore_n (lv' := [(2, .int (iI 0)), (0, .ref x), (1, .int (iI z))]) hx hb dX1_count_1 rfl hl (by decide) rfl (fun ls hl => ?_)
  refine lv_iconst (v := iI 0) hx hb dX1_count_2 rfl ?_
  refine lv_istore_n (lv' := [(3, .int (iI 0)), (2, .int (iI 0)), (0, .ref x), (1, .int (iI z))]) hx hb dX1_count_3 rfl hl (by decide) rfl (fun ls hl => ?_)
  have LP4 : ∀ (r4 : Nat) (j : Nat) (s1 : Int), j ≤ σ.1 1 → σ.1 1 - j < r4 → s1 = zs (fun k => if σ.2 5 k = z then 1 else 0) j → ∀ (ls : Array Slot), lv_has ls 4 [(3, .int (iI (j : Int))), (2, .int (iI s1)), (0, .ref x), (1, .int (iI z))] → W pp l ee (headSpec wsX1_count ({ frames := 0, cells := 0, slots := 0, locals := 0 } : Room)).room s m ([.ref x, .int (iI z)] : List Value).toArray below meth c s.heap [] 0 0 (MQ below (vp_Si (fun r => r = iI (cnt σ z))) ([.ref x, .int (iI z)] : List Value).toArray s 0 0 (fun _ => False)) (F0 m 4 ls []) := by
    intro r4
    induction r4 with
    | zero => intro j s1 hv4_0 hv4_1; exfalso; omega
    | succ r4 ih4 =>
      intro j s1 hv4_0 hv4_1 hv4_2 ls hl
      refine lv_iload_n hx hb dX1_count_4 rfl (lv_at hl 0 rfl) ?_
      refine lv_aload_n hx hb dX1_count_5 rfl (lv_at hl 2 rfl) ?_
      refine m_get (v := .int (iI (σ.1 1 : Nat))) hx hb hts hin0 hown hK hP 0 rfl 6 (by decide) w_0 rfl dX1_count_6 ?_
      refine z_icmp_ge (tgt := 36) hx hb dX1_count_9 (by decide) (by omega) (by omega) (fun c_1 => ?_) (fun c_1 => ?_)
      ·
        refine lv_iload_n hx hb dX1_count_36 rfl (lv_at hl 1 rfl) ?_
        refine z_re (v' := iI (cnt σ z)) (congrArg iI (by rw [hv4_2, show j = σ.1 1 from by omega]; rfl)) ?_
        exact W.iret hx hb hr (fun t ht _ => ⟨_, rfl, rfl, ht⟩) (fun q hq => absurd hq List.not_mem_nil) dX1_count_37
      ·
        refine lv_iload_n hx hb dX1_count_12 rfl (lv_at hl 1 rfl) ?_
        refine lv_aload_n hx hb dX1_count_13 rfl (lv_at hl 2 rfl) ?_
        refine m_get (v := .ref (a 5)) hx hb hts hin0 hown hK hP 0 rfl 10 (by decide) w_1 rfl dX1_count_14 ?_
        refine lv_iload_n hx hb dX1_count_17 rfl (lv_at hl 0 rfl) ?_
        refine z_iald (v := iI (σ.2 5 j)) hx hb hK hP 6 0 rfl rfl (k := j) (by omega) (by decide) rfl dX1_count_18 ?_
        have f_2 := hI.r5 j
        refine lv_iload_n hx hb dX1_count_19 rfl (lv_at hl 3 rfl) ?_
        refine z_icmp_ne (tgt := 27) hx hb dX1_count_20 (by decide) (by omega) (by omega) (fun c_3 => ?_) (fun c_3 => ?_)
        ·
          refine lv_iconst (v := iI 0) hx hb dX1_count_27 rfl ?_
          refine z_iadd hx hb dX1_count_28 ?_
          refine lv_istore_n (lv' := [(2, .int (iI (s1 + 0))), (3, .int (iI (j : Int))), (0, .ref x), (1, .int (iI z))]) hx hb dX1_count_29 rfl hl (by decide) rfl (fun ls hl => ?_)
          refine lv_iinc (v := iI ((j : Int) + 1)) (lv' := [(3, .int (iI ((j : Int) + 1))), (2, .int (iI (s1 + 0))), (0, .ref x), (1, .int (iI z))]) hx hb dX1_count_30 hl (k := 1) rfl (iI_add _ _) (by decide) rfl (fun ls hl => ?_)
          refine lv_goto (tgt := 4) hx hb dX1_count_33 (by decide) ?_
          exact ih4 (j + 1) (s1 + 0) (by omega) (by omega) (by rw [zs_s, ← hv4_2]; (try dsimp only); split <;> omega) ls (lv_sub hl [0, 1, 2, 3] rfl)
        ·
          refine lv_iconst (v := iI 1) hx hb dX1_count_23 rfl ?_
          refine lv_goto (tgt := 28) hx hb dX1_count_24 (by decide) ?_
          refine z_iadd hx hb dX1_count_28 ?_
          refine lv_istore_n (lv' := [(2, .int (iI (s1 + 1))), (3, .int (iI (j : Int))), (0, .ref x), (1, .int (iI z))]) hx hb dX1_count_29 rfl hl (by decide) rfl (fun ls hl => ?_)
          refine lv_iinc (v := iI ((j : Int) + 1)) (lv' := [(3, .int (iI ((j : Int) + 1))), (2, .int (iI (s1 + 1))), (0, .ref x), (1, .int (iI z))]) hx hb dX1_count_30 hl (k := 1) rfl (iI_add _ _) (by decide) rfl (fun ls hl => ?_)
          refine lv_goto (tgt := 4) hx hb dX1_count_33 (by decide) ?_
          exact ih4 (j + 1) (s1 + 1) (by omega) (by omega) (by rw [zs_s, ← hv4_2]; (try dsimp only); split <;> omega) ls (lv_sub hl [0, 1, 2, 3] rfl)
  exact LP4 (σ.1 1 - (0) + 1) 0 0 (by omega) (by omega) (by rfl) ls (lv_sub hl [0, 1, 2, 3] rfl)
set_option maxHeartbeats 4000000 in
set_option maxRecDepth 100000 in
theorem c_X1_heavy (l : Launch) (G : zG) (x : Nat) (a : Nat → Nat) (B : Nat) (σ : zS) (t : Nat) (hI : zI B σ) : Met l yX1_heavy wsX1_heavy ({ frames := 1, cells := 0, slots := 0, locals := 21 } : Room) (va_Pc [.ref x] (pM G x a t σ)) (vp_Si (fun r => r = iI (hea σ))) 0 0 (fun _ => False) := by
  refine Met.ofW (cc := cX1_heavy) (maxL := 3) (ret := (some .int)) (by decide) rfl ?_
  intro pp ee s m args below meth c s₁ B9 hml hv
  obtain ⟨rfl, hP, hK⟩ := hv
  have hx := B9.exec
  have hb := B9.bytes
  have hr := B9.returns
  have hts := atoms_spec (ws := wsX1_heavy) B9.pre
  have hown : s.vm.findClass RX1 = some m.cls := findClass_of_methodNamed B9.named
  have hlocks := B9.notSynchronized
  have hin0 : ∀ w ∈ wsX10, w ∈ wsX1_heavy := by decide +kernel
  have w_0 := hts (.fieldLink RX1 46 "ApologyLedgerModel" "slights" "I") (by decide +kernel)
  have w_1 := hts (.fieldLink RX1 23 "ApologyLedgerModel" "weight" "[I") (by decide +kernel)
  have hl := lv_entry ([.ref x]) (n := 3) (Nat.le_of_ble_eq_true rfl)
  rw [lg_entry_eq]
  generalize (lg_sl ([.ref x]) ++ List.replicate (3 - (lg_sl ([.ref x])).length) Slot.unset).toArray = ls at hl ⊢
  have hl : lv_has ls 3 [(0, .ref x)] := hl
  have hIn := hI.n
  have hIb := hI.b
  refine lv_iconst (v := iI (-1)) hx hb dX1_heavy_0 rfl ?_
  refine lv_istore_n (lv' := [(1, .int (iI (-1))), (0, .ref x)]) hx hb dX1_heavy_1 rfl hl (by decide) rfl (fun ls hl => ?_)
  refine lv_iconst (v := iI 0) hx hb dX1_heavy_2 rfl ?_
  refine lv_istore_n (lv' := [(2, .int (iI 0)), (1, .int (iI (-1))), (0, .ref x)]) hx hb dX1_heavy_3 rfl hl (by decide) rfl (fun ls hl => ?_)
  have LP4 : ∀ (r4 : Nat) (j : Nat) (s1 : Int), j ≤ σ.1 1 → σ.1 1 - j < r4 → s1 = arg (fun k => σ.2 5 k = 0) (fun k => σ.2 4 k) j → ∀ (ls : Array Slot), lv_has ls 3 [(2, .int (iI (j : Int))), (1, .int (iI s1)), (0, .ref x)] → W pp l ee (headSpec wsX1_heavy ({ frames := 1, cells := 0, slots := 0, locals := 21 } : Room)).room s m ([.ref x] : List Value).toArray below meth c s.heap [] 0 0 (MQ below (vp_Si (fun r => r = iI (hea σ))) ([.ref x] : List Value).toArray s 0 0 (fun _ => False)) (F0 m 4 ls []) := by
    intro r4
    induction r4 with
    | zero => intro j s1 hv4_0 hv4_1; exfalso; omega
    | succ r4 ih4 =>
      intro j s1 hv4_0 hv4_1 hv4_2 ls hl
      have f_1 := arg_bd (fun k => σ.2 5 k = 0) (fun k => σ.2 4 k) j
      have f_2 := hI.r5 j
      refine lv_iload_n hx hb dX1_heavy_4 rfl (lv_at hl 0 rfl) ?_
      refine lv_aload_n hx hb dX1_heavy_5 rfl (lv_at hl 2 rfl) ?_
      refine m_get (v := .int (iI (σ.1 1 : Nat))) hx hb hts hin0 hown hK hP 0 rfl 6 (by decide) w_0 rfl dX1_heavy_6 ?_
      refine z_icmp_ge (tgt := 48) hx hb dX1_heavy_9 (by decide) (by omega) (by omega) (fun c_3 => ?_) (fun c_3 => ?_)
      ·
        refine lv_iload_n hx hb dX1_heavy_48 rfl (lv_at hl 1 rfl) ?_
        refine z_re (v' := iI (hea σ)) (congrArg iI (by rw [hv4_2, show j = σ.1 1 from by omega]; rfl)) ?_
        exact W.iret hx hb hr (fun t ht _ => ⟨_, rfl, rfl, ht⟩) (fun q hq => absurd hq List.not_mem_nil) dX1_heavy_49
      ·
        refine lv_aload_n hx hb dX1_heavy_12 rfl (lv_at hl 2 rfl) ?_
        refine lv_iload_n hx hb dX1_heavy_13 rfl (lv_at hl 0 rfl) ?_
        refine zc_i (va_runV (As := [.int (iI (j : Int))]) (rest := []) ⟨hx, hb, hml, hown, hts⟩ (c_X1_isOpen l G x a σ t j (by omega) (by omega)) (cwV 1 hts gX1_heavy_X1_isOpen rfl rfl rfl (by decide +kernel) ⟨Nat.le_of_ble_eq_true rfl, Nat.le_of_ble_eq_true rfl⟩) (preVM hK hP) rfl rfl hl.1 rfl (lv_room (Nat.le_of_ble_eq_true rfl)) dX1_heavy_14 ⟨Nat.le_of_ble_eq_true rfl, Nat.le_of_ble_eq_true rfl⟩) ?_
        have f_4 := opn_or σ j
        refine z_if_eq (tgt := 42) hx hb dX1_heavy_17 (by decide) (by omega) (fun c_5 => ?_) (fun c_5 => ?_)
        ·
          refine lv_iinc (v := iI ((j : Int) + 1)) (lv' := [(2, .int (iI ((j : Int) + 1))), (1, .int (iI s1)), (0, .ref x)]) hx hb dX1_heavy_42 hl (k := 0) rfl (iI_add _ _) (by decide) rfl (fun ls hl => ?_)
          refine lv_goto (tgt := 4) hx hb dX1_heavy_45 (by decide) ?_
          exact ih4 (j + 1) s1 (by omega) (by omega) (by rw [arg_s, ← hv4_2]; split <;> omega) ls (lv_sub hl [0, 1, 2] rfl)
        ·
          refine lv_iload_n hx hb dX1_heavy_20 rfl (lv_at hl 1 rfl) ?_
          refine lv_iconst (v := iI (-1)) hx hb dX1_heavy_21 rfl ?_
          refine z_icmp_eq (tgt := 40) hx hb dX1_heavy_22 (by decide) (by omega) (by omega) (fun c_6 => ?_) (fun c_6 => ?_)
          ·
            refine lv_iload_n hx hb dX1_heavy_40 rfl (lv_at hl 0 rfl) ?_
            refine lv_istore_n (lv' := [(1, .int (iI (j : Int))), (2, .int (iI (j : Int))), (0, .ref x)]) hx hb dX1_heavy_41 rfl hl (by decide) rfl (fun ls hl => ?_)
            refine lv_iinc (v := iI ((j : Int) + 1)) (lv' := [(2, .int (iI ((j : Int) + 1))), (1, .int (iI (j : Int))), (0, .ref x)]) hx hb dX1_heavy_42 hl (k := 1) rfl (iI_add _ _) (by decide) rfl (fun ls hl => ?_)
            refine lv_goto (tgt := 4) hx hb dX1_heavy_45 (by decide) ?_
            exact ih4 (j + 1) (j : Int) (by omega) (by omega) (by rw [arg_s, ← hv4_2]; split <;> omega) ls (lv_sub hl [0, 1, 2] rfl)
          ·
            refine lv_aload_n hx hb dX1_heavy_25 rfl (lv_at hl 2 rfl) ?_
            refine m_get (v := .ref (a 4)) hx hb hts hin0 hown hK hP 0 rfl 9 (by decide) w_1 rfl dX1_heavy_26 ?_
            refine lv_iload_n hx hb dX1_heavy_29 rfl (lv_at hl 0 rfl) ?_
            refine z_iald (v := iI (σ.2 4 j)) hx hb hK hP 5 0 rfl rfl (k := j) (by omega) (by decide) rfl dX1_heavy_30 ?_
            have f_7 := hI.r4 j
            refine lv_aload_n hx hb dX1_heavy_31 rfl (lv_at hl 2 rfl) ?_
            refine m_get (v := .ref (a 4)) hx hb hts hin0 hown hK hP 0 rfl 9 (by decide) w_1 rfl dX1_heavy_32 ?_
            refine lv_iload_n hx hb dX1_heavy_35 rfl (lv_at hl 1 rfl) ?_
            refine z_re (v' := iI (((s1).toNat : Nat) : Int)) (congrArg iI (by omega)) ?_
            refine z_iald (v := iI (σ.2 4 ((s1).toNat))) hx hb hK hP 5 0 rfl rfl (k := (s1).toNat) (by omega) (by decide) rfl dX1_heavy_36 ?_
            have f_8 := hI.r4 ((s1).toNat)
            refine z_icmp_le (tgt := 42) hx hb dX1_heavy_37 (by decide) (by omega) (by omega) (fun c_9 => ?_) (fun c_9 => ?_)
            ·
              refine lv_iinc (v := iI ((j : Int) + 1)) (lv' := [(2, .int (iI ((j : Int) + 1))), (1, .int (iI s1)), (0, .ref x)]) hx hb dX1_heavy_42 hl (k := 0) rfl (iI_add _ _) (by decide) rfl (fun ls hl => ?_)
              refine lv_goto (tgt := 4) hx hb dX1_heavy_45 (by decide) ?_
              exact ih4 (j + 1) s1 (by omega) (by omega) (by rw [arg_s, ← hv4_2]; split <;> omega) ls (lv_sub hl [0, 1, 2] rfl)
            ·
              refine lv_iload_n hx hb dX1_heavy_40 rfl (lv_at hl 0 rfl) ?_
              refine lv_istore_n (lv' := [(1, .int (iI (j : Int))), (2, .int (iI (j : Int))), (0, .ref x)]) hx hb dX1_heavy_41 rfl hl (by decide) rfl (fun ls hl => ?_)
              refine lv_iinc (v := iI ((j : Int) + 1)) (lv' := [(2, .int (iI ((j : Int) + 1))), (1, .int (iI (j : Int))), (0, .ref x)]) hx hb dX1_heavy_42 hl (k := 1) rfl (iI_add _ _) (by decide) rfl (fun ls hl => ?_)
              refine lv_goto (tgt := 4) hx hb dX1_heavy_45 (by decide) ?_
              exact ih4 (j + 1) (j : Int) (by omega) (by omega) (by rw [arg_s, ← hv4_2]; split <;> omega) ls (lv_sub hl [0, 1, 2] rfl)
  exact LP4 (σ.1 1 - (0) + 1) 0 (-1) (by omega) (by omega) (by rfl) ls (lv_sub hl [0, 1, 2] rfl)
set_option maxHeartbeats 4000000 in
set_option maxRecDepth 100000 in
theorem c_X1_pairs (l : Launch) (G : zG) (x : Nat) (a : Nat → Nat) (B : Nat) (σ : zS) (t : Nat) (hI : zI B σ) : Met l yX1_pairs wsX1_pairs ({ frames := 2, cells := 0, slots := 0, locals := 43 } : Room) (va_Pc [.ref x] (pM G x a t σ)) (vp_Si (fun r => r = iI (pai σ))) 0 0 (fun _ => False) := by
  refine Met.ofW (cc := cX1_pairs) (maxL := 4) (ret := (some .int)) (by decide) rfl ?_
  intro pp ee s m args below meth c s₁ B9 hml hv
  obtain ⟨rfl, hP, hK⟩ := hv
  have hx := B9.exec
  have hb := B9.bytes
  have hr := B9.returns
  have hts := atoms_spec (ws := wsX1_pairs) B9.pre
  have hown : s.vm.findClass RX1 = some m.cls := findClass_of_methodNamed B9.named
  have hlocks := B9.notSynchronized
  have hin0 : ∀ w ∈ wsX10, w ∈ wsX1_pairs := by decide +kernel
  have w_0 := hts (.fieldLink RX1 46 "ApologyLedgerModel" "slights" "I") (by decide +kernel)
  have hl := lv_entry ([.ref x]) (n := 4) (Nat.le_of_ble_eq_true rfl)
  rw [lg_entry_eq]
  generalize (lg_sl ([.ref x]) ++ List.replicate (4 - (lg_sl ([.ref x])).length) Slot.unset).toArray = ls at hl ⊢
  have hl : lv_has ls 4 [(0, .ref x)] := hl
  have hIn := hI.n
  have hIb := hI.b
  refine lv_iconst (v := iI 0) hx hb dX1_pairs_0 rfl ?_
  refine lv_istore_n (lv' := [(1, .int (iI 0)), (0, .ref x)]) hx hb dX1_pairs_1 rfl hl (by decide) rfl (fun ls hl => ?_)
  refine lv_iconst (v := iI 0) hx hb dX1_pairs_2 rfl ?_
  refine lv_istore_n (lv' := [(2, .int (iI 0)), (1, .int (iI 0)), (0, .ref x)]) hx hb dX1_pairs_3 rfl hl (by decide) rfl (fun ls hl => ?_)
  have LP4 : ∀ (r4 : Nat) (j : Nat) (s1 : Int), j ≤ σ.1 1 → σ.1 1 - j < r4 → s1 = zs (fun k => zs (fun o => pq σ k o) k) j → ∀ (ls : Array Slot), lv_has ls 4 [(2, .int (iI (j : Int))), (1, .int (iI s1)), (0, .ref x)] → W pp l ee (headSpec wsX1_pairs ({ frames := 2, cells := 0, slots := 0, locals := 43 } : Room)).room s m ([.ref x] : List Value).toArray below meth c s.heap [] 0 0 (MQ below (vp_Si (fun r => r = iI (pai σ))) ([.ref x] : List Value).toArray s 0 0 (fun _ => False)) (F0 m 4 ls []) := by
    intro r4
    induction r4 with
    | zero => intro j s1 hv4_0 hv4_1; exfalso; omega
    | succ r4 ih4 =>
      intro j s1 hv4_0 hv4_1 hv4_2 ls hl
      refine lv_iload_n hx hb dX1_pairs_4 rfl (lv_at hl 0 rfl) ?_
      refine lv_aload_n hx hb dX1_pairs_5 rfl (lv_at hl 2 rfl) ?_
      refine m_get (v := .int (iI (σ.1 1 : Nat))) hx hb hts hin0 hown hK hP 0 rfl 6 (by decide) w_0 rfl dX1_pairs_6 ?_
      refine z_icmp_ge (tgt := 48) hx hb dX1_pairs_9 (by decide) (by omega) (by omega) (fun c_1 => ?_) (fun c_1 => ?_)
      ·
        refine lv_iload_n hx hb dX1_pairs_48 rfl (lv_at hl 1 rfl) ?_
        refine z_re (v' := iI (pai σ)) (congrArg iI (by rw [hv4_2, show j = σ.1 1 from by omega]; rfl)) ?_
        exact W.iret hx hb hr (fun t ht _ => ⟨_, rfl, rfl, ht⟩) (fun q hq => absurd hq List.not_mem_nil) dX1_pairs_49
      ·
        refine lv_iconst (v := iI 0) hx hb dX1_pairs_12 rfl ?_
        refine lv_istore_n (lv' := [(3, .int (iI 0)), (2, .int (iI (j : Int))), (1, .int (iI s1)), (0, .ref x)]) hx hb dX1_pairs_13 rfl hl (by decide) rfl (fun ls hl => ?_)
        have LP14 : ∀ (r14 : Nat) (i : Nat) (s2 : Int), i ≤ j → j - i < r14 → s2 = s1 + zs (fun o => pq σ j o) i → ∀ (ls : Array Slot), lv_has ls 4 [(3, .int (iI (i : Int))), (2, .int (iI (j : Int))), (1, .int (iI s2)), (0, .ref x)] → W pp l ee (headSpec wsX1_pairs ({ frames := 2, cells := 0, slots := 0, locals := 43 } : Room)).room s m ([.ref x] : List Value).toArray below meth c s.heap [] 0 0 (MQ below (vp_Si (fun r => r = iI (pai σ))) ([.ref x] : List Value).toArray s 0 0 (fun _ => False)) (F0 m 14 ls []) := by
          intro r14
          induction r14 with
          | zero => intro i s2 hv14_0 hv14_1; exfalso; omega
          | succ r14 ih14 =>
            intro i s2 hv14_0 hv14_1 hv14_2 ls hl
            refine lv_iload_n hx hb dX1_pairs_14 rfl (lv_at hl 0 rfl) ?_
            refine lv_iload_n hx hb dX1_pairs_15 rfl (lv_at hl 1 rfl) ?_
            refine z_icmp_ge (tgt := 42) hx hb dX1_pairs_16 (by decide) (by omega) (by omega) (fun c_2 => ?_) (fun c_2 => ?_)
            ·
              refine lv_iinc (v := iI ((j : Int) + 1)) (lv' := [(2, .int (iI ((j : Int) + 1))), (3, .int (iI (i : Int))), (1, .int (iI s2)), (0, .ref x)]) hx hb dX1_pairs_42 hl (k := 1) rfl (iI_add _ _) (by decide) rfl (fun ls hl => ?_)
              refine lv_goto (tgt := 4) hx hb dX1_pairs_45 (by decide) ?_
              exact ih4 (j + 1) s2 (by omega) (by omega) (by rw [zs_s, ← hv4_2, hv14_2, show i = j from by omega]) ls (lv_sub hl [0, 2, 3] rfl)
            ·
              refine lv_iload_n hx hb dX1_pairs_19 rfl (lv_at hl 2 rfl) ?_
              refine lv_aload_n hx hb dX1_pairs_20 rfl (lv_at hl 3 rfl) ?_
              refine lv_iload_n hx hb dX1_pairs_21 rfl (lv_at hl 1 rfl) ?_
              refine lv_iload_n hx hb dX1_pairs_22 rfl (lv_at hl 0 rfl) ?_
              refine zc_i (va_runV (As := [.int (iI (j : Int)), .int (iI (i : Int))]) (rest := [.int (iI s2)]) ⟨hx, hb, hml, hown, hts⟩ (c_X1_areOpposite l G x a B σ t j i hI (by omega) (by omega)) (cwV 2 hts gX1_pairs_X1_areOpposite rfl rfl rfl (by decide +kernel) ⟨Nat.le_of_ble_eq_true rfl, Nat.le_of_ble_eq_true rfl⟩) (preVM hK hP) rfl rfl hl.1 rfl (lv_room (Nat.le_of_ble_eq_true rfl)) dX1_pairs_23 ⟨Nat.le_of_ble_eq_true rfl, Nat.le_of_ble_eq_true rfl⟩) ?_
              have f_3 := pq_or σ j i
              refine z_if_eq (tgt := 33) hx hb dX1_pairs_26 (by decide) (by omega) (fun c_4 => ?_) (fun c_4 => ?_)
              ·
                refine lv_iconst (v := iI 0) hx hb dX1_pairs_33 rfl ?_
                refine z_iadd hx hb dX1_pairs_34 ?_
                refine lv_istore_n (lv' := [(1, .int (iI (s2 + 0))), (3, .int (iI (i : Int))), (2, .int (iI (j : Int))), (0, .ref x)]) hx hb dX1_pairs_35 rfl hl (by decide) rfl (fun ls hl => ?_)
                refine lv_iinc (v := iI ((i : Int) + 1)) (lv' := [(3, .int (iI ((i : Int) + 1))), (1, .int (iI (s2 + 0))), (2, .int (iI (j : Int))), (0, .ref x)]) hx hb dX1_pairs_36 hl (k := 1) rfl (iI_add _ _) (by decide) rfl (fun ls hl => ?_)
                refine lv_goto (tgt := 14) hx hb dX1_pairs_39 (by decide) ?_
                exact ih14 (i + 1) (s2 + 0) (by omega) (by omega) (by rw [zs_s, hv14_2]; (try dsimp only); omega) ls (lv_sub hl [0, 2, 1, 3] rfl)
              ·
                refine lv_iconst (v := iI 1) hx hb dX1_pairs_29 rfl ?_
                refine lv_goto (tgt := 34) hx hb dX1_pairs_30 (by decide) ?_
                refine z_iadd hx hb dX1_pairs_34 ?_
                refine lv_istore_n (lv' := [(1, .int (iI (s2 + 1))), (3, .int (iI (i : Int))), (2, .int (iI (j : Int))), (0, .ref x)]) hx hb dX1_pairs_35 rfl hl (by decide) rfl (fun ls hl => ?_)
                refine lv_iinc (v := iI ((i : Int) + 1)) (lv' := [(3, .int (iI ((i : Int) + 1))), (1, .int (iI (s2 + 1))), (2, .int (iI (j : Int))), (0, .ref x)]) hx hb dX1_pairs_36 hl (k := 1) rfl (iI_add _ _) (by decide) rfl (fun ls hl => ?_)
                refine lv_goto (tgt := 14) hx hb dX1_pairs_39 (by decide) ?_
                exact ih14 (i + 1) (s2 + 1) (by omega) (by omega) (by rw [zs_s, hv14_2]; (try dsimp only); omega) ls (lv_sub hl [0, 2, 1, 3] rfl)
        exact LP14 (j - (0) + 1) 0 s1 (by omega) (by omega) (by simp [zs]) ls (lv_sub hl [0, 1, 2, 3] rfl)
  exact LP4 (σ.1 1 - (0) + 1) 0 0 (by omega) (by omega) (by rfl) ls (lv_sub hl [0, 1, 2] rfl)
set_option maxHeartbeats 4000000 in
set_option maxRecDepth 100000 in
theorem c_X1_wanted (l : Launch) (G : zG) (x : Nat) (a : Nat → Nat) (B : Nat) (σ : zS) (t : Nat) (k : Nat) (hI : zI B σ) (hk : k < σ.1 1) : Met l yX1_wanted wsX1_wanted ({ frames := 1, cells := 0, slots := 0, locals := 24 } : Room) (va_Pc [.ref x, .int (iI (k : Int))] (pM G x a t σ)) (vp_Si (fun r => r = iI (wan σ k))) 0 0 (fun _ => False) := by
  refine Met.ofW (cc := cX1_wanted) (maxL := 3) (ret := (some .int)) (by decide) rfl ?_
  intro pp ee s m args below meth c s₁ B9 hml hv
  obtain ⟨rfl, hP, hK⟩ := hv
  have hx := B9.exec
  have hb := B9.bytes
  have hr := B9.returns
  have hts := atoms_spec (ws := wsX1_wanted) B9.pre
  have hown : s.vm.findClass RX1 = some m.cls := findClass_of_methodNamed B9.named
  have hlocks := B9.notSynchronized
  have hin0 : ∀ w ∈ wsX10, w ∈ wsX1_wanted := by decide +kernel
  have w_0 := hts (.fieldLink RX1 23 "ApologyLedgerModel" "weight" "[I") (by decide +kernel)
  have w_1 := hts (.fieldLink RX1 9 "ApologyLedgerModel" "pride" "[I") (by decide +kernel)
  have w_2 := hts (.fieldLink RX1 20 "ApologyLedgerModel" "against" "[I") (by decide +kernel)
  have w_3 := hts (.methodLink RX1 55 Lib.Math.max.name) (by decide +kernel)
  have w_4 := hts (.static Lib.Math.max.name) (by decide +kernel)
  have w_5 := hts (.initialized "java/lang/Math") (by decide +kernel)
  have w_6 := hts (.code Lib.Math.max.name Lib.Math.max.code 2 (some .int)) (by decide +kernel)
  have hl := lv_entry ([.ref x, .int (iI (k : Int))]) (n := 3) (Nat.le_of_ble_eq_true rfl)
  rw [lg_entry_eq]
  generalize (lg_sl ([.ref x, .int (iI (k : Int))]) ++ List.replicate (3 - (lg_sl ([.ref x, .int (iI (k : Int))])).length) Slot.unset).toArray = ls at hl ⊢
  have hl : lv_has ls 3 [(0, .ref x), (1, .int (iI (k : Int)))] := hl
  have hIn := hI.n
  have hIb := hI.b
  have g5 := hI.r5 k
  refine lv_aload_n hx hb dX1_wanted_0 rfl (lv_at hl 0 rfl) ?_
  refine lv_iload_n hx hb dX1_wanted_1 rfl (lv_at hl 1 rfl) ?_
  refine zc_i (va_runV (As := [.int (iI (k : Int))]) (rest := []) ⟨hx, hb, hml, hown, hts⟩ (c_X1_isOpen l G x a σ t k (by omega) (by omega)) (cwV 1 hts gX1_wanted_X1_isOpen rfl rfl rfl (by decide +kernel) ⟨Nat.le_of_ble_eq_true rfl, Nat.le_of_ble_eq_true rfl⟩) (preVM hK hP) rfl rfl hl.1 rfl (lv_room (Nat.le_of_ble_eq_true rfl)) dX1_wanted_2 ⟨Nat.le_of_ble_eq_true rfl, Nat.le_of_ble_eq_true rfl⟩) ?_
  have f_1 := opn_or σ k
  refine z_if_ne (tgt := 10) hx hb dX1_wanted_5 (by decide) (by omega) (fun c_2 => ?_) (fun c_2 => ?_)
  ·
    refine lv_iconst (v := iI 1) hx hb dX1_wanted_10 rfl ?_
    refine lv_aload_n hx hb dX1_wanted_11 rfl (lv_at hl 0 rfl) ?_
    refine m_get (v := .ref (a 4)) hx hb hts hin0 hown hK hP 0 rfl 9 (by decide) w_0 rfl dX1_wanted_12 ?_
    refine lv_iload_n hx hb dX1_wanted_15 rfl (lv_at hl 1 rfl) ?_
    refine z_iald (v := iI (σ.2 4 k)) hx hb hK hP 5 0 rfl rfl (k := k) (by omega) (by decide) rfl dX1_wanted_16 ?_
    have f_3 := hI.r4 k
    refine lv_aload_n hx hb dX1_wanted_17 rfl (lv_at hl 0 rfl) ?_
    refine m_get (v := .ref (a 0)) hx hb hts hin0 hown hK hP 0 rfl 4 (by decide) w_1 rfl dX1_wanted_18 ?_
    refine lv_aload_n hx hb dX1_wanted_21 rfl (lv_at hl 0 rfl) ?_
    refine m_get (v := .ref (a 3)) hx hb hts hin0 hown hK hP 0 rfl 8 (by decide) w_2 rfl dX1_wanted_22 ?_
    refine lv_iload_n hx hb dX1_wanted_25 rfl (lv_at hl 1 rfl) ?_
    refine z_iald (v := iI (σ.2 3 k)) hx hb hK hP 4 0 rfl rfl (k := k) (by omega) (by decide) rfl dX1_wanted_26 ?_
    have f_4 := hI.r3 (k := k) (by omega)
    refine z_re (v' := iI (((σ.2 3 k).toNat : Nat) : Int)) (congrArg iI (by omega)) ?_
    refine z_iald (v := iI (σ.2 0 ((σ.2 3 k).toNat))) hx hb hK hP 1 0 rfl rfl (k := (σ.2 3 k).toNat) (by omega) (by decide) rfl dX1_wanted_27 ?_
    have f_5 := hI.r0 ((σ.2 3 k).toNat)
    refine z_max hx hb (by rw [hml]; exact hl.1.symm) hown w_3 w_4 w_5 w_6 (Nat.le_of_ble_eq_true rfl) (Nat.le_of_ble_eq_true rfl) (Nat.le_of_ble_eq_true rfl) (Nat.le_of_ble_eq_true rfl) (by omega) (by omega) dX1_wanted_28 ?_
    refine lv_iconst (v := iI 2) hx hb dX1_wanted_31 rfl ?_
    refine lv_aload_n hx hb dX1_wanted_32 rfl (lv_at hl 0 rfl) ?_
    refine lv_iload_n hx hb dX1_wanted_33 rfl (lv_at hl 1 rfl) ?_
    refine zc_i (va_runV (As := [.int (iI (k : Int))]) (rest := [.int (iI 2), .int (iI (max (σ.2 4 k) (σ.2 0 ((σ.2 3 k).toNat)))), .int (iI 1)]) ⟨hx, hb, hml, hown, hts⟩ (c_X1_witnesses l G x a B σ t k hI (by omega)) (cwV 1 hts gX1_wanted_X1_witnesses rfl rfl rfl (by decide +kernel) ⟨Nat.le_of_ble_eq_true rfl, Nat.le_of_ble_eq_true rfl⟩) (preVM hK hP) rfl rfl hl.1 rfl (lv_room (Nat.le_of_ble_eq_true rfl)) dX1_wanted_34 ⟨Nat.le_of_ble_eq_true rfl, Nat.le_of_ble_eq_true rfl⟩) ?_
    have f_6 := wit_bd hI k
    refine z_imul hx hb dX1_wanted_37 ?_
    refine z_isub hx hb dX1_wanted_38 ?_
    refine z_max hx hb (by rw [hml]; exact hl.1.symm) hown w_3 w_4 w_5 w_6 (Nat.le_of_ble_eq_true rfl) (Nat.le_of_ble_eq_true rfl) (Nat.le_of_ble_eq_true rfl) (Nat.le_of_ble_eq_true rfl) (by omega) (by omega) dX1_wanted_39 ?_
    refine lv_istore_n (lv' := [(2, .int (iI (max 1 ((max (σ.2 4 k) (σ.2 0 ((σ.2 3 k).toNat))) - (2 * (wit σ k)))))), (0, .ref x), (1, .int (iI (k : Int)))]) hx hb dX1_wanted_42 rfl hl (by decide) rfl (fun ls hl => ?_)
    refine lv_iload_n hx hb dX1_wanted_43 rfl (lv_at hl 0 rfl) ?_
    refine lv_bipush (v := iI 20) hx hb dX1_wanted_44 (by decide) ?_
    refine z_icmp_le (tgt := 53) hx hb dX1_wanted_46 (by decide) (by omega) (by omega) (fun c_7 => ?_) (fun c_7 => ?_)
    ·
      refine lv_iload_n hx hb dX1_wanted_53 rfl (lv_at hl 0 rfl) ?_
      refine z_re (v' := iI (wan σ k)) (congrArg iI (by unfold wan; split <;> first | omega | (split <;> omega))) ?_
      exact W.iret hx hb hr (fun t ht _ => ⟨_, rfl, rfl, ht⟩) (fun q hq => absurd hq List.not_mem_nil) dX1_wanted_54
    ·
      refine lv_iconst (v := iI (-1)) hx hb dX1_wanted_49 rfl ?_
      refine lv_goto (tgt := 54) hx hb dX1_wanted_50 (by decide) ?_
      refine z_re (v' := iI (wan σ k)) (congrArg iI (by unfold wan; split <;> first | omega | (split <;> omega))) ?_
      exact W.iret hx hb hr (fun t ht _ => ⟨_, rfl, rfl, ht⟩) (fun q hq => absurd hq List.not_mem_nil) dX1_wanted_54
  ·
    refine lv_iconst (v := iI (-1)) hx hb dX1_wanted_8 rfl ?_
    refine z_re (v' := iI (wan σ k)) (congrArg iI (by unfold wan; split <;> first | omega | (split <;> omega))) ?_
    exact W.iret hx hb hr (fun t ht _ => ⟨_, rfl, rfl, ht⟩) (fun q hq => absurd hq List.not_mem_nil) dX1_wanted_9
set_option maxHeartbeats 4000000 in
set_option maxRecDepth 100000 in
theorem c_X1_until (l : Launch) (G : zG) (x : Nat) (a : Nat → Nat) (B : Nat) (σ : zS) (t : Nat) (k : Nat) (hI : zI B σ) (hk : k < σ.1 1) : Met l yX1_until wsX1_until ({ frames := 1, cells := 0, slots := 0, locals := 21 } : Room) (va_Pc [.ref x, .int (iI (k : Int))] (pM G x a t σ)) (vp_Si (fun r => r = iI (unt σ k))) 0 0 (fun _ => False) := by
  refine Met.ofW (cc := cX1_until) (maxL := 2) (ret := (some .int)) (by decide) rfl ?_
  intro pp ee s m args below meth c s₁ B9 hml hv
  obtain ⟨rfl, hP, hK⟩ := hv
  have hx := B9.exec
  have hb := B9.bytes
  have hr := B9.returns
  have hts := atoms_spec (ws := wsX1_until) B9.pre
  have hown : s.vm.findClass RX1 = some m.cls := findClass_of_methodNamed B9.named
  have hlocks := B9.notSynchronized
  have hin0 : ∀ w ∈ wsX10, w ∈ wsX1_until := by decide +kernel
  have w_0 := hts (.fieldLink RX1 32 "ApologyLedgerModel" "quiet" "[I") (by decide +kernel)
  have hl := lv_entry ([.ref x, .int (iI (k : Int))]) (n := 2) (Nat.le_of_ble_eq_true rfl)
  rw [lg_entry_eq]
  generalize (lg_sl ([.ref x, .int (iI (k : Int))]) ++ List.replicate (2 - (lg_sl ([.ref x, .int (iI (k : Int))])).length) Slot.unset).toArray = ls at hl ⊢
  have hl : lv_has ls 2 [(0, .ref x), (1, .int (iI (k : Int)))] := hl
  have hIn := hI.n
  have hIb := hI.b
  have g5 := hI.r5 k
  refine lv_aload_n hx hb dX1_until_0 rfl (lv_at hl 0 rfl) ?_
  refine lv_iload_n hx hb dX1_until_1 rfl (lv_at hl 1 rfl) ?_
  refine zc_i (va_runV (As := [.int (iI (k : Int))]) (rest := []) ⟨hx, hb, hml, hown, hts⟩ (c_X1_isOpen l G x a σ t k (by omega) (by omega)) (cwV 1 hts gX1_until_X1_isOpen rfl rfl rfl (by decide +kernel) ⟨Nat.le_of_ble_eq_true rfl, Nat.le_of_ble_eq_true rfl⟩) (preVM hK hP) rfl rfl hl.1 rfl (lv_room (Nat.le_of_ble_eq_true rfl)) dX1_until_2 ⟨Nat.le_of_ble_eq_true rfl, Nat.le_of_ble_eq_true rfl⟩) ?_
  have f_1 := opn_or σ k
  refine z_if_eq (tgt := 20) hx hb dX1_until_5 (by decide) (by omega) (fun c_2 => ?_) (fun c_2 => ?_)
  ·
    refine lv_iconst (v := iI (-1)) hx hb dX1_until_20 rfl ?_
    refine z_re (v' := iI (unt σ k)) (congrArg iI (by unfold unt; split <;> omega)) ?_
    exact W.iret hx hb hr (fun t ht _ => ⟨_, rfl, rfl, ht⟩) (fun q hq => absurd hq List.not_mem_nil) dX1_until_21
  ·
    refine lv_bipush (v := iI 30) hx hb dX1_until_8 (by decide) ?_
    refine lv_aload_n hx hb dX1_until_10 rfl (lv_at hl 0 rfl) ?_
    refine m_get (v := .ref (a 7)) hx hb hts hin0 hown hK hP 0 rfl 12 (by decide) w_0 rfl dX1_until_11 ?_
    refine lv_iload_n hx hb dX1_until_14 rfl (lv_at hl 1 rfl) ?_
    refine z_iald (v := iI (σ.2 7 k)) hx hb hK hP 8 0 rfl rfl (k := k) (by omega) (by decide) rfl dX1_until_15 ?_
    have f_3 := hI.r7 k
    refine z_isub hx hb dX1_until_16 ?_
    refine lv_goto (tgt := 21) hx hb dX1_until_17 (by decide) ?_
    refine z_re (v' := iI (unt σ k)) (congrArg iI (by unfold unt; split <;> omega)) ?_
    exact W.iret hx hb hr (fun t ht _ => ⟨_, rfl, rfl, ht⟩) (fun q hq => absurd hq List.not_mem_nil) dX1_until_21
set_option maxHeartbeats 4000000 in
set_option maxRecDepth 100000 in
theorem c_X1_borneThen (l : Launch) (G : zG) (x : Nat) (a : Nat → Nat) (B : Nat) (σ : zS) (t : Nat) (p : Nat) (d : Int) (hI : zI B σ) (hp : p < σ.1 0) (hd : 1 ≤ d ∧ d ≤ 60) : Met l yX1_borneThen wsX1_borneThen ({ frames := 3, cells := 0, slots := 0, locals := 68 } : Room) (va_Pc [.ref x, .int (iI (p : Int)), .int (iI d)] (pM G x a t σ)) (vp_Si (fun r => r = iI (bth σ (p : Int) d))) 0 0 (fun _ => False) := by
  refine Met.ofW (cc := cX1_borneThen) (maxL := 5) (ret := (some .int)) (by decide) rfl ?_
  intro pp ee s m args below meth c s₁ B9 hml hv
  obtain ⟨rfl, hP, hK⟩ := hv
  have hx := B9.exec
  have hb := B9.bytes
  have hr := B9.returns
  have hts := atoms_spec (ws := wsX1_borneThen) B9.pre
  have hown : s.vm.findClass RX1 = some m.cls := findClass_of_methodNamed B9.named
  have hlocks := B9.notSynchronized
  have hin0 : ∀ w ∈ wsX10, w ∈ wsX1_borneThen := by decide +kernel
  have w_0 := hts (.fieldLink RX1 46 "ApologyLedgerModel" "slights" "I") (by decide +kernel)
  have w_1 := hts (.fieldLink RX1 20 "ApologyLedgerModel" "against" "[I") (by decide +kernel)
  have hl := lv_entry ([.ref x, .int (iI (p : Int)), .int (iI d)]) (n := 5) (Nat.le_of_ble_eq_true rfl)
  rw [lg_entry_eq]
  generalize (lg_sl ([.ref x, .int (iI (p : Int)), .int (iI d)]) ++ List.replicate (5 - (lg_sl ([.ref x, .int (iI (p : Int)), .int (iI d)])).length) Slot.unset).toArray = ls at hl ⊢
  have hl : lv_has ls 5 [(0, .ref x), (1, .int (iI (p : Int))), (2, .int (iI d))] := hl
  have hIn := hI.n
  have hIb := hI.b
  refine lv_iconst (v := iI 0) hx hb dX1_borneThen_0 rfl ?_
  refine lv_istore_n (lv' := [(3, .int (iI 0)), (0, .ref x), (1, .int (iI (p : Int))), (2, .int (iI d))]) hx hb dX1_borneThen_1 rfl hl (by decide) rfl (fun ls hl => ?_)
  refine lv_iconst (v := iI 0) hx hb dX1_borneThen_2 rfl ?_
  refine lv_istore (lv' := [(4, .int (iI 0)), (3, .int (iI 0)), (0, .ref x), (1, .int (iI (p : Int))), (2, .int (iI d))]) hx hb dX1_borneThen_3 hl (by decide) rfl (fun ls hl => ?_)
  have LP5 : ∀ (r5 : Nat) (j : Nat) (s1 : Int), j ≤ σ.1 1 → σ.1 1 - j < r5 → s1 = zs (fun k => if σ.2 3 k = (p : Int) then lat σ k d else 0) j → ∀ (ls : Array Slot), lv_has ls 5 [(4, .int (iI (j : Int))), (3, .int (iI s1)), (0, .ref x), (1, .int (iI (p : Int))), (2, .int (iI d))] → W pp l ee (headSpec wsX1_borneThen ({ frames := 3, cells := 0, slots := 0, locals := 68 } : Room)).room s m ([.ref x, .int (iI (p : Int)), .int (iI d)] : List Value).toArray below meth c s.heap [] 0 0 (MQ below (vp_Si (fun r => r = iI (bth σ (p : Int) d))) ([.ref x, .int (iI (p : Int)), .int (iI d)] : List Value).toArray s 0 0 (fun _ => False)) (F0 m 5 ls []) := by
    intro r5
    induction r5 with
    | zero => intro j s1 hv5_0 hv5_1; exfalso; omega
    | succ r5 ih5 =>
      intro j s1 hv5_0 hv5_1 hv5_2 ls hl
      have f_1 := hI.r4 j
      have f_2 := hI.r5 j
      have f_3 := hI.r6 j
      have f_4 := hI.r7 j
      refine lv_iload hx hb dX1_borneThen_5 (lv_at hl 0 rfl) ?_
      refine lv_aload_n hx hb dX1_borneThen_7 rfl (lv_at hl 2 rfl) ?_
      refine m_get (v := .int (iI (σ.1 1 : Nat))) hx hb hts hin0 hown hK hP 0 rfl 6 (by decide) w_0 rfl dX1_borneThen_8 ?_
      refine z_icmp_ge (tgt := 45) hx hb dX1_borneThen_11 (by decide) (by omega) (by omega) (fun c_5 => ?_) (fun c_5 => ?_)
      ·
        refine lv_iload_n hx hb dX1_borneThen_45 rfl (lv_at hl 1 rfl) ?_
        refine z_re (v' := iI (bth σ (p : Int) d)) (congrArg iI (by rw [hv5_2, show j = σ.1 1 from by omega]; rfl)) ?_
        exact W.iret hx hb hr (fun t ht _ => ⟨_, rfl, rfl, ht⟩) (fun q hq => absurd hq List.not_mem_nil) dX1_borneThen_46
      ·
        refine lv_iload_n hx hb dX1_borneThen_14 rfl (lv_at hl 1 rfl) ?_
        refine lv_aload_n hx hb dX1_borneThen_15 rfl (lv_at hl 2 rfl) ?_
        refine m_get (v := .ref (a 3)) hx hb hts hin0 hown hK hP 0 rfl 8 (by decide) w_1 rfl dX1_borneThen_16 ?_
        refine lv_iload hx hb dX1_borneThen_19 (lv_at hl 0 rfl) ?_
        refine z_iald (v := iI (σ.2 3 j)) hx hb hK hP 4 0 rfl rfl (k := j) (by omega) (by decide) rfl dX1_borneThen_21 ?_
        have f_6 := hI.r3 (k := j) (by omega)
        refine lv_iload_n hx hb dX1_borneThen_22 rfl (lv_at hl 3 rfl) ?_
        refine z_icmp_ne (tgt := 36) hx hb dX1_borneThen_23 (by decide) (by omega) (by omega) (fun c_7 => ?_) (fun c_7 => ?_)
        ·
          refine lv_iconst (v := iI 0) hx hb dX1_borneThen_36 rfl ?_
          refine z_iadd hx hb dX1_borneThen_37 ?_
          refine lv_istore_n (lv' := [(3, .int (iI (s1 + 0))), (4, .int (iI (j : Int))), (0, .ref x), (1, .int (iI (p : Int))), (2, .int (iI d))]) hx hb dX1_borneThen_38 rfl hl (by decide) rfl (fun ls hl => ?_)
          refine lv_iinc (v := iI ((j : Int) + 1)) (lv' := [(4, .int (iI ((j : Int) + 1))), (3, .int (iI (s1 + 0))), (0, .ref x), (1, .int (iI (p : Int))), (2, .int (iI d))]) hx hb dX1_borneThen_39 hl (k := 1) rfl (iI_add _ _) (by decide) rfl (fun ls hl => ?_)
          refine lv_goto (tgt := 5) hx hb dX1_borneThen_42 (by decide) ?_
          exact ih5 (j + 1) (s1 + 0) (by omega) (by omega) (by rw [zs_s, ← hv5_2]; (try dsimp only); split <;> omega) ls (lv_sub hl [0, 1, 2, 3, 4] rfl)
        ·
          refine lv_aload_n hx hb dX1_borneThen_26 rfl (lv_at hl 2 rfl) ?_
          refine lv_iload hx hb dX1_borneThen_27 (lv_at hl 0 rfl) ?_
          refine lv_iload_n hx hb dX1_borneThen_29 rfl (lv_at hl 4 rfl) ?_
          refine zc_i (va_runV (As := [.int (iI (j : Int)), .int (iI d)]) (rest := [.int (iI s1)]) ⟨hx, hb, hml, hown, hts⟩ (c_X1_later l G x a σ t j d (by omega) (by omega) (by omega) (by omega) (by omega) (by omega)) (cwV 2 hts gX1_borneThen_X1_later rfl rfl rfl (by decide +kernel) ⟨Nat.le_of_ble_eq_true rfl, Nat.le_of_ble_eq_true rfl⟩) (preVM hK hP) rfl rfl hl.1 rfl (lv_room (Nat.le_of_ble_eq_true rfl)) dX1_borneThen_30 ⟨Nat.le_of_ble_eq_true rfl, Nat.le_of_ble_eq_true rfl⟩) ?_
          have f_8 := @lat_b0 σ j d (by omega)
          refine lv_goto (tgt := 37) hx hb dX1_borneThen_33 (by decide) ?_
          refine z_iadd hx hb dX1_borneThen_37 ?_
          refine lv_istore_n (lv' := [(3, .int (iI (s1 + (lat σ j d)))), (4, .int (iI (j : Int))), (0, .ref x), (1, .int (iI (p : Int))), (2, .int (iI d))]) hx hb dX1_borneThen_38 rfl hl (by decide) rfl (fun ls hl => ?_)
          refine lv_iinc (v := iI ((j : Int) + 1)) (lv' := [(4, .int (iI ((j : Int) + 1))), (3, .int (iI (s1 + (lat σ j d)))), (0, .ref x), (1, .int (iI (p : Int))), (2, .int (iI d))]) hx hb dX1_borneThen_39 hl (k := 1) rfl (iI_add _ _) (by decide) rfl (fun ls hl => ?_)
          refine lv_goto (tgt := 5) hx hb dX1_borneThen_42 (by decide) ?_
          exact ih5 (j + 1) (s1 + (lat σ j d)) (by omega) (by omega) (by rw [zs_s, ← hv5_2]; (try dsimp only); split <;> omega) ls (lv_sub hl [0, 1, 2, 3, 4] rfl)
  exact LP5 (σ.1 1 - (0) + 1) 0 0 (by omega) (by omega) (by rfl) ls (lv_sub hl [0, 1, 2, 3, 4] rfl)
set_option maxHeartbeats 4000000 in
set_option maxRecDepth 100000 in
theorem c_X1_worst (l : Launch) (G : zG) (x : Nat) (a : Nat → Nat) (B : Nat) (σ : zS) (t : Nat) (p : Nat) (hI : zI B σ) (hp : p < σ.1 0) : Met l yX1_worst wsX1_worst ({ frames := 3, cells := 0, slots := 0, locals := 68 } : Room) (va_Pc [.ref x, .int (iI (p : Int))] (pM G x a t σ)) (vp_Si (fun r => r = iI (wor σ (p : Int)))) 0 0 (fun _ => False) := by
  refine Met.ofW (cc := cX1_worst) (maxL := 6) (ret := (some .int)) (by decide) rfl ?_
  intro pp ee s m args below meth c s₁ B9 hml hv
  obtain ⟨rfl, hP, hK⟩ := hv
  have hx := B9.exec
  have hb := B9.bytes
  have hr := B9.returns
  have hts := atoms_spec (ws := wsX1_worst) B9.pre
  have hown : s.vm.findClass RX1 = some m.cls := findClass_of_methodNamed B9.named
  have hlocks := B9.notSynchronized
  have hin0 : ∀ w ∈ wsX10, w ∈ wsX1_worst := by decide +kernel
  have w_0 := hts (.fieldLink RX1 46 "ApologyLedgerModel" "slights" "I") (by decide +kernel)
  have w_1 := hts (.fieldLink RX1 17 "ApologyLedgerModel" "by" "[I") (by decide +kernel)
  have w_2 := hts (.fieldLink RX1 23 "ApologyLedgerModel" "weight" "[I") (by decide +kernel)
  have hl := lv_entry ([.ref x, .int (iI (p : Int))]) (n := 6) (Nat.le_of_ble_eq_true rfl)
  rw [lg_entry_eq]
  generalize (lg_sl ([.ref x, .int (iI (p : Int))]) ++ List.replicate (6 - (lg_sl ([.ref x, .int (iI (p : Int))])).length) Slot.unset).toArray = ls at hl ⊢
  have hl : lv_has ls 6 [(0, .ref x), (1, .int (iI (p : Int)))] := hl
  have hIn := hI.n
  have hIb := hI.b
  refine lv_iconst (v := iI (-1)) hx hb dX1_worst_0 rfl ?_
  refine lv_istore_n (lv' := [(2, .int (iI (-1))), (0, .ref x), (1, .int (iI (p : Int)))]) hx hb dX1_worst_1 rfl hl (by decide) rfl (fun ls hl => ?_)
  refine lv_iconst (v := iI 0) hx hb dX1_worst_2 rfl ?_
  refine lv_istore_n (lv' := [(3, .int (iI 0)), (2, .int (iI (-1))), (0, .ref x), (1, .int (iI (p : Int)))]) hx hb dX1_worst_3 rfl hl (by decide) rfl (fun ls hl => ?_)
  refine lv_iconst (v := iI 0) hx hb dX1_worst_4 rfl ?_
  refine lv_istore (lv' := [(4, .int (iI 0)), (3, .int (iI 0)), (2, .int (iI (-1))), (0, .ref x), (1, .int (iI (p : Int)))]) hx hb dX1_worst_5 hl (by decide) rfl (fun ls hl => ?_)
  have LP7 : ∀ (r7 : Nat) (j : Nat) (s1 : Int) (s2 : Int), j ≤ σ.1 1 → σ.1 1 - j < r7 → s1 = arg (fun k => σ.2 5 k = 0 ∧ σ.2 2 k = (p : Int)) (fun k => lat σ k 20 - σ.2 4 k) j → (s1 = -1 ∧ s2 = 0) ∨ (s1 ≠ -1 ∧ s2 = lat σ s1.toNat 20 - σ.2 4 s1.toNat) → ∀ (ls : Array Slot), lv_has ls 6 [(4, .int (iI (j : Int))), (3, .int (iI s2)), (2, .int (iI s1)), (0, .ref x), (1, .int (iI (p : Int)))] → W pp l ee (headSpec wsX1_worst ({ frames := 3, cells := 0, slots := 0, locals := 68 } : Room)).room s m ([.ref x, .int (iI (p : Int))] : List Value).toArray below meth c s.heap [] 0 0 (MQ below (vp_Si (fun r => r = iI (wor σ (p : Int)))) ([.ref x, .int (iI (p : Int))] : List Value).toArray s 0 0 (fun _ => False)) (F0 m 7 ls []) := by
    intro r7
    induction r7 with
    | zero => intro j s1 s2 hv7_0 hv7_1; exfalso; omega
    | succ r7 ih7 =>
      intro j s1 s2 hv7_0 hv7_1 hv7_2 hv7_3 ls hl
      have f_1 := hI.r4 j
      have f_2 := hI.r5 j
      have f_3 := hI.r6 j
      have f_4 := hI.r7 j
      have f_5 := hI.r4 s1.toNat
      have f_6 := lat_bd hI s1.toNat 20
      have f_7 := arg_bd (fun k => σ.2 5 k = 0 ∧ σ.2 2 k = (p : Int)) (fun k => lat σ k 20 - σ.2 4 k) j
      refine lv_iload hx hb dX1_worst_7 (lv_at hl 0 rfl) ?_
      refine lv_aload_n hx hb dX1_worst_9 rfl (lv_at hl 3 rfl) ?_
      refine m_get (v := .int (iI (σ.1 1 : Nat))) hx hb hts hin0 hown hK hP 0 rfl 6 (by decide) w_0 rfl dX1_worst_10 ?_
      refine z_icmp_ge (tgt := 83) hx hb dX1_worst_13 (by decide) (by omega) (by omega) (fun c_8 => ?_) (fun c_8 => ?_)
      ·
        refine lv_iload_n hx hb dX1_worst_83 rfl (lv_at hl 2 rfl) ?_
        refine z_re (v' := iI (wor σ (p : Int))) (congrArg iI (by rw [hv7_2, show j = σ.1 1 from by omega]; rfl)) ?_
        exact W.iret hx hb hr (fun t ht _ => ⟨_, rfl, rfl, ht⟩) (fun q hq => absurd hq List.not_mem_nil) dX1_worst_84
      ·
        refine lv_aload_n hx hb dX1_worst_16 rfl (lv_at hl 3 rfl) ?_
        refine lv_iload hx hb dX1_worst_17 (lv_at hl 0 rfl) ?_
        refine zc_i (va_runV (As := [.int (iI (j : Int))]) (rest := []) ⟨hx, hb, hml, hown, hts⟩ (c_X1_isOpen l G x a σ t j (by omega) (by omega)) (cwV 1 hts gX1_worst_X1_isOpen rfl rfl rfl (by decide +kernel) ⟨Nat.le_of_ble_eq_true rfl, Nat.le_of_ble_eq_true rfl⟩) (preVM hK hP) rfl rfl hl.1 rfl (lv_room (Nat.le_of_ble_eq_true rfl)) dX1_worst_19 ⟨Nat.le_of_ble_eq_true rfl, Nat.le_of_ble_eq_true rfl⟩) ?_
        have f_9 := opn_or σ j
        refine z_if_eq (tgt := 77) hx hb dX1_worst_22 (by decide) (by omega) (fun c_10 => ?_) (fun c_10 => ?_)
        ·
          refine lv_iinc (v := iI ((j : Int) + 1)) (lv' := [(4, .int (iI ((j : Int) + 1))), (3, .int (iI s2)), (2, .int (iI s1)), (0, .ref x), (1, .int (iI (p : Int)))]) hx hb dX1_worst_77 hl (k := 0) rfl (iI_add _ _) (by decide) rfl (fun ls hl => ?_)
          refine lv_goto (tgt := 7) hx hb dX1_worst_80 (by decide) ?_
          exact ih7 (j + 1) s1 s2 (by omega) (by omega) (by rw [arg_s, ← hv7_2]; (try dsimp only); split <;> omega) (by first | omega | (right; exact ⟨by omega, by simp⟩)) ls (lv_sub hl [0, 1, 2, 3, 4] rfl)
        ·
          refine lv_aload_n hx hb dX1_worst_25 rfl (lv_at hl 3 rfl) ?_
          refine m_get (v := .ref (a 2)) hx hb hts hin0 hown hK hP 0 rfl 7 (by decide) w_1 rfl dX1_worst_26 ?_
          refine lv_iload hx hb dX1_worst_29 (lv_at hl 0 rfl) ?_
          refine z_iald (v := iI (σ.2 2 j)) hx hb hK hP 3 0 rfl rfl (k := j) (by omega) (by decide) rfl dX1_worst_31 ?_
          have f_11 := hI.r2 (k := j) (by omega)
          refine lv_iload_n hx hb dX1_worst_32 rfl (lv_at hl 4 rfl) ?_
          refine z_icmp_eq (tgt := 39) hx hb dX1_worst_33 (by decide) (by omega) (by omega) (fun c_12 => ?_) (fun c_12 => ?_)
          ·
            refine lv_aload_n hx hb dX1_worst_39 rfl (lv_at hl 3 rfl) ?_
            refine lv_iload hx hb dX1_worst_40 (lv_at hl 0 rfl) ?_
            refine lv_bipush (v := iI 20) hx hb dX1_worst_42 (by decide) ?_
            refine zc_i (va_runV (As := [.int (iI (j : Int)), .int (iI 20)]) (rest := []) ⟨hx, hb, hml, hown, hts⟩ (c_X1_later l G x a σ t j 20 (by omega) (by omega) (by omega) (by omega) (by omega) (by omega)) (cwV 2 hts gX1_worst_X1_later rfl rfl rfl (by decide +kernel) ⟨Nat.le_of_ble_eq_true rfl, Nat.le_of_ble_eq_true rfl⟩) (preVM hK hP) rfl rfl hl.1 rfl (lv_room (Nat.le_of_ble_eq_true rfl)) dX1_worst_44 ⟨Nat.le_of_ble_eq_true rfl, Nat.le_of_ble_eq_true rfl⟩) ?_
            have f_13 := @lat_b0 σ j 20 (by omega)
            refine lv_aload_n hx hb dX1_worst_47 rfl (lv_at hl 3 rfl) ?_
            refine m_get (v := .ref (a 4)) hx hb hts hin0 hown hK hP 0 rfl 9 (by decide) w_2 rfl dX1_worst_48 ?_
            refine lv_iload hx hb dX1_worst_51 (lv_at hl 0 rfl) ?_
            refine z_iald (v := iI (σ.2 4 j)) hx hb hK hP 5 0 rfl rfl (k := j) (by omega) (by decide) rfl dX1_worst_53 ?_
            have f_14 := hI.r4 j
            refine z_isub hx hb dX1_worst_54 ?_
            refine lv_istore (lv' := [(5, .int (iI ((lat σ j 20) - (σ.2 4 j)))), (4, .int (iI (j : Int))), (3, .int (iI s2)), (2, .int (iI s1)), (0, .ref x), (1, .int (iI (p : Int)))]) hx hb dX1_worst_55 hl (by decide) rfl (fun ls hl => ?_)
            refine lv_iload_n hx hb dX1_worst_57 rfl (lv_at hl 3 rfl) ?_
            refine lv_iconst (v := iI (-1)) hx hb dX1_worst_58 rfl ?_
            refine z_icmp_eq (tgt := 71) hx hb dX1_worst_59 (by decide) (by omega) (by omega) (fun c_15 => ?_) (fun c_15 => ?_)
            ·
              refine lv_iload hx hb dX1_worst_71 (lv_at hl 1 rfl) ?_
              refine lv_istore_n (lv' := [(2, .int (iI (j : Int))), (5, .int (iI ((lat σ j 20) - (σ.2 4 j)))), (4, .int (iI (j : Int))), (3, .int (iI s2)), (0, .ref x), (1, .int (iI (p : Int)))]) hx hb dX1_worst_73 rfl hl (by decide) rfl (fun ls hl => ?_)
              refine lv_iload hx hb dX1_worst_74 (lv_at hl 1 rfl) ?_
              refine lv_istore_n (lv' := [(3, .int (iI ((lat σ j 20) - (σ.2 4 j)))), (2, .int (iI (j : Int))), (5, .int (iI ((lat σ j 20) - (σ.2 4 j)))), (4, .int (iI (j : Int))), (0, .ref x), (1, .int (iI (p : Int)))]) hx hb dX1_worst_76 rfl hl (by decide) rfl (fun ls hl => ?_)
              refine lv_iinc (v := iI ((j : Int) + 1)) (lv' := [(4, .int (iI ((j : Int) + 1))), (3, .int (iI ((lat σ j 20) - (σ.2 4 j)))), (2, .int (iI (j : Int))), (5, .int (iI ((lat σ j 20) - (σ.2 4 j)))), (0, .ref x), (1, .int (iI (p : Int)))]) hx hb dX1_worst_77 hl (k := 3) rfl (iI_add _ _) (by decide) rfl (fun ls hl => ?_)
              refine lv_goto (tgt := 7) hx hb dX1_worst_80 (by decide) ?_
              exact ih7 (j + 1) (j : Int) ((lat σ j 20) - (σ.2 4 j)) (by omega) (by omega) (by rw [arg_s, ← hv7_2]; (try dsimp only); split <;> omega) (by first | omega | (right; exact ⟨by omega, by simp⟩)) ls (lv_sub hl [0, 1, 2, 4, 5] rfl)
            ·
              refine lv_iload hx hb dX1_worst_62 (lv_at hl 0 rfl) ?_
              refine lv_iload_n hx hb dX1_worst_64 rfl (lv_at hl 2 rfl) ?_
              refine z_icmp_gt (tgt := 71) hx hb dX1_worst_65 (by decide) (by omega) (by omega) (fun c_16 => ?_) (fun c_16 => ?_)
              ·
                refine lv_iload hx hb dX1_worst_71 (lv_at hl 1 rfl) ?_
                refine lv_istore_n (lv' := [(2, .int (iI (j : Int))), (5, .int (iI ((lat σ j 20) - (σ.2 4 j)))), (4, .int (iI (j : Int))), (3, .int (iI s2)), (0, .ref x), (1, .int (iI (p : Int)))]) hx hb dX1_worst_73 rfl hl (by decide) rfl (fun ls hl => ?_)
                refine lv_iload hx hb dX1_worst_74 (lv_at hl 1 rfl) ?_
                refine lv_istore_n (lv' := [(3, .int (iI ((lat σ j 20) - (σ.2 4 j)))), (2, .int (iI (j : Int))), (5, .int (iI ((lat σ j 20) - (σ.2 4 j)))), (4, .int (iI (j : Int))), (0, .ref x), (1, .int (iI (p : Int)))]) hx hb dX1_worst_76 rfl hl (by decide) rfl (fun ls hl => ?_)
                refine lv_iinc (v := iI ((j : Int) + 1)) (lv' := [(4, .int (iI ((j : Int) + 1))), (3, .int (iI ((lat σ j 20) - (σ.2 4 j)))), (2, .int (iI (j : Int))), (5, .int (iI ((lat σ j 20) - (σ.2 4 j)))), (0, .ref x), (1, .int (iI (p : Int)))]) hx hb dX1_worst_77 hl (k := 3) rfl (iI_add _ _) (by decide) rfl (fun ls hl => ?_)
                refine lv_goto (tgt := 7) hx hb dX1_worst_80 (by decide) ?_
                exact ih7 (j + 1) (j : Int) ((lat σ j 20) - (σ.2 4 j)) (by omega) (by omega) (by rw [arg_s, ← hv7_2]; (try dsimp only); split <;> omega) (by first | omega | (right; exact ⟨by omega, by simp⟩)) ls (lv_sub hl [0, 1, 2, 4, 5] rfl)
              ·
                refine lv_goto (tgt := 77) hx hb dX1_worst_68 (by decide) ?_
                refine lv_iinc (v := iI ((j : Int) + 1)) (lv' := [(4, .int (iI ((j : Int) + 1))), (5, .int (iI ((lat σ j 20) - (σ.2 4 j)))), (3, .int (iI s2)), (2, .int (iI s1)), (0, .ref x), (1, .int (iI (p : Int)))]) hx hb dX1_worst_77 hl (k := 1) rfl (iI_add _ _) (by decide) rfl (fun ls hl => ?_)
                refine lv_goto (tgt := 7) hx hb dX1_worst_80 (by decide) ?_
                exact ih7 (j + 1) s1 s2 (by omega) (by omega) (by rw [arg_s, ← hv7_2]; (try dsimp only); split <;> omega) (by first | omega | (right; exact ⟨by omega, by simp⟩)) ls (lv_sub hl [0, 2, 3, 4, 5] rfl)
          ·
            refine lv_goto (tgt := 77) hx hb dX1_worst_36 (by decide) ?_
            refine lv_iinc (v := iI ((j : Int) + 1)) (lv' := [(4, .int (iI ((j : Int) + 1))), (3, .int (iI s2)), (2, .int (iI s1)), (0, .ref x), (1, .int (iI (p : Int)))]) hx hb dX1_worst_77 hl (k := 0) rfl (iI_add _ _) (by decide) rfl (fun ls hl => ?_)
            refine lv_goto (tgt := 7) hx hb dX1_worst_80 (by decide) ?_
            exact ih7 (j + 1) s1 s2 (by omega) (by omega) (by rw [arg_s, ← hv7_2]; (try dsimp only); split <;> omega) (by first | omega | (right; exact ⟨by omega, by simp⟩)) ls (lv_sub hl [0, 1, 2, 3, 4] rfl)
  exact LP7 (σ.1 1 - (0) + 1) 0 (-1) 0 (by omega) (by omega) (by rfl) (by left; exact ⟨rfl, rfl⟩) ls (lv_sub hl [0, 1, 2, 3, 4] rfl)
