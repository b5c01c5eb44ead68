/-! THE REFERENCE: its calls. -/
set_option maxHeartbeats 4000000 in
set_option maxRecDepth 100000 in
theorem c_X1_no (l : Launch) (G : zG) (x : Nat) (a : Nat → Nat) (sz : Nat) (σ : zS) (t : Nat) (n : Nat)  : Met l yX1_no wsX1_no ({ frames := 0, cells := 0, slots := 0, locals := 0 } : Room) (va_Pc [.ref x, .int (iI (n : Int))] (wM G x a t σ sz)) (va_Qi (fun r (_ : Unit) => r = iI 0) (fun _ t9 => va_P G.1 vwCl (mW G x a n σ) t9.heap) (zA x a sz)) 0 0 (zA x a sz) := by
  refine Met.ofW (cc := cX1_no) (maxL := 2) (ret := (some .int)) (by decide) rfl ?_
  intro pp ee s m args below meth c s₁ B9 hml hv
  obtain ⟨rfl, hsz, hP, hK, hD0⟩ := hv
  subst hsz
  have hD := mW_zA (sz := s.heap.size) hD0
  have hS : va_S (zA x a s.heap.size) s.heap s.heap [] := va_S.rf
  have hx := B9.exec
  have hb := B9.bytes
  have hr := B9.returns
  have hts := atoms_spec (ws := wsX1_no) B9.pre
  have hown : s.vm.findClass RX1 = some m.cls := findClass_of_methodNamed B9.named
  have hlocks := B9.notSynchronized
  have hin0 : ∀ w ∈ wsX10, w ∈ wsX1_no := by decide +kernel
  have w_0 := hts (.fieldLink RX1 35 "ApologyLedgerModel" "thrown" "I") (by decide +kernel)
  have hl := lv_entry ([.ref x, .int (iI (n : Int))]) (n := 2) (Nat.le_of_ble_eq_true rfl)
  rw [lg_entry_eq]
  generalize (lg_sl ([.ref x, .int (iI (n : Int))]) ++ List.replicate (2 - (lg_sl ([.ref x, .int (iI (n : Int))])).length) Slot.unset).toArray = ls at hl ⊢
  have hl : lv_has ls 2 [(0, .ref x), (1, .int (iI (n : Int)))] := hl
  refine lv_aload_n hx hb dX1_no_0 rfl (lv_at hl 0 rfl) ?_
  refine lv_iload_n hx hb dX1_no_1 rfl (lv_at hl 1 rfl) ?_
  refine m_put hx hb hts hin0 hown hK hP hD hS 0 rfl 0 (by decide) w_0 rfl (by decide +kernel) (Nat.le_of_ble_eq_true rfl) mW_put0 dX1_no_2 (fun H locs hP hD hS => ?_)
  refine lv_iconst (v := iI 0) hx hb dX1_no_5 rfl ?_
  have hfin : σ = σ := by rfl
  rw [hfin] at hP
  have hfit : n = n := by rfl
  rw [hfit] at hP
  refine z_re (v' := iI 0) (congrArg iI (by rfl)) ?_
  exact W.iret hx hb hr (fun t ht hW => ⟨⟨_, (), rfl, rfl, (by show va_P _ _ _ t.heap; rw [ht]; exact hP)⟩, hS.F ht⟩) hS.2.2 dX1_no_6
set_option maxHeartbeats 4000000 in
set_option maxRecDepth 100000 in
theorem c_X1_isNot (l : Launch) (G : zG) (x : Nat) (a : Nat → Nat) (sz : Nat) (σ : zS) (t : Nat) (n : Nat)  : Met l yX1_isNot wsX1_isNot ({ frames := 0, cells := 0, slots := 0, locals := 0 } : Room) (va_Pc [.ref x, .int (iI (n : Int))] (wM G x a t σ sz)) (va_Qi (fun r (_ : Unit) => r = iI 0) (fun _ t9 => va_P G.1 vwCl (mW G x a n σ) t9.heap) (zA x a sz)) 0 0 (zA x a sz) := by
  refine Met.ofW (cc := cX1_isNot) (maxL := 2) (ret := (some .boolean)) (by decide) rfl ?_
  intro pp ee s m args below meth c s₁ B9 hml hv
  obtain ⟨rfl, hsz, hP, hK, hD0⟩ := hv
  subst hsz
  have hD := mW_zA (sz := s.heap.size) hD0
  have hS : va_S (zA x a s.heap.size) s.heap s.heap [] := va_S.rf
  have hx := B9.exec
  have hb := B9.bytes
  have hr := B9.returns
  have hts := atoms_spec (ws := wsX1_isNot) B9.pre
  have hown : s.vm.findClass RX1 = some m.cls := findClass_of_methodNamed B9.named
  have hlocks := B9.notSynchronized
  have hin0 : ∀ w ∈ wsX10, w ∈ wsX1_isNot := by decide +kernel
  have w_0 := hts (.fieldLink RX1 35 "ApologyLedgerModel" "thrown" "I") (by decide +kernel)
  have hl := lv_entry ([.ref x, .int (iI (n : Int))]) (n := 2) (Nat.le_of_ble_eq_true rfl)
  rw [lg_entry_eq]
  generalize (lg_sl ([.ref x, .int (iI (n : Int))]) ++ List.replicate (2 - (lg_sl ([.ref x, .int (iI (n : Int))])).length) Slot.unset).toArray = ls at hl ⊢
  have hl : lv_has ls 2 [(0, .ref x), (1, .int (iI (n : Int)))] := hl
  refine lv_aload_n hx hb dX1_isNot_0 rfl (lv_at hl 0 rfl) ?_
  refine lv_iload_n hx hb dX1_isNot_1 rfl (lv_at hl 1 rfl) ?_
  refine m_put hx hb hts hin0 hown hK hP hD hS 0 rfl 0 (by decide) w_0 rfl (by decide +kernel) (Nat.le_of_ble_eq_true rfl) mW_put0 dX1_isNot_2 (fun H locs hP hD hS => ?_)
  refine lv_iconst (v := iI 0) hx hb dX1_isNot_5 rfl ?_
  have hfin : σ = σ := by rfl
  rw [hfin] at hP
  have hfit : n = n := by rfl
  rw [hfit] at hP
  refine z_re (v' := iI 0) (congrArg iI (by rfl)) ?_
  exact W.zret hx hb hr (z_nb (by omega)) (fun t ht hW => ⟨⟨_, (), rfl, rfl, (by show va_P _ _ _ t.heap; rw [ht]; exact hP)⟩, hS.F ht⟩) hS.2.2 dX1_isNot_6
set_option maxHeartbeats 4000000 in
set_option maxRecDepth 100000 in
theorem c_X1_ok (l : Launch) (G : zG) (x : Nat) (a : Nat → Nat) (sz : Nat) (σ : zS) (t : Nat) (v : Int)  : Met l yX1_ok wsX1_ok ({ frames := 0, cells := 0, slots := 0, locals := 0 } : Room) (va_Pc [.ref x, .int (iI v)] (wM G x a t σ sz)) (va_Qi (fun r (_ : Unit) => r = iI v) (fun _ t9 => va_P G.1 vwCl (mW G x a 0 σ) t9.heap) (zA x a sz)) 0 0 (zA x a sz) := by
  refine Met.ofW (cc := cX1_ok) (maxL := 2) (ret := (some .int)) (by decide) rfl ?_
  intro pp ee s m args below meth c s₁ B9 hml hv
  obtain ⟨rfl, hsz, hP, hK, hD0⟩ := hv
  subst hsz
  have hD := mW_zA (sz := s.heap.size) hD0
  have hS : va_S (zA x a s.heap.size) s.heap s.heap [] := va_S.rf
  have hx := B9.exec
  have hb := B9.bytes
  have hr := B9.returns
  have hts := atoms_spec (ws := wsX1_ok) B9.pre
  have hown : s.vm.findClass RX1 = some m.cls := findClass_of_methodNamed B9.named
  have hlocks := B9.notSynchronized
  have hin0 : ∀ w ∈ wsX10, w ∈ wsX1_ok := by decide +kernel
  have w_0 := hts (.fieldLink RX1 35 "ApologyLedgerModel" "thrown" "I") (by decide +kernel)
  have hl := lv_entry ([.ref x, .int (iI v)]) (n := 2) (Nat.le_of_ble_eq_true rfl)
  rw [lg_entry_eq]
  generalize (lg_sl ([.ref x, .int (iI v)]) ++ List.replicate (2 - (lg_sl ([.ref x, .int (iI v)])).length) Slot.unset).toArray = ls at hl ⊢
  have hl : lv_has ls 2 [(0, .ref x), (1, .int (iI v))] := hl
  refine lv_aload_n hx hb dX1_ok_0 rfl (lv_at hl 0 rfl) ?_
  refine lv_iconst (v := iI 0) hx hb dX1_ok_1 rfl ?_
  refine z_re (v' := iI ((0 : Nat) : Int)) (congrArg iI (by omega)) ?_
  refine m_put hx hb hts hin0 hown hK hP hD hS 0 rfl 0 (by decide) w_0 rfl (by decide +kernel) (Nat.le_of_ble_eq_true rfl) mW_put0 dX1_ok_2 (fun H locs hP hD hS => ?_)
  refine lv_iload_n hx hb dX1_ok_5 rfl (lv_at hl 1 rfl) ?_
  have hfin : σ = σ := by rfl
  rw [hfin] at hP
  have hfit : 0 = 0 := by rfl
  rw [hfit] at hP
  refine z_re (v' := iI v) (congrArg iI (by rfl)) ?_
  exact W.iret hx hb hr (fun t ht hW => ⟨⟨_, (), rfl, rfl, (by show va_P _ _ _ t.heap; rw [ht]; exact hP)⟩, hS.F ht⟩) hS.2.2 dX1_ok_6
set_option maxHeartbeats 4000000 in
set_option maxRecDepth 100000 in
theorem c_X1_close (l : Launch) (G : zG) (x : Nat) (a : Nat → Nat) (sz : Nat) (σ : zS) (t : Nat) (k : Nat) (q : Int) (hk : k < 20) : Met l yX1_close wsX1_close ({ frames := 0, cells := 0, slots := 0, locals := 0 } : Room) (va_Pc [.ref x, .int (iI (k : Int)), .int (iI q)] (wM G x a t σ sz)) (va_Qv (fun (_ : Unit) => True) (fun _ t9 => va_P G.1 vwCl (mW G x a t (clo σ k q)) t9.heap) (zA x a sz)) 0 0 (zA x a sz) := by
  refine Met.ofW (cc := cX1_close) (maxL := 3) (ret := none) (by decide) rfl ?_
  intro pp ee s m args below meth c s₁ B9 hml hv
  obtain ⟨rfl, hsz, hP, hK, hD0⟩ := hv
  subst hsz
  have hD := mW_zA (sz := s.heap.size) hD0
  have hS : va_S (zA x a s.heap.size) s.heap s.heap [] := va_S.rf
  have hx := B9.exec
  have hb := B9.bytes
  have hr := B9.returns
  have hts := atoms_spec (ws := wsX1_close) B9.pre
  have hown : s.vm.findClass RX1 = some m.cls := findClass_of_methodNamed B9.named
  have hlocks := B9.notSynchronized
  have hin0 : ∀ w ∈ wsX10, w ∈ wsX1_close := by decide +kernel
  have w_0 := hts (.fieldLink RX1 26 "ApologyLedgerModel" "state" "[I") (by decide +kernel)
  have w_1 := hts (.fieldLink RX1 23 "ApologyLedgerModel" "weight" "[I") (by decide +kernel)
  have hl := lv_entry ([.ref x, .int (iI (k : Int)), .int (iI q)]) (n := 3) (Nat.le_of_ble_eq_true rfl)
  rw [lg_entry_eq]
  generalize (lg_sl ([.ref x, .int (iI (k : Int)), .int (iI q)]) ++ List.replicate (3 - (lg_sl ([.ref x, .int (iI (k : Int)), .int (iI q)])).length) Slot.unset).toArray = ls at hl ⊢
  have hl : lv_has ls 3 [(0, .ref x), (1, .int (iI (k : Int))), (2, .int (iI q))] := hl
  refine lv_aload_n hx hb dX1_close_0 rfl (lv_at hl 0 rfl) ?_
  refine m_get (v := .ref (a 5)) hx hb hts hin0 hown hK hP 0 rfl 10 (by decide) w_0 rfl dX1_close_1 ?_
  refine lv_iload_n hx hb dX1_close_4 rfl (lv_at hl 1 rfl) ?_
  refine lv_iload_n hx hb dX1_close_5 rfl (lv_at hl 2 rfl) ?_
  refine z_iast hx hb hK hP hD hS 6 0 rfl rfl (k := k) (by omega) (by decide) mW_set5 dX1_close_6 (fun H locs hP hD hS => ?_)
  refine lv_aload_n hx hb dX1_close_7 rfl (lv_at hl 0 rfl) ?_
  refine m_get (v := .ref (a 4)) hx hb hts hin0 hown hK hP 0 rfl 9 (by decide) w_1 rfl dX1_close_8 ?_
  refine lv_iload_n hx hb dX1_close_11 rfl (lv_at hl 1 rfl) ?_
  refine lv_iconst (v := iI 0) hx hb dX1_close_12 rfl ?_
  refine z_iast hx hb hK hP hD hS 5 0 rfl rfl (k := k) (by omega) (by decide) mW_set4 dX1_close_13 (fun H locs hP hD hS => ?_)
  have hfin : (stA (stA σ 5 k q) 4 k 0) = clo σ k q := by rfl
  rw [hfin] at hP
  have hfit : t = t := by rfl
  rw [hfit] at hP
  exact W.vret hx hb hr (fun t ht hW => ⟨⟨(), rfl, trivial, (by show va_P _ _ _ t.heap; rw [ht]; exact hP)⟩, hS.F ht⟩) hS.2.2 dX1_close_14
set_option maxHeartbeats 4000000 in
set_option maxRecDepth 100000 in
theorem c_X1_speak (l : Launch) (G : zG) (x : Nat) (a : Nat → Nat) (sz : Nat) (σ : zS) (t : Nat) (k : Nat) (hk : k < 20) (hw : 0 ≤ σ.2 4 k ∧ σ.2 4 k ≤ 99) : Met l yX1_speak wsX1_speak ({ frames := 1, cells := 0, slots := 0, locals := 24 } : Room) (va_Pc [.ref x, .int (iI (k : Int))] (wM G x a t σ sz)) (va_Qv (fun (_ : Unit) => True) (fun _ t9 => va_P G.1 vwCl (mW G x a t (spk σ k)) t9.heap) (zA x a sz)) 0 0 (zA x a sz) := by
  refine Met.ofW (cc := cX1_speak) (maxL := 2) (ret := none) (by decide) rfl ?_
  intro pp ee s m args below meth c s₁ B9 hml hv
  obtain ⟨rfl, hsz, hP, hK, hD0⟩ := hv
  subst hsz
  have hD := mW_zA (sz := s.heap.size) hD0
  have hS : va_S (zA x a s.heap.size) s.heap s.heap [] := va_S.rf
  have hx := B9.exec
  have hb := B9.bytes
  have hr := B9.returns
  have hts := atoms_spec (ws := wsX1_speak) B9.pre
  have hown : s.vm.findClass RX1 = some m.cls := findClass_of_methodNamed B9.named
  have hlocks := B9.notSynchronized
  have hin0 : ∀ w ∈ wsX10, w ∈ wsX1_speak := by decide +kernel
  have w_0 := hts (.fieldLink RX1 23 "ApologyLedgerModel" "weight" "[I") (by decide +kernel)
  have w_1 := hts (.methodLink RX1 49 Lib.Math.min.name) (by decide +kernel)
  have w_2 := hts (.static Lib.Math.min.name) (by decide +kernel)
  have w_3 := hts (.initialized "java/lang/Math") (by decide +kernel)
  have w_4 := hts (.code Lib.Math.min.name Lib.Math.min.code 2 (some .int)) (by decide +kernel)
  have w_5 := hts (.fieldLink RX1 32 "ApologyLedgerModel" "quiet" "[I") (by decide +kernel)
  have hl := lv_entry ([.ref x, .int (iI (k : Int))]) (n := 2) (Nat.le_of_ble_eq_true rfl)
  rw [lg_entry_eq]
  generalize (lg_sl ([.ref x, .int (iI (k : Int))]) ++ List.replicate (2 - (lg_sl ([.ref x, .int (iI (k : Int))])).length) Slot.unset).toArray = ls at hl ⊢
  have hl : lv_has ls 2 [(0, .ref x), (1, .int (iI (k : Int)))] := hl
  refine lv_aload_n hx hb dX1_speak_0 rfl (lv_at hl 0 rfl) ?_
  refine m_get (v := .ref (a 4)) hx hb hts hin0 hown hK hP 0 rfl 9 (by decide) w_0 rfl dX1_speak_1 ?_
  refine lv_iload_n hx hb dX1_speak_4 rfl (lv_at hl 1 rfl) ?_
  refine lv_bipush (v := iI 99) hx hb dX1_speak_5 (by decide) ?_
  refine lv_aload_n hx hb dX1_speak_7 rfl (lv_at hl 0 rfl) ?_
  refine m_get (v := .ref (a 4)) hx hb hts hin0 hown hK hP 0 rfl 9 (by decide) w_0 rfl dX1_speak_8 ?_
  refine lv_iload_n hx hb dX1_speak_11 rfl (lv_at hl 1 rfl) ?_
  refine z_iald (v := iI (σ.2 4 k)) hx hb hK hP 5 0 rfl rfl (k := k) (by omega) (by decide) rfl dX1_speak_12 ?_
  refine lv_iconst (v := iI 1) hx hb dX1_speak_13 rfl ?_
  refine z_iadd hx hb dX1_speak_14 ?_
  refine z_min hx hb (by rw [hml]; exact hl.1.symm) hown w_1 w_2 w_3 w_4 (Nat.le_of_ble_eq_true rfl) (Nat.le_of_ble_eq_true rfl) (Nat.le_of_ble_eq_true rfl) (Nat.le_of_ble_eq_true rfl) (by omega) (by omega) dX1_speak_15 ?_
  refine z_iast hx hb hK hP hD hS 5 0 rfl rfl (k := k) (by omega) (by decide) mW_set4 dX1_speak_18 (fun H locs hP hD hS => ?_)
  refine lv_aload_n hx hb dX1_speak_19 rfl (lv_at hl 0 rfl) ?_
  refine m_get (v := .ref (a 7)) hx hb hts hin0 hown hK hP 0 rfl 12 (by decide) w_5 rfl dX1_speak_20 ?_
  refine lv_iload_n hx hb dX1_speak_23 rfl (lv_at hl 1 rfl) ?_
  refine lv_iconst (v := iI 0) hx hb dX1_speak_24 rfl ?_
  refine z_iast hx hb hK hP hD hS 8 0 rfl rfl (k := k) (by omega) (by decide) mW_set7 dX1_speak_25 (fun H locs hP hD hS => ?_)
  have hfin : (stA (stA σ 4 k (min 99 ((σ.2 4 k) + 1))) 7 k 0) = spk σ k := by unfold spk; rw [show min 99 (σ.2 4 k + 1) = min (σ.2 4 k + 1) 99 from by omega]
  rw [hfin] at hP
  have hfit : t = t := by rfl
  rw [hfit] at hP
  exact W.vret hx hb hr (fun t ht hW => ⟨⟨(), rfl, trivial, (by show va_P _ _ _ t.heap; rw [ht]; exact hP)⟩, hS.F ht⟩) hS.2.2 dX1_speak_26
set_option maxHeartbeats 4000000 in
set_option maxRecDepth 100000 in
theorem v_X1_isInHall (l : Launch) (G : zG) (x : Nat) (a : Nat → Nat) (sz : Nat) (B : Nat) (σ : zS) (t : Nat) (p : Nat) (hI : zI B σ) (hp : p < σ.1 0) : Met l yX1_isInHall wsX1_isInHall ({ frames := 2, cells := 0, slots := 0, locals := 43 } : Room) (va_Pc [.ref x, .int (iI (p : Int))] (wM G x a t σ sz)) (va_Qi (fun r (_ : Unit) => r = iI (σ.2 1 p)) (fun _ t9 => va_P G.1 vwCl (mW G x a 0 σ) t9.heap) (zA x a sz)) 0 0 (zA x a sz) := by
  refine Met.ofW (cc := cX1_isInHall) (maxL := 2) (ret := (some .boolean)) (by decide) rfl ?_
  intro pp ee s m args below meth c s₁ B9 hml hv
  obtain ⟨rfl, hsz, hP, hK, hD0⟩ := hv
  subst hsz
  have hD := mW_zA (sz := s.heap.size) hD0
  have hS : va_S (zA x a s.heap.size) s.heap s.heap [] := va_S.rf
  have hx := B9.exec
  have hb := B9.bytes
  have hr := B9.returns
  have hts := atoms_spec (ws := wsX1_isInHall) B9.pre
  have hown : s.vm.findClass RX1 = some m.cls := findClass_of_methodNamed B9.named
  have hlocks := B9.notSynchronized
  have hin0 : ∀ w ∈ wsX10, w ∈ wsX1_isInHall := by decide +kernel
  have w_0 := hts (.fieldLink RX1 35 "ApologyLedgerModel" "thrown" "I") (by decide +kernel)
  have w_1 := hts (.fieldLink RX1 13 "ApologyLedgerModel" "isHere" "[Z") (by decide +kernel)
  have hl := lv_entry ([.ref x, .int (iI (p : Int))]) (n := 2) (Nat.le_of_ble_eq_true rfl)
  rw [lg_entry_eq]
  generalize (lg_sl ([.ref x, .int (iI (p : Int))]) ++ List.replicate (2 - (lg_sl ([.ref x, .int (iI (p : Int))])).length) Slot.unset).toArray = ls at hl ⊢
  have hl : lv_has ls 2 [(0, .ref x), (1, .int (iI (p : Int)))] := hl
  have hIn := hI.n
  have hIb := hI.b
  have g1 := hI.r1 p
  refine lv_aload_n hx hb dX1_isInHall_0 rfl (lv_at hl 0 rfl) ?_
  refine lv_iconst (v := iI 0) hx hb dX1_isInHall_1 rfl ?_
  refine z_re (v' := iI ((0 : Nat) : Int)) (congrArg iI (by omega)) ?_
  refine m_put hx hb hts hin0 hown hK hP hD hS 0 rfl 0 (by decide) w_0 rfl (by decide +kernel) (Nat.le_of_ble_eq_true rfl) mW_put0 dX1_isInHall_2 (fun H locs hP hD hS => ?_)
  refine lv_aload_n hx hb dX1_isInHall_5 rfl (lv_at hl 0 rfl) ?_
  refine lv_iload_n hx hb dX1_isInHall_6 rfl (lv_at hl 1 rfl) ?_
  refine zc_i (va_runV (As := [.int (iI (p : Int))]) (rest := []) ⟨hx, hb, hml, hown, hts⟩ (c_X1_isPerson l G x a σ 0 (p : Int) (by omega) (by omega)) (cwV 1 hts gX1_isInHall_X1_isPerson rfl rfl rfl (by decide +kernel) ⟨Nat.le_of_ble_eq_true rfl, Nat.le_of_ble_eq_true rfl⟩) (preVM hK hP) rfl rfl hl.1 rfl (lv_room (Nat.le_of_ble_eq_true rfl)) dX1_isInHall_7 ⟨Nat.le_of_ble_eq_true rfl, Nat.le_of_ble_eq_true rfl⟩) ?_
  have f_1 := inn_or (p : Int) 0 ((σ.1 0 : Nat) - 1)
  refine z_if_eq (tgt := 22) hx hb dX1_isInHall_10 (by decide) (by omega) (fun c_2 => ?_) (fun c_2 => ?_)
  ·
    exfalso
    omega
  ·
    refine lv_aload_n hx hb dX1_isInHall_13 rfl (lv_at hl 0 rfl) ?_
    refine m_get (v := .ref (a 1)) hx hb hts hin0 hown hK hP 0 rfl 5 (by decide) w_1 rfl dX1_isInHall_14 ?_
    refine lv_iload_n hx hb dX1_isInHall_17 rfl (lv_at hl 1 rfl) ?_
    refine z_zald (v := iI (σ.2 1 p)) hx hb hK hP 2 1 rfl rfl (k := p) (by omega) (by decide) rfl dX1_isInHall_18 ?_
    have f_3 := hI.r1 p
    refine lv_goto (tgt := 27) hx hb dX1_isInHall_19 (by decide) ?_
    have hfin : σ = σ := by rfl
    rw [hfin] at hP
    have hfit : 0 = 0 := by rfl
    rw [hfit] at hP
    refine z_re (v' := iI (σ.2 1 p)) (congrArg iI (by first | rfl | omega)) ?_
    exact W.zret hx hb hr (z_nb (by omega)) (fun t ht hW => ⟨⟨_, (), rfl, rfl, (by show va_P _ _ _ t.heap; rw [ht]; exact hP)⟩, hS.F ht⟩) hS.2.2 dX1_isInHall_27
set_option maxHeartbeats 4000000 in
set_option maxRecDepth 100000 in
theorem e1_X1_isInHall (l : Launch) (G : zG) (x : Nat) (a : Nat → Nat) (sz : Nat) (B : Nat) (σ : zS) (t : Nat) (z : Int) (hI : zI B σ) (hzb : -2147483648 ≤ z ∧ z < 2147483648) (hbad : z < 0 ∨ (σ.1 0 : Int) ≤ z) : Met l yX1_isInHall wsX1_isInHall ({ frames := 2, cells := 0, slots := 0, locals := 43 } : Room) (va_Pc [.ref x, .int (iI z)] (wM G x a t σ sz)) (va_Qi (fun r (_ : Unit) => r = iI 0) (fun _ t9 => va_P G.1 vwCl (mW G x a 1 σ) t9.heap) (zA x a sz)) 0 0 (zA x a sz) := by
  refine Met.ofW (cc := cX1_isInHall) (maxL := 2) (ret := (some .boolean)) (by decide) rfl ?_
  intro pp ee s m args below meth c s₁ B9 hml hv
  obtain ⟨rfl, hsz, hP, hK, hD0⟩ := hv
  subst hsz
  have hD := mW_zA (sz := s.heap.size) hD0
  have hS : va_S (zA x a s.heap.size) s.heap s.heap [] := va_S.rf
  have hx := B9.exec
  have hb := B9.bytes
  have hr := B9.returns
  have hts := atoms_spec (ws := wsX1_isInHall) B9.pre
  have hown : s.vm.findClass RX1 = some m.cls := findClass_of_methodNamed B9.named
  have hlocks := B9.notSynchronized
  have hin0 : ∀ w ∈ wsX10, w ∈ wsX1_isInHall := by decide +kernel
  have w_0 := hts (.fieldLink RX1 35 "ApologyLedgerModel" "thrown" "I") (by decide +kernel)
  have hl := lv_entry ([.ref x, .int (iI z)]) (n := 2) (Nat.le_of_ble_eq_true rfl)
  rw [lg_entry_eq]
  generalize (lg_sl ([.ref x, .int (iI z)]) ++ List.replicate (2 - (lg_sl ([.ref x, .int (iI z)])).length) Slot.unset).toArray = ls at hl ⊢
  have hl : lv_has ls 2 [(0, .ref x), (1, .int (iI z))] := hl
  have hIn := hI.n
  have hIb := hI.b
  refine lv_aload_n hx hb dX1_isInHall_0 rfl (lv_at hl 0 rfl) ?_
  refine lv_iconst (v := iI 0) hx hb dX1_isInHall_1 rfl ?_
  refine z_re (v' := iI ((0 : Nat) : Int)) (congrArg iI (by omega)) ?_
  refine m_put hx hb hts hin0 hown hK hP hD hS 0 rfl 0 (by decide) w_0 rfl (by decide +kernel) (Nat.le_of_ble_eq_true rfl) mW_put0 dX1_isInHall_2 (fun H locs hP hD hS => ?_)
  refine lv_aload_n hx hb dX1_isInHall_5 rfl (lv_at hl 0 rfl) ?_
  refine lv_iload_n hx hb dX1_isInHall_6 rfl (lv_at hl 1 rfl) ?_
  refine zc_i (va_runV (As := [.int (iI z)]) (rest := []) ⟨hx, hb, hml, hown, hts⟩ (c_X1_isPerson l G x a σ 0 z (by omega) (by omega)) (cwV 1 hts gX1_isInHall_X1_isPerson rfl rfl rfl (by decide +kernel) ⟨Nat.le_of_ble_eq_true rfl, Nat.le_of_ble_eq_true rfl⟩) (preVM hK hP) rfl rfl hl.1 rfl (lv_room (Nat.le_of_ble_eq_true rfl)) dX1_isInHall_7 ⟨Nat.le_of_ble_eq_true rfl, Nat.le_of_ble_eq_true rfl⟩) ?_
  have f_1 := inn_or z 0 ((σ.1 0 : Nat) - 1)
  refine z_if_eq (tgt := 22) hx hb dX1_isInHall_10 (by decide) (by omega) (fun c_2 => ?_) (fun c_2 => ?_)
  ·
    refine lv_aload_n hx hb dX1_isInHall_22 rfl (lv_at hl 0 rfl) ?_
    refine lv_iconst (v := iI 1) hx hb dX1_isInHall_23 rfl ?_
    refine z_re (v' := iI ((1 : Nat) : Int)) (congrArg iI (by omega)) ?_
    refine zc_wi (va_runV (As := [.int (iI ((1 : Nat) : Int))]) (rest := []) ⟨hx, hb, hml, hown, hts⟩ (c_X1_isNot l G x a _ σ 0 1) (cwV 1 hts gX1_isInHall_X1_isNot rfl rfl rfl (by decide +kernel) ⟨Nat.le_of_ble_eq_true rfl, Nat.le_of_ble_eq_true rfl⟩) (preWM hK hP hD) rfl rfl hl.1 rfl (lv_room (Nat.le_of_ble_eq_true rfl)) dX1_isInHall_24 ⟨Nat.le_of_ble_eq_true rfl, Nat.le_of_ble_eq_true rfl⟩) hS (fun q h => zA_mono hS.1 h) (fun H locs hP hS _ _ => ?_)
    have hD := mW_D (t' := 1) (σ' := σ) hD
    have hfin : σ = σ := by rfl
    rw [hfin] at hP
    have hfit : 1 = 1 := by rfl
    rw [hfit] at hP
    refine z_re (v' := iI 0) (congrArg iI (by first | rfl | omega)) ?_
    exact W.zret hx hb hr (z_nb (by omega)) (fun t ht hW => ⟨⟨_, (), rfl, rfl, (by show va_P _ _ _ t.heap; rw [ht]; exact hP)⟩, hS.F ht⟩) hS.2.2 dX1_isInHall_27
  ·
    exfalso
    omega
set_option maxHeartbeats 4000000 in
set_option maxRecDepth 100000 in
theorem v_X1_prideOf (l : Launch) (G : zG) (x : Nat) (a : Nat → Nat) (sz : Nat) (B : Nat) (σ : zS) (t : Nat) (p : Nat) (hI : zI B σ) (hp : p < σ.1 0) : Met l yX1_prideOf wsX1_prideOf ({ frames := 2, cells := 0, slots := 0, locals := 43 } : Room) (va_Pc [.ref x, .int (iI (p : Int))] (wM G x a t σ sz)) (va_Qi (fun r (_ : Unit) => r = iI (σ.2 0 p)) (fun _ t9 => va_P G.1 vwCl (mW G x a 0 σ) t9.heap) (zA x a sz)) 0 0 (zA x a sz) := by
  refine Met.ofW (cc := cX1_prideOf) (maxL := 2) (ret := (some .int)) (by decide) rfl ?_
  intro pp ee s m args below meth c s₁ B9 hml hv
  obtain ⟨rfl, hsz, hP, hK, hD0⟩ := hv
  subst hsz
  have hD := mW_zA (sz := s.heap.size) hD0
  have hS : va_S (zA x a s.heap.size) s.heap s.heap [] := va_S.rf
  have hx := B9.exec
  have hb := B9.bytes
  have hr := B9.returns
  have hts := atoms_spec (ws := wsX1_prideOf) B9.pre
  have hown : s.vm.findClass RX1 = some m.cls := findClass_of_methodNamed B9.named
  have hlocks := B9.notSynchronized
  have hin0 : ∀ w ∈ wsX10, w ∈ wsX1_prideOf := by decide +kernel
  have w_0 := hts (.fieldLink RX1 35 "ApologyLedgerModel" "thrown" "I") (by decide +kernel)
  have w_1 := hts (.fieldLink RX1 9 "ApologyLedgerModel" "pride" "[I") (by decide +kernel)
  have hl := lv_entry ([.ref x, .int (iI (p : Int))]) (n := 2) (Nat.le_of_ble_eq_true rfl)
  rw [lg_entry_eq]
  generalize (lg_sl ([.ref x, .int (iI (p : Int))]) ++ List.replicate (2 - (lg_sl ([.ref x, .int (iI (p : Int))])).length) Slot.unset).toArray = ls at hl ⊢
  have hl : lv_has ls 2 [(0, .ref x), (1, .int (iI (p : Int)))] := hl
  have hIn := hI.n
  have hIb := hI.b
  have g1 := hI.r1 p
  refine lv_aload_n hx hb dX1_prideOf_0 rfl (lv_at hl 0 rfl) ?_
  refine lv_iconst (v := iI 0) hx hb dX1_prideOf_1 rfl ?_
  refine z_re (v' := iI ((0 : Nat) : Int)) (congrArg iI (by omega)) ?_
  refine m_put hx hb hts hin0 hown hK hP hD hS 0 rfl 0 (by decide) w_0 rfl (by decide +kernel) (Nat.le_of_ble_eq_true rfl) mW_put0 dX1_prideOf_2 (fun H locs hP hD hS => ?_)
  refine lv_aload_n hx hb dX1_prideOf_5 rfl (lv_at hl 0 rfl) ?_
  refine lv_iload_n hx hb dX1_prideOf_6 rfl (lv_at hl 1 rfl) ?_
  refine zc_i (va_runV (As := [.int (iI (p : Int))]) (rest := []) ⟨hx, hb, hml, hown, hts⟩ (c_X1_isPerson l G x a σ 0 (p : Int) (by omega) (by omega)) (cwV 1 hts gX1_prideOf_X1_isPerson rfl rfl rfl (by decide +kernel) ⟨Nat.le_of_ble_eq_true rfl, Nat.le_of_ble_eq_true rfl⟩) (preVM hK hP) rfl rfl hl.1 rfl (lv_room (Nat.le_of_ble_eq_true rfl)) dX1_prideOf_7 ⟨Nat.le_of_ble_eq_true rfl, Nat.le_of_ble_eq_true rfl⟩) ?_
  have f_1 := inn_or (p : Int) 0 ((σ.1 0 : Nat) - 1)
  refine z_if_eq (tgt := 22) hx hb dX1_prideOf_10 (by decide) (by omega) (fun c_2 => ?_) (fun c_2 => ?_)
  ·
    exfalso
    omega
  ·
    refine lv_aload_n hx hb dX1_prideOf_13 rfl (lv_at hl 0 rfl) ?_
    refine m_get (v := .ref (a 0)) hx hb hts hin0 hown hK hP 0 rfl 4 (by decide) w_1 rfl dX1_prideOf_14 ?_
    refine lv_iload_n hx hb dX1_prideOf_17 rfl (lv_at hl 1 rfl) ?_
    refine z_iald (v := iI (σ.2 0 p)) hx hb hK hP 1 0 rfl rfl (k := p) (by omega) (by decide) rfl dX1_prideOf_18 ?_
    have f_3 := hI.r0 p
    refine lv_goto (tgt := 27) hx hb dX1_prideOf_19 (by decide) ?_
    have hfin : σ = σ := by rfl
    rw [hfin] at hP
    have hfit : 0 = 0 := by rfl
    rw [hfit] at hP
    refine z_re (v' := iI (σ.2 0 p)) (congrArg iI (by first | rfl | omega)) ?_
    exact W.iret hx hb hr (fun t ht hW => ⟨⟨_, (), rfl, rfl, (by show va_P _ _ _ t.heap; rw [ht]; exact hP)⟩, hS.F ht⟩) hS.2.2 dX1_prideOf_27
set_option maxHeartbeats 4000000 in
set_option maxRecDepth 100000 in
theorem e1_X1_prideOf (l : Launch) (G : zG) (x : Nat) (a : Nat → Nat) (sz : Nat) (B : Nat) (σ : zS) (t : Nat) (z : Int) (hI : zI B σ) (hzb : -2147483648 ≤ z ∧ z < 2147483648) (hbad : z < 0 ∨ (σ.1 0 : Int) ≤ z) : Met l yX1_prideOf wsX1_prideOf ({ frames := 2, cells := 0, slots := 0, locals := 43 } : Room) (va_Pc [.ref x, .int (iI z)] (wM G x a t σ sz)) (va_Qi (fun r (_ : Unit) => r = iI 0) (fun _ t9 => va_P G.1 vwCl (mW G x a 1 σ) t9.heap) (zA x a sz)) 0 0 (zA x a sz) := by
  refine Met.ofW (cc := cX1_prideOf) (maxL := 2) (ret := (some .int)) (by decide) rfl ?_
  intro pp ee s m args below meth c s₁ B9 hml hv
  obtain ⟨rfl, hsz, hP, hK, hD0⟩ := hv
  subst hsz
  have hD := mW_zA (sz := s.heap.size) hD0
  have hS : va_S (zA x a s.heap.size) s.heap s.heap [] := va_S.rf
  have hx := B9.exec
  have hb := B9.bytes
  have hr := B9.returns
  have hts := atoms_spec (ws := wsX1_prideOf) B9.pre
  have hown : s.vm.findClass RX1 = some m.cls := findClass_of_methodNamed B9.named
  have hlocks := B9.notSynchronized
  have hin0 : ∀ w ∈ wsX10, w ∈ wsX1_prideOf := by decide +kernel
  have w_0 := hts (.fieldLink RX1 35 "ApologyLedgerModel" "thrown" "I") (by decide +kernel)
  have hl := lv_entry ([.ref x, .int (iI z)]) (n := 2) (Nat.le_of_ble_eq_true rfl)
  rw [lg_entry_eq]
  generalize (lg_sl ([.ref x, .int (iI z)]) ++ List.replicate (2 - (lg_sl ([.ref x, .int (iI z)])).length) Slot.unset).toArray = ls at hl ⊢
  have hl : lv_has ls 2 [(0, .ref x), (1, .int (iI z))] := hl
  have hIn := hI.n
  have hIb := hI.b
  refine lv_aload_n hx hb dX1_prideOf_0 rfl (lv_at hl 0 rfl) ?_
  refine lv_iconst (v := iI 0) hx hb dX1_prideOf_1 rfl ?_
  refine z_re (v' := iI ((0 : Nat) : Int)) (congrArg iI (by omega)) ?_
  refine m_put hx hb hts hin0 hown hK hP hD hS 0 rfl 0 (by decide) w_0 rfl (by decide +kernel) (Nat.le_of_ble_eq_true rfl) mW_put0 dX1_prideOf_2 (fun H locs hP hD hS => ?_)
  refine lv_aload_n hx hb dX1_prideOf_5 rfl (lv_at hl 0 rfl) ?_
  refine lv_iload_n hx hb dX1_prideOf_6 rfl (lv_at hl 1 rfl) ?_
  refine zc_i (va_runV (As := [.int (iI z)]) (rest := []) ⟨hx, hb, hml, hown, hts⟩ (c_X1_isPerson l G x a σ 0 z (by omega) (by omega)) (cwV 1 hts gX1_prideOf_X1_isPerson rfl rfl rfl (by decide +kernel) ⟨Nat.le_of_ble_eq_true rfl, Nat.le_of_ble_eq_true rfl⟩) (preVM hK hP) rfl rfl hl.1 rfl (lv_room (Nat.le_of_ble_eq_true rfl)) dX1_prideOf_7 ⟨Nat.le_of_ble_eq_true rfl, Nat.le_of_ble_eq_true rfl⟩) ?_
  have f_1 := inn_or z 0 ((σ.1 0 : Nat) - 1)
  refine z_if_eq (tgt := 22) hx hb dX1_prideOf_10 (by decide) (by omega) (fun c_2 => ?_) (fun c_2 => ?_)
  ·
    refine lv_aload_n hx hb dX1_prideOf_22 rfl (lv_at hl 0 rfl) ?_
    refine lv_iconst (v := iI 1) hx hb dX1_prideOf_23 rfl ?_
    refine z_re (v' := iI ((1 : Nat) : Int)) (congrArg iI (by omega)) ?_
    refine zc_wi (va_runV (As := [.int (iI ((1 : Nat) : Int))]) (rest := []) ⟨hx, hb, hml, hown, hts⟩ (c_X1_no l G x a _ σ 0 1) (cwV 1 hts gX1_prideOf_X1_no rfl rfl rfl (by decide +kernel) ⟨Nat.le_of_ble_eq_true rfl, Nat.le_of_ble_eq_true rfl⟩) (preWM hK hP hD) rfl rfl hl.1 rfl (lv_room (Nat.le_of_ble_eq_true rfl)) dX1_prideOf_24 ⟨Nat.le_of_ble_eq_true rfl, Nat.le_of_ble_eq_true rfl⟩) hS (fun q h => zA_mono hS.1 h) (fun H locs hP hS _ _ => ?_)
    have hD := mW_D (t' := 1) (σ' := σ) hD
    have hfin : σ = σ := by rfl
    rw [hfin] at hP
    have hfit : 1 = 1 := by rfl
    rw [hfit] at hP
    refine z_re (v' := iI 0) (congrArg iI (by first | rfl | omega)) ?_
    exact W.iret hx hb hr (fun t ht hW => ⟨⟨_, (), rfl, rfl, (by show va_P _ _ _ t.heap; rw [ht]; exact hP)⟩, hS.F ht⟩) hS.2.2 dX1_prideOf_27
  ·
    exfalso
    omega
set_option maxHeartbeats 4000000 in
set_option maxRecDepth 100000 in
theorem v_X1_borneBy (l : Launch) (G : zG) (x : Nat) (a : Nat → Nat) (sz : Nat) (B : Nat) (σ : zS) (t : Nat) (p : Nat) (hI : zI B σ) (hp : p < σ.1 0) : Met l yX1_borneBy wsX1_borneBy ({ frames := 2, cells := 0, slots := 0, locals := 43 } : Room) (va_Pc [.ref x, .int (iI (p : Int))] (wM G x a t σ sz)) (va_Qi (fun r (_ : Unit) => r = iI (bor σ (p : Int))) (fun _ t9 => va_P G.1 vwCl (mW G x a 0 σ) t9.heap) (zA x a sz)) 0 0 (zA x a sz) := by
  refine Met.ofW (cc := cX1_borneBy) (maxL := 2) (ret := (some .int)) (by decide) rfl ?_
  intro pp ee s m args below meth c s₁ B9 hml hv
  obtain ⟨rfl, hsz, hP, hK, hD0⟩ := hv
  subst hsz
  have hD := mW_zA (sz := s.heap.size) hD0
  have hS : va_S (zA x a s.heap.size) s.heap s.heap [] := va_S.rf
  have hx := B9.exec
  have hb := B9.bytes
  have hr := B9.returns
  have hts := atoms_spec (ws := wsX1_borneBy) B9.pre
  have hown : s.vm.findClass RX1 = some m.cls := findClass_of_methodNamed B9.named
  have hlocks := B9.notSynchronized
  have hin0 : ∀ w ∈ wsX10, w ∈ wsX1_borneBy := by decide +kernel
  have w_0 := hts (.fieldLink RX1 35 "ApologyLedgerModel" "thrown" "I") (by decide +kernel)
  have hl := lv_entry ([.ref x, .int (iI (p : Int))]) (n := 2) (Nat.le_of_ble_eq_true rfl)
  rw [lg_entry_eq]
  generalize (lg_sl ([.ref x, .int (iI (p : Int))]) ++ List.replicate (2 - (lg_sl ([.ref x, .int (iI (p : Int))])).length) Slot.unset).toArray = ls at hl ⊢
  have hl : lv_has ls 2 [(0, .ref x), (1, .int (iI (p : Int)))] := hl
  have hIn := hI.n
  have hIb := hI.b
  have g1 := hI.r1 p
  refine lv_aload_n hx hb dX1_borneBy_0 rfl (lv_at hl 0 rfl) ?_
  refine lv_iconst (v := iI 0) hx hb dX1_borneBy_1 rfl ?_
  refine z_re (v' := iI ((0 : Nat) : Int)) (congrArg iI (by omega)) ?_
  refine m_put hx hb hts hin0 hown hK hP hD hS 0 rfl 0 (by decide) w_0 rfl (by decide +kernel) (Nat.le_of_ble_eq_true rfl) mW_put0 dX1_borneBy_2 (fun H locs hP hD hS => ?_)
  refine lv_aload_n hx hb dX1_borneBy_5 rfl (lv_at hl 0 rfl) ?_
  refine lv_iload_n hx hb dX1_borneBy_6 rfl (lv_at hl 1 rfl) ?_
  refine zc_i (va_runV (As := [.int (iI (p : Int))]) (rest := []) ⟨hx, hb, hml, hown, hts⟩ (c_X1_isPerson l G x a σ 0 (p : Int) (by omega) (by omega)) (cwV 1 hts gX1_borneBy_X1_isPerson rfl rfl rfl (by decide +kernel) ⟨Nat.le_of_ble_eq_true rfl, Nat.le_of_ble_eq_true rfl⟩) (preVM hK hP) rfl rfl hl.1 rfl (lv_room (Nat.le_of_ble_eq_true rfl)) dX1_borneBy_7 ⟨Nat.le_of_ble_eq_true rfl, Nat.le_of_ble_eq_true rfl⟩) ?_
  have f_1 := inn_or (p : Int) 0 ((σ.1 0 : Nat) - 1)
  refine z_if_eq (tgt := 22) hx hb dX1_borneBy_10 (by decide) (by omega) (fun c_2 => ?_) (fun c_2 => ?_)
  ·
    exfalso
    omega
  ·
    refine lv_aload_n hx hb dX1_borneBy_13 rfl (lv_at hl 0 rfl) ?_
    refine lv_iconst (v := iI (-1)) hx hb dX1_borneBy_14 rfl ?_
    refine lv_iload_n hx hb dX1_borneBy_15 rfl (lv_at hl 1 rfl) ?_
    refine zc_i (va_runV (As := [.int (iI (-1)), .int (iI (p : Int))]) (rest := []) ⟨hx, hb, hml, hown, hts⟩ (c_done_b l G x a B σ 0 (p : Int) hI (by omega)) (cwV 2 hts gX1_borneBy_X1_done rfl rfl rfl (by decide +kernel) ⟨Nat.le_of_ble_eq_true rfl, Nat.le_of_ble_eq_true rfl⟩) (preVM hK hP) rfl rfl hl.1 rfl (lv_room (Nat.le_of_ble_eq_true rfl)) dX1_borneBy_16 ⟨Nat.le_of_ble_eq_true rfl, Nat.le_of_ble_eq_true rfl⟩) ?_
    have f_3 := bor_bd hI (p : Int)
    refine lv_goto (tgt := 27) hx hb dX1_borneBy_19 (by decide) ?_
    have hfin : σ = σ := by rfl
    rw [hfin] at hP
    have hfit : 0 = 0 := by rfl
    rw [hfit] at hP
    refine z_re (v' := iI (bor σ (p : Int))) (congrArg iI (by first | rfl | omega)) ?_
    exact W.iret hx hb hr (fun t ht hW => ⟨⟨_, (), rfl, rfl, (by show va_P _ _ _ t.heap; rw [ht]; exact hP)⟩, hS.F ht⟩) hS.2.2 dX1_borneBy_27
set_option maxHeartbeats 4000000 in
set_option maxRecDepth 100000 in
theorem e1_X1_borneBy (l : Launch) (G : zG) (x : Nat) (a : Nat → Nat) (sz : Nat) (B : Nat) (σ : zS) (t : Nat) (z : Int) (hI : zI B σ) (hzb : -2147483648 ≤ z ∧ z < 2147483648) (hbad : z < 0 ∨ (σ.1 0 : Int) ≤ z) : Met l yX1_borneBy wsX1_borneBy ({ frames := 2, cells := 0, slots := 0, locals := 43 } : Room) (va_Pc [.ref x, .int (iI z)] (wM G x a t σ sz)) (va_Qi (fun r (_ : Unit) => r = iI 0) (fun _ t9 => va_P G.1 vwCl (mW G x a 1 σ) t9.heap) (zA x a sz)) 0 0 (zA x a sz) := by
  refine Met.ofW (cc := cX1_borneBy) (maxL := 2) (ret := (some .int)) (by decide) rfl ?_
  intro pp ee s m args below meth c s₁ B9 hml hv
  obtain ⟨rfl, hsz, hP, hK, hD0⟩ := hv
  subst hsz
  have hD := mW_zA (sz := s.heap.size) hD0
  have hS : va_S (zA x a s.heap.size) s.heap s.heap [] := va_S.rf
  have hx := B9.exec
  have hb := B9.bytes
  have hr := B9.returns
  have hts := atoms_spec (ws := wsX1_borneBy) B9.pre
  have hown : s.vm.findClass RX1 = some m.cls := findClass_of_methodNamed B9.named
  have hlocks := B9.notSynchronized
  have hin0 : ∀ w ∈ wsX10, w ∈ wsX1_borneBy := by decide +kernel
  have w_0 := hts (.fieldLink RX1 35 "ApologyLedgerModel" "thrown" "I") (by decide +kernel)
  have hl := lv_entry ([.ref x, .int (iI z)]) (n := 2) (Nat.le_of_ble_eq_true rfl)
  rw [lg_entry_eq]
  generalize (lg_sl ([.ref x, .int (iI z)]) ++ List.replicate (2 - (lg_sl ([.ref x, .int (iI z)])).length) Slot.unset).toArray = ls at hl ⊢
  have hl : lv_has ls 2 [(0, .ref x), (1, .int (iI z))] := hl
  have hIn := hI.n
  have hIb := hI.b
  refine lv_aload_n hx hb dX1_borneBy_0 rfl (lv_at hl 0 rfl) ?_
  refine lv_iconst (v := iI 0) hx hb dX1_borneBy_1 rfl ?_
  refine z_re (v' := iI ((0 : Nat) : Int)) (congrArg iI (by omega)) ?_
  refine m_put hx hb hts hin0 hown hK hP hD hS 0 rfl 0 (by decide) w_0 rfl (by decide +kernel) (Nat.le_of_ble_eq_true rfl) mW_put0 dX1_borneBy_2 (fun H locs hP hD hS => ?_)
  refine lv_aload_n hx hb dX1_borneBy_5 rfl (lv_at hl 0 rfl) ?_
  refine lv_iload_n hx hb dX1_borneBy_6 rfl (lv_at hl 1 rfl) ?_
  refine zc_i (va_runV (As := [.int (iI z)]) (rest := []) ⟨hx, hb, hml, hown, hts⟩ (c_X1_isPerson l G x a σ 0 z (by omega) (by omega)) (cwV 1 hts gX1_borneBy_X1_isPerson rfl rfl rfl (by decide +kernel) ⟨Nat.le_of_ble_eq_true rfl, Nat.le_of_ble_eq_true rfl⟩) (preVM hK hP) rfl rfl hl.1 rfl (lv_room (Nat.le_of_ble_eq_true rfl)) dX1_borneBy_7 ⟨Nat.le_of_ble_eq_true rfl, Nat.le_of_ble_eq_true rfl⟩) ?_
  have f_1 := inn_or z 0 ((σ.1 0 : Nat) - 1)
  refine z_if_eq (tgt := 22) hx hb dX1_borneBy_10 (by decide) (by omega) (fun c_2 => ?_) (fun c_2 => ?_)
  ·
    refine lv_aload_n hx hb dX1_borneBy_22 rfl (lv_at hl 0 rfl) ?_
    refine lv_iconst (v := iI 1) hx hb dX1_borneBy_23 rfl ?_
    refine z_re (v' := iI ((1 : Nat) : Int)) (congrArg iI (by omega)) ?_
    refine zc_wi (va_runV (As := [.int (iI ((1 : Nat) : Int))]) (rest := []) ⟨hx, hb, hml, hown, hts⟩ (c_X1_no l G x a _ σ 0 1) (cwV 1 hts gX1_borneBy_X1_no rfl rfl rfl (by decide +kernel) ⟨Nat.le_of_ble_eq_true rfl, Nat.le_of_ble_eq_true rfl⟩) (preWM hK hP hD) rfl rfl hl.1 rfl (lv_room (Nat.le_of_ble_eq_true rfl)) dX1_borneBy_24 ⟨Nat.le_of_ble_eq_true rfl, Nat.le_of_ble_eq_true rfl⟩) hS (fun q h => zA_mono hS.1 h) (fun H locs hP hS _ _ => ?_)
    have hD := mW_D (t' := 1) (σ' := σ) hD
    have hfin : σ = σ := by rfl
    rw [hfin] at hP
    have hfit : 1 = 1 := by rfl
    rw [hfit] at hP
    refine z_re (v' := iI 0) (congrArg iI (by first | rfl | omega)) ?_
    exact W.iret hx hb hr (fun t ht hW => ⟨⟨_, (), rfl, rfl, (by show va_P _ _ _ t.heap; rw [ht]; exact hP)⟩, hS.F ht⟩) hS.2.2 dX1_borneBy_27
  ·
    exfalso
    omega
set_option maxHeartbeats 4000000 in
set_option maxRecDepth 100000 in
theorem v_X1_owedBy (l : Launch) (G : zG) (x : Nat) (a : Nat → Nat) (sz : Nat) (B : Nat) (σ : zS) (t : Nat) (p : Nat) (hI : zI B σ) (hp : p < σ.1 0) : Met l yX1_owedBy wsX1_owedBy ({ frames := 2, cells := 0, slots := 0, locals := 43 } : Room) (va_Pc [.ref x, .int (iI (p : Int))] (wM G x a t σ sz)) (va_Qi (fun r (_ : Unit) => r = iI (owe σ (p : Int))) (fun _ t9 => va_P G.1 vwCl (mW G x a 0 σ) t9.heap) (zA x a sz)) 0 0 (zA x a sz) := by
  refine Met.ofW (cc := cX1_owedBy) (maxL := 2) (ret := (some .int)) (by decide) rfl ?_
  intro pp ee s m args below meth c s₁ B9 hml hv
  obtain ⟨rfl, hsz, hP, hK, hD0⟩ := hv
  subst hsz
  have hD := mW_zA (sz := s.heap.size) hD0
  have hS : va_S (zA x a s.heap.size) s.heap s.heap [] := va_S.rf
  have hx := B9.exec
  have hb := B9.bytes
  have hr := B9.returns
  have hts := atoms_spec (ws := wsX1_owedBy) B9.pre
  have hown : s.vm.findClass RX1 = some m.cls := findClass_of_methodNamed B9.named
  have hlocks := B9.notSynchronized
  have hin0 : ∀ w ∈ wsX10, w ∈ wsX1_owedBy := by decide +kernel
  have w_0 := hts (.fieldLink RX1 35 "ApologyLedgerModel" "thrown" "I") (by decide +kernel)
  have hl := lv_entry ([.ref x, .int (iI (p : Int))]) (n := 2) (Nat.le_of_ble_eq_true rfl)
  rw [lg_entry_eq]
  generalize (lg_sl ([.ref x, .int (iI (p : Int))]) ++ List.replicate (2 - (lg_sl ([.ref x, .int (iI (p : Int))])).length) Slot.unset).toArray = ls at hl ⊢
  have hl : lv_has ls 2 [(0, .ref x), (1, .int (iI (p : Int)))] := hl
  have hIn := hI.n
  have hIb := hI.b
  have g1 := hI.r1 p
  refine lv_aload_n hx hb dX1_owedBy_0 rfl (lv_at hl 0 rfl) ?_
  refine lv_iconst (v := iI 0) hx hb dX1_owedBy_1 rfl ?_
  refine z_re (v' := iI ((0 : Nat) : Int)) (congrArg iI (by omega)) ?_
  refine m_put hx hb hts hin0 hown hK hP hD hS 0 rfl 0 (by decide) w_0 rfl (by decide +kernel) (Nat.le_of_ble_eq_true rfl) mW_put0 dX1_owedBy_2 (fun H locs hP hD hS => ?_)
  refine lv_aload_n hx hb dX1_owedBy_5 rfl (lv_at hl 0 rfl) ?_
  refine lv_iload_n hx hb dX1_owedBy_6 rfl (lv_at hl 1 rfl) ?_
  refine zc_i (va_runV (As := [.int (iI (p : Int))]) (rest := []) ⟨hx, hb, hml, hown, hts⟩ (c_X1_isPerson l G x a σ 0 (p : Int) (by omega) (by omega)) (cwV 1 hts gX1_owedBy_X1_isPerson rfl rfl rfl (by decide +kernel) ⟨Nat.le_of_ble_eq_true rfl, Nat.le_of_ble_eq_true rfl⟩) (preVM hK hP) rfl rfl hl.1 rfl (lv_room (Nat.le_of_ble_eq_true rfl)) dX1_owedBy_7 ⟨Nat.le_of_ble_eq_true rfl, Nat.le_of_ble_eq_true rfl⟩) ?_
  have f_1 := inn_or (p : Int) 0 ((σ.1 0 : Nat) - 1)
  refine z_if_eq (tgt := 22) hx hb dX1_owedBy_10 (by decide) (by omega) (fun c_2 => ?_) (fun c_2 => ?_)
  ·
    exfalso
    omega
  ·
    refine lv_aload_n hx hb dX1_owedBy_13 rfl (lv_at hl 0 rfl) ?_
    refine lv_iload_n hx hb dX1_owedBy_14 rfl (lv_at hl 1 rfl) ?_
    refine lv_iconst (v := iI (-1)) hx hb dX1_owedBy_15 rfl ?_
    refine zc_i (va_runV (As := [.int (iI (p : Int)), .int (iI (-1))]) (rest := []) ⟨hx, hb, hml, hown, hts⟩ (c_done_o l G x a B σ 0 (p : Int) hI (by omega)) (cwV 2 hts gX1_owedBy_X1_done rfl rfl rfl (by decide +kernel) ⟨Nat.le_of_ble_eq_true rfl, Nat.le_of_ble_eq_true rfl⟩) (preVM hK hP) rfl rfl hl.1 rfl (lv_room (Nat.le_of_ble_eq_true rfl)) dX1_owedBy_16 ⟨Nat.le_of_ble_eq_true rfl, Nat.le_of_ble_eq_true rfl⟩) ?_
    have f_3 := owe_bd hI (p : Int)
    refine lv_goto (tgt := 27) hx hb dX1_owedBy_19 (by decide) ?_
    have hfin : σ = σ := by rfl
    rw [hfin] at hP
    have hfit : 0 = 0 := by rfl
    rw [hfit] at hP
    refine z_re (v' := iI (owe σ (p : Int))) (congrArg iI (by first | rfl | omega)) ?_
    exact W.iret hx hb hr (fun t ht hW => ⟨⟨_, (), rfl, rfl, (by show va_P _ _ _ t.heap; rw [ht]; exact hP)⟩, hS.F ht⟩) hS.2.2 dX1_owedBy_27
set_option maxHeartbeats 4000000 in
set_option maxRecDepth 100000 in
theorem e1_X1_owedBy (l : Launch) (G : zG) (x : Nat) (a : Nat → Nat) (sz : Nat) (B : Nat) (σ : zS) (t : Nat) (z : Int) (hI : zI B σ) (hzb : -2147483648 ≤ z ∧ z < 2147483648) (hbad : z < 0 ∨ (σ.1 0 : Int) ≤ z) : Met l yX1_owedBy wsX1_owedBy ({ frames := 2, cells := 0, slots := 0, locals := 43 } : Room) (va_Pc [.ref x, .int (iI z)] (wM G x a t σ sz)) (va_Qi (fun r (_ : Unit) => r = iI 0) (fun _ t9 => va_P G.1 vwCl (mW G x a 1 σ) t9.heap) (zA x a sz)) 0 0 (zA x a sz) := by
  refine Met.ofW (cc := cX1_owedBy) (maxL := 2) (ret := (some .int)) (by decide) rfl ?_
  intro pp ee s m args below meth c s₁ B9 hml hv
  obtain ⟨rfl, hsz, hP, hK, hD0⟩ := hv
  subst hsz
  have hD := mW_zA (sz := s.heap.size) hD0
  have hS : va_S (zA x a s.heap.size) s.heap s.heap [] := va_S.rf
  have hx := B9.exec
  have hb := B9.bytes
  have hr := B9.returns
  have hts := atoms_spec (ws := wsX1_owedBy) B9.pre
  have hown : s.vm.findClass RX1 = some m.cls := findClass_of_methodNamed B9.named
  have hlocks := B9.notSynchronized
  have hin0 : ∀ w ∈ wsX10, w ∈ wsX1_owedBy := by decide +kernel
  have w_0 := hts (.fieldLink RX1 35 "ApologyLedgerModel" "thrown" "I") (by decide +kernel)
  have hl := lv_entry ([.ref x, .int (iI z)]) (n := 2) (Nat.le_of_ble_eq_true rfl)
  rw [lg_entry_eq]
  generalize (lg_sl ([.ref x, .int (iI z)]) ++ List.replicate (2 - (lg_sl ([.ref x, .int (iI z)])).length) Slot.unset).toArray = ls at hl ⊢
  have hl : lv_has ls 2 [(0, .ref x), (1, .int (iI z))] := hl
  have hIn := hI.n
  have hIb := hI.b
  refine lv_aload_n hx hb dX1_owedBy_0 rfl (lv_at hl 0 rfl) ?_
  refine lv_iconst (v := iI 0) hx hb dX1_owedBy_1 rfl ?_
  refine z_re (v' := iI ((0 : Nat) : Int)) (congrArg iI (by omega)) ?_
  refine m_put hx hb hts hin0 hown hK hP hD hS 0 rfl 0 (by decide) w_0 rfl (by decide +kernel) (Nat.le_of_ble_eq_true rfl) mW_put0 dX1_owedBy_2 (fun H locs hP hD hS => ?_)
  refine lv_aload_n hx hb dX1_owedBy_5 rfl (lv_at hl 0 rfl) ?_
  refine lv_iload_n hx hb dX1_owedBy_6 rfl (lv_at hl 1 rfl) ?_
  refine zc_i (va_runV (As := [.int (iI z)]) (rest := []) ⟨hx, hb, hml, hown, hts⟩ (c_X1_isPerson l G x a σ 0 z (by omega) (by omega)) (cwV 1 hts gX1_owedBy_X1_isPerson rfl rfl rfl (by decide +kernel) ⟨Nat.le_of_ble_eq_true rfl, Nat.le_of_ble_eq_true rfl⟩) (preVM hK hP) rfl rfl hl.1 rfl (lv_room (Nat.le_of_ble_eq_true rfl)) dX1_owedBy_7 ⟨Nat.le_of_ble_eq_true rfl, Nat.le_of_ble_eq_true rfl⟩) ?_
  have f_1 := inn_or z 0 ((σ.1 0 : Nat) - 1)
  refine z_if_eq (tgt := 22) hx hb dX1_owedBy_10 (by decide) (by omega) (fun c_2 => ?_) (fun c_2 => ?_)
  ·
    refine lv_aload_n hx hb dX1_owedBy_22 rfl (lv_at hl 0 rfl) ?_
    refine lv_iconst (v := iI 1) hx hb dX1_owedBy_23 rfl ?_
    refine z_re (v' := iI ((1 : Nat) : Int)) (congrArg iI (by omega)) ?_
    refine zc_wi (va_runV (As := [.int (iI ((1 : Nat) : Int))]) (rest := []) ⟨hx, hb, hml, hown, hts⟩ (c_X1_no l G x a _ σ 0 1) (cwV 1 hts gX1_owedBy_X1_no rfl rfl rfl (by decide +kernel) ⟨Nat.le_of_ble_eq_true rfl, Nat.le_of_ble_eq_true rfl⟩) (preWM hK hP hD) rfl rfl hl.1 rfl (lv_room (Nat.le_of_ble_eq_true rfl)) dX1_owedBy_24 ⟨Nat.le_of_ble_eq_true rfl, Nat.le_of_ble_eq_true rfl⟩) hS (fun q h => zA_mono hS.1 h) (fun H locs hP hS _ _ => ?_)
    have hD := mW_D (t' := 1) (σ' := σ) hD
    have hfin : σ = σ := by rfl
    rw [hfin] at hP
    have hfit : 1 = 1 := by rfl
    rw [hfit] at hP
    refine z_re (v' := iI 0) (congrArg iI (by first | rfl | omega)) ?_
    exact W.iret hx hb hr (fun t ht hW => ⟨⟨_, (), rfl, rfl, (by show va_P _ _ _ t.heap; rw [ht]; exact hP)⟩, hS.F ht⟩) hS.2.2 dX1_owedBy_27
  ·
    exfalso
    omega
set_option maxHeartbeats 4000000 in
set_option maxRecDepth 100000 in
theorem v_X1_worstToKeep (l : Launch) (G : zG) (x : Nat) (a : Nat → Nat) (sz : Nat) (B : Nat) (σ : zS) (t : Nat) (p : Nat) (hI : zI B σ) (hp : p < σ.1 0) : Met l yX1_worstToKeep wsX1_worstToKeep ({ frames := 4, cells := 0, slots := 0, locals := 93 } : Room) (va_Pc [.ref x, .int (iI (p : Int))] (wM G x a t σ sz)) (va_Qi (fun r (_ : Unit) => r = iI (wor σ (p : Int))) (fun _ t9 => va_P G.1 vwCl (mW G x a 0 σ) t9.heap) (zA x a sz)) 0 0 (zA x a sz) := by
  refine Met.ofW (cc := cX1_worstToKeep) (maxL := 2) (ret := (some .int)) (by decide) rfl ?_
  intro pp ee s m args below meth c s₁ B9 hml hv
  obtain ⟨rfl, hsz, hP, hK, hD0⟩ := hv
  subst hsz
  have hD := mW_zA (sz := s.heap.size) hD0
  have hS : va_S (zA x a s.heap.size) s.heap s.heap [] := va_S.rf
  have hx := B9.exec
  have hb := B9.bytes
  have hr := B9.returns
  have hts := atoms_spec (ws := wsX1_worstToKeep) B9.pre
  have hown : s.vm.findClass RX1 = some m.cls := findClass_of_methodNamed B9.named
  have hlocks := B9.notSynchronized
  have hin0 : ∀ w ∈ wsX10, w ∈ wsX1_worstToKeep := by decide +kernel
  have w_0 := hts (.fieldLink RX1 35 "ApologyLedgerModel" "thrown" "I") (by decide +kernel)
  have hl := lv_entry ([.ref x, .int (iI (p : Int))]) (n := 2) (Nat.le_of_ble_eq_true rfl)
  rw [lg_entry_eq]
  generalize (lg_sl ([.ref x, .int (iI (p : Int))]) ++ List.replicate (2 - (lg_sl ([.ref x, .int (iI (p : Int))])).length) Slot.unset).toArray = ls at hl ⊢
  have hl : lv_has ls 2 [(0, .ref x), (1, .int (iI (p : Int)))] := hl
  have hIn := hI.n
  have hIb := hI.b
  have g1 := hI.r1 p
  refine lv_aload_n hx hb dX1_worstToKeep_0 rfl (lv_at hl 0 rfl) ?_
  refine lv_iconst (v := iI 0) hx hb dX1_worstToKeep_1 rfl ?_
  refine z_re (v' := iI ((0 : Nat) : Int)) (congrArg iI (by omega)) ?_
  refine m_put hx hb hts hin0 hown hK hP hD hS 0 rfl 0 (by decide) w_0 rfl (by decide +kernel) (Nat.le_of_ble_eq_true rfl) mW_put0 dX1_worstToKeep_2 (fun H locs hP hD hS => ?_)
  refine lv_aload_n hx hb dX1_worstToKeep_5 rfl (lv_at hl 0 rfl) ?_
  refine lv_iload_n hx hb dX1_worstToKeep_6 rfl (lv_at hl 1 rfl) ?_
  refine zc_i (va_runV (As := [.int (iI (p : Int))]) (rest := []) ⟨hx, hb, hml, hown, hts⟩ (c_X1_isPerson l G x a σ 0 (p : Int) (by omega) (by omega)) (cwV 1 hts gX1_worstToKeep_X1_isPerson rfl rfl rfl (by decide +kernel) ⟨Nat.le_of_ble_eq_true rfl, Nat.le_of_ble_eq_true rfl⟩) (preVM hK hP) rfl rfl hl.1 rfl (lv_room (Nat.le_of_ble_eq_true rfl)) dX1_worstToKeep_7 ⟨Nat.le_of_ble_eq_true rfl, Nat.le_of_ble_eq_true rfl⟩) ?_
  have f_1 := inn_or (p : Int) 0 ((σ.1 0 : Nat) - 1)
  refine z_if_eq (tgt := 21) hx hb dX1_worstToKeep_10 (by decide) (by omega) (fun c_2 => ?_) (fun c_2 => ?_)
  ·
    exfalso
    omega
  ·
    refine lv_aload_n hx hb dX1_worstToKeep_13 rfl (lv_at hl 0 rfl) ?_
    refine lv_iload_n hx hb dX1_worstToKeep_14 rfl (lv_at hl 1 rfl) ?_
    refine zc_i (va_runV (As := [.int (iI (p : Int))]) (rest := []) ⟨hx, hb, hml, hown, hts⟩ (c_X1_worst l G x a B σ 0 p hI (by omega)) (cwV 1 hts gX1_worstToKeep_X1_worst rfl rfl rfl (by decide +kernel) ⟨Nat.le_of_ble_eq_true rfl, Nat.le_of_ble_eq_true rfl⟩) (preVM hK hP) rfl rfl hl.1 rfl (lv_room (Nat.le_of_ble_eq_true rfl)) dX1_worstToKeep_15 ⟨Nat.le_of_ble_eq_true rfl, Nat.le_of_ble_eq_true rfl⟩) ?_
    refine lv_goto (tgt := 26) hx hb dX1_worstToKeep_18 (by decide) ?_
    have hfin : σ = σ := by rfl
    rw [hfin] at hP
    have hfit : 0 = 0 := by rfl
    rw [hfit] at hP
    refine z_re (v' := iI (wor σ (p : Int))) (congrArg iI (by first | rfl | omega)) ?_
    exact W.iret hx hb hr (fun t ht hW => ⟨⟨_, (), rfl, rfl, (by show va_P _ _ _ t.heap; rw [ht]; exact hP)⟩, hS.F ht⟩) hS.2.2 dX1_worstToKeep_26
set_option maxHeartbeats 4000000 in
set_option maxRecDepth 100000 in
theorem e1_X1_worstToKeep (l : Launch) (G : zG) (x : Nat) (a : Nat → Nat) (sz : Nat) (B : Nat) (σ : zS) (t : Nat) (z : Int) (hI : zI B σ) (hzb : -2147483648 ≤ z ∧ z < 2147483648) (hbad : z < 0 ∨ (σ.1 0 : Int) ≤ z) : Met l yX1_worstToKeep wsX1_worstToKeep ({ frames := 2, cells := 0, slots := 0, locals := 43 } : Room) (va_Pc [.ref x, .int (iI z)] (wM G x a t σ sz)) (va_Qi (fun r (_ : Unit) => r = iI 0) (fun _ t9 => va_P G.1 vwCl (mW G x a 1 σ) t9.heap) (zA x a sz)) 0 0 (zA x a sz) := by
  refine Met.ofW (cc := cX1_worstToKeep) (maxL := 2) (ret := (some .int)) (by decide) rfl ?_
  intro pp ee s m args below meth c s₁ B9 hml hv
  obtain ⟨rfl, hsz, hP, hK, hD0⟩ := hv
  subst hsz
  have hD := mW_zA (sz := s.heap.size) hD0
  have hS : va_S (zA x a s.heap.size) s.heap s.heap [] := va_S.rf
  have hx := B9.exec
  have hb := B9.bytes
  have hr := B9.returns
  have hts := atoms_spec (ws := wsX1_worstToKeep) B9.pre
  have hown : s.vm.findClass RX1 = some m.cls := findClass_of_methodNamed B9.named
  have hlocks := B9.notSynchronized
  have hin0 : ∀ w ∈ wsX10, w ∈ wsX1_worstToKeep := by decide +kernel
  have w_0 := hts (.fieldLink RX1 35 "ApologyLedgerModel" "thrown" "I") (by decide +kernel)
  have hl := lv_entry ([.ref x, .int (iI z)]) (n := 2) (Nat.le_of_ble_eq_true rfl)
  rw [lg_entry_eq]
  generalize (lg_sl ([.ref x, .int (iI z)]) ++ List.replicate (2 - (lg_sl ([.ref x, .int (iI z)])).length) Slot.unset).toArray = ls at hl ⊢
  have hl : lv_has ls 2 [(0, .ref x), (1, .int (iI z))] := hl
  have hIn := hI.n
  have hIb := hI.b
  refine lv_aload_n hx hb dX1_worstToKeep_0 rfl (lv_at hl 0 rfl) ?_
  refine lv_iconst (v := iI 0) hx hb dX1_worstToKeep_1 rfl ?_
  refine z_re (v' := iI ((0 : Nat) : Int)) (congrArg iI (by omega)) ?_
  refine m_put hx hb hts hin0 hown hK hP hD hS 0 rfl 0 (by decide) w_0 rfl (by decide +kernel) (Nat.le_of_ble_eq_true rfl) mW_put0 dX1_worstToKeep_2 (fun H locs hP hD hS => ?_)
  refine lv_aload_n hx hb dX1_worstToKeep_5 rfl (lv_at hl 0 rfl) ?_
  refine lv_iload_n hx hb dX1_worstToKeep_6 rfl (lv_at hl 1 rfl) ?_
  refine zc_i (va_runV (As := [.int (iI z)]) (rest := []) ⟨hx, hb, hml, hown, hts⟩ (c_X1_isPerson l G x a σ 0 z (by omega) (by omega)) (cwV 1 hts gX1_worstToKeep_X1_isPerson rfl rfl rfl (by decide +kernel) ⟨Nat.le_of_ble_eq_true rfl, Nat.le_of_ble_eq_true rfl⟩) (preVM hK hP) rfl rfl hl.1 rfl (lv_room (Nat.le_of_ble_eq_true rfl)) dX1_worstToKeep_7 ⟨Nat.le_of_ble_eq_true rfl, Nat.le_of_ble_eq_true rfl⟩) ?_
  have f_1 := inn_or z 0 ((σ.1 0 : Nat) - 1)
  refine z_if_eq (tgt := 21) hx hb dX1_worstToKeep_10 (by decide) (by omega) (fun c_2 => ?_) (fun c_2 => ?_)
  ·
    refine lv_aload_n hx hb dX1_worstToKeep_21 rfl (lv_at hl 0 rfl) ?_
    refine lv_iconst (v := iI 1) hx hb dX1_worstToKeep_22 rfl ?_
    refine z_re (v' := iI ((1 : Nat) : Int)) (congrArg iI (by omega)) ?_
    refine zc_wi (va_runV (As := [.int (iI ((1 : Nat) : Int))]) (rest := []) ⟨hx, hb, hml, hown, hts⟩ (c_X1_no l G x a _ σ 0 1) (cwV 1 hts gX1_worstToKeep_X1_no rfl rfl rfl (by decide +kernel) ⟨Nat.le_of_ble_eq_true rfl, Nat.le_of_ble_eq_true rfl⟩) (preWM hK hP hD) rfl rfl hl.1 rfl (lv_room (Nat.le_of_ble_eq_true rfl)) dX1_worstToKeep_23 ⟨Nat.le_of_ble_eq_true rfl, Nat.le_of_ble_eq_true rfl⟩) hS (fun q h => zA_mono hS.1 h) (fun H locs hP hS _ _ => ?_)
    have hD := mW_D (t' := 1) (σ' := σ) hD
    have hfin : σ = σ := by rfl
    rw [hfin] at hP
    have hfit : 1 = 1 := by rfl
    rw [hfit] at hP
    refine z_re (v' := iI 0) (congrArg iI (by first | rfl | omega)) ?_
    exact W.iret hx hb hr (fun t ht hW => ⟨⟨_, (), rfl, rfl, (by show va_P _ _ _ t.heap; rw [ht]; exact hP)⟩, hS.F ht⟩) hS.2.2 dX1_worstToKeep_26
  ·
    exfalso
    omega
set_option maxHeartbeats 4000000 in
set_option maxRecDepth 100000 in
theorem v_X1_witnessesFor (l : Launch) (G : zG) (x : Nat) (a : Nat → Nat) (sz : Nat) (B : Nat) (σ : zS) (t : Nat) (k : Nat) (hI : zI B σ) (hk : k < σ.1 1) : Met l yX1_witnessesFor wsX1_witnessesFor ({ frames := 2, cells := 0, slots := 0, locals := 43 } : Room) (va_Pc [.ref x, .int (iI (k : Int))] (wM G x a t σ sz)) (va_Qi (fun r (_ : Unit) => r = iI (wit σ k)) (fun _ t9 => va_P G.1 vwCl (mW G x a 0 σ) t9.heap) (zA x a sz)) 0 0 (zA x a sz) := by
  refine Met.ofW (cc := cX1_witnessesFor) (maxL := 2) (ret := (some .int)) (by decide) rfl ?_
  intro pp ee s m args below meth c s₁ B9 hml hv
  obtain ⟨rfl, hsz, hP, hK, hD0⟩ := hv
  subst hsz
  have hD := mW_zA (sz := s.heap.size) hD0
  have hS : va_S (zA x a s.heap.size) s.heap s.heap [] := va_S.rf
  have hx := B9.exec
  have hb := B9.bytes
  have hr := B9.returns
  have hts := atoms_spec (ws := wsX1_witnessesFor) B9.pre
  have hown : s.vm.findClass RX1 = some m.cls := findClass_of_methodNamed B9.named
  have hlocks := B9.notSynchronized
  have hin0 : ∀ w ∈ wsX10, w ∈ wsX1_witnessesFor := by decide +kernel
  have w_0 := hts (.fieldLink RX1 35 "ApologyLedgerModel" "thrown" "I") (by decide +kernel)
  have hl := lv_entry ([.ref x, .int (iI (k : Int))]) (n := 2) (Nat.le_of_ble_eq_true rfl)
  rw [lg_entry_eq]
  generalize (lg_sl ([.ref x, .int (iI (k : Int))]) ++ List.replicate (2 - (lg_sl ([.ref x, .int (iI (k : Int))])).length) Slot.unset).toArray = ls at hl ⊢
  have hl : lv_has ls 2 [(0, .ref x), (1, .int (iI (k : Int)))] := hl
  have hIn := hI.n
  have hIb := hI.b
  refine lv_aload_n hx hb dX1_witnessesFor_0 rfl (lv_at hl 0 rfl) ?_
  refine lv_iconst (v := iI 0) hx hb dX1_witnessesFor_1 rfl ?_
  refine z_re (v' := iI ((0 : Nat) : Int)) (congrArg iI (by omega)) ?_
  refine m_put hx hb hts hin0 hown hK hP hD hS 0 rfl 0 (by decide) w_0 rfl (by decide +kernel) (Nat.le_of_ble_eq_true rfl) mW_put0 dX1_witnessesFor_2 (fun H locs hP hD hS => ?_)
  refine lv_aload_n hx hb dX1_witnessesFor_5 rfl (lv_at hl 0 rfl) ?_
  refine lv_iload_n hx hb dX1_witnessesFor_6 rfl (lv_at hl 1 rfl) ?_
  refine zc_i (va_runV (As := [.int (iI (k : Int))]) (rest := []) ⟨hx, hb, hml, hown, hts⟩ (c_X1_isSlight l G x a σ 0 (k : Int) (by omega) (by omega)) (cwV 1 hts gX1_witnessesFor_X1_isSlight rfl rfl rfl (by decide +kernel) ⟨Nat.le_of_ble_eq_true rfl, Nat.le_of_ble_eq_true rfl⟩) (preVM hK hP) rfl rfl hl.1 rfl (lv_room (Nat.le_of_ble_eq_true rfl)) dX1_witnessesFor_7 ⟨Nat.le_of_ble_eq_true rfl, Nat.le_of_ble_eq_true rfl⟩) ?_
  have f_1 := inn_or (k : Int) 0 ((σ.1 1 : Nat) - 1)
  refine z_if_eq (tgt := 21) hx hb dX1_witnessesFor_10 (by decide) (by omega) (fun c_2 => ?_) (fun c_2 => ?_)
  ·
    exfalso
    omega
  ·
    refine lv_aload_n hx hb dX1_witnessesFor_13 rfl (lv_at hl 0 rfl) ?_
    refine lv_iload_n hx hb dX1_witnessesFor_14 rfl (lv_at hl 1 rfl) ?_
    refine zc_i (va_runV (As := [.int (iI (k : Int))]) (rest := []) ⟨hx, hb, hml, hown, hts⟩ (c_X1_witnesses l G x a B σ 0 k hI (by omega)) (cwV 1 hts gX1_witnessesFor_X1_witnesses rfl rfl rfl (by decide +kernel) ⟨Nat.le_of_ble_eq_true rfl, Nat.le_of_ble_eq_true rfl⟩) (preVM hK hP) rfl rfl hl.1 rfl (lv_room (Nat.le_of_ble_eq_true rfl)) dX1_witnessesFor_15 ⟨Nat.le_of_ble_eq_true rfl, Nat.le_of_ble_eq_true rfl⟩) ?_
    have f_3 := wit_bd hI k
    refine lv_goto (tgt := 26) hx hb dX1_witnessesFor_18 (by decide) ?_
    have hfin : σ = σ := by rfl
    rw [hfin] at hP
    have hfit : 0 = 0 := by rfl
    rw [hfit] at hP
    refine z_re (v' := iI (wit σ k)) (congrArg iI (by first | rfl | omega)) ?_
    exact W.iret hx hb hr (fun t ht hW => ⟨⟨_, (), rfl, rfl, (by show va_P _ _ _ t.heap; rw [ht]; exact hP)⟩, hS.F ht⟩) hS.2.2 dX1_witnessesFor_26
set_option maxHeartbeats 4000000 in
set_option maxRecDepth 100000 in
theorem e1_X1_witnessesFor (l : Launch) (G : zG) (x : Nat) (a : Nat → Nat) (sz : Nat) (B : Nat) (σ : zS) (t : Nat) (z : Int) (hI : zI B σ) (hzb : -2147483648 ≤ z ∧ z < 2147483648) (hbad : z < 0 ∨ (σ.1 1 : Int) ≤ z) : Met l yX1_witnessesFor wsX1_witnessesFor ({ frames := 2, cells := 0, slots := 0, locals := 43 } : Room) (va_Pc [.ref x, .int (iI z)] (wM G x a t σ sz)) (va_Qi (fun r (_ : Unit) => r = iI 0) (fun _ t9 => va_P G.1 vwCl (mW G x a 1 σ) t9.heap) (zA x a sz)) 0 0 (zA x a sz) := by
  refine Met.ofW (cc := cX1_witnessesFor) (maxL := 2) (ret := (some .int)) (by decide) rfl ?_
  intro pp ee s m args below meth c s₁ B9 hml hv
  obtain ⟨rfl, hsz, hP, hK, hD0⟩ := hv
  subst hsz
  have hD := mW_zA (sz := s.heap.size) hD0
  have hS : va_S (zA x a s.heap.size) s.heap s.heap [] := va_S.rf
  have hx := B9.exec
  have hb := B9.bytes
  have hr := B9.returns
  have hts := atoms_spec (ws := wsX1_witnessesFor) B9.pre
  have hown : s.vm.findClass RX1 = some m.cls := findClass_of_methodNamed B9.named
  have hlocks := B9.notSynchronized
  have hin0 : ∀ w ∈ wsX10, w ∈ wsX1_witnessesFor := by decide +kernel
  have w_0 := hts (.fieldLink RX1 35 "ApologyLedgerModel" "thrown" "I") (by decide +kernel)
  have hl := lv_entry ([.ref x, .int (iI z)]) (n := 2) (Nat.le_of_ble_eq_true rfl)
  rw [lg_entry_eq]
  generalize (lg_sl ([.ref x, .int (iI z)]) ++ List.replicate (2 - (lg_sl ([.ref x, .int (iI z)])).length) Slot.unset).toArray = ls at hl ⊢
  have hl : lv_has ls 2 [(0, .ref x), (1, .int (iI z))] := hl
  have hIn := hI.n
  have hIb := hI.b
  refine lv_aload_n hx hb dX1_witnessesFor_0 rfl (lv_at hl 0 rfl) ?_
  refine lv_iconst (v := iI 0) hx hb dX1_witnessesFor_1 rfl ?_
  refine z_re (v' := iI ((0 : Nat) : Int)) (congrArg iI (by omega)) ?_
  refine m_put hx hb hts hin0 hown hK hP hD hS 0 rfl 0 (by decide) w_0 rfl (by decide +kernel) (Nat.le_of_ble_eq_true rfl) mW_put0 dX1_witnessesFor_2 (fun H locs hP hD hS => ?_)
  refine lv_aload_n hx hb dX1_witnessesFor_5 rfl (lv_at hl 0 rfl) ?_
  refine lv_iload_n hx hb dX1_witnessesFor_6 rfl (lv_at hl 1 rfl) ?_
  refine zc_i (va_runV (As := [.int (iI z)]) (rest := []) ⟨hx, hb, hml, hown, hts⟩ (c_X1_isSlight l G x a σ 0 z (by omega) (by omega)) (cwV 1 hts gX1_witnessesFor_X1_isSlight rfl rfl rfl (by decide +kernel) ⟨Nat.le_of_ble_eq_true rfl, Nat.le_of_ble_eq_true rfl⟩) (preVM hK hP) rfl rfl hl.1 rfl (lv_room (Nat.le_of_ble_eq_true rfl)) dX1_witnessesFor_7 ⟨Nat.le_of_ble_eq_true rfl, Nat.le_of_ble_eq_true rfl⟩) ?_
  have f_1 := inn_or z 0 ((σ.1 1 : Nat) - 1)
  refine z_if_eq (tgt := 21) hx hb dX1_witnessesFor_10 (by decide) (by omega) (fun c_2 => ?_) (fun c_2 => ?_)
  ·
    refine lv_aload_n hx hb dX1_witnessesFor_21 rfl (lv_at hl 0 rfl) ?_
    refine lv_iconst (v := iI 1) hx hb dX1_witnessesFor_22 rfl ?_
    refine z_re (v' := iI ((1 : Nat) : Int)) (congrArg iI (by omega)) ?_
    refine zc_wi (va_runV (As := [.int (iI ((1 : Nat) : Int))]) (rest := []) ⟨hx, hb, hml, hown, hts⟩ (c_X1_no l G x a _ σ 0 1) (cwV 1 hts gX1_witnessesFor_X1_no rfl rfl rfl (by decide +kernel) ⟨Nat.le_of_ble_eq_true rfl, Nat.le_of_ble_eq_true rfl⟩) (preWM hK hP hD) rfl rfl hl.1 rfl (lv_room (Nat.le_of_ble_eq_true rfl)) dX1_witnessesFor_23 ⟨Nat.le_of_ble_eq_true rfl, Nat.le_of_ble_eq_true rfl⟩) hS (fun q h => zA_mono hS.1 h) (fun H locs hP hS _ _ => ?_)
    have hD := mW_D (t' := 1) (σ' := σ) hD
    have hfin : σ = σ := by rfl
    rw [hfin] at hP
    have hfit : 1 = 1 := by rfl
    rw [hfit] at hP
    refine z_re (v' := iI 0) (congrArg iI (by first | rfl | omega)) ?_
    exact W.iret hx hb hr (fun t ht hW => ⟨⟨_, (), rfl, rfl, (by show va_P _ _ _ t.heap; rw [ht]; exact hP)⟩, hS.F ht⟩) hS.2.2 dX1_witnessesFor_26
  ·
    exfalso
    omega
set_option maxHeartbeats 4000000 in
set_option maxRecDepth 100000 in
theorem v_X1_wordsWanted (l : Launch) (G : zG) (x : Nat) (a : Nat → Nat) (sz : Nat) (B : Nat) (σ : zS) (t : Nat) (k : Nat) (hI : zI B σ) (hk : k < σ.1 1) : Met l yX1_wordsWanted wsX1_wordsWanted ({ frames := 2, cells := 0, slots := 0, locals := 46 } : Room) (va_Pc [.ref x, .int (iI (k : Int))] (wM G x a t σ sz)) (va_Qi (fun r (_ : Unit) => r = iI (wan σ k)) (fun _ t9 => va_P G.1 vwCl (mW G x a 0 σ) t9.heap) (zA x a sz)) 0 0 (zA x a sz) := by
  refine Met.ofW (cc := cX1_wordsWanted) (maxL := 2) (ret := (some .int)) (by decide) rfl ?_
  intro pp ee s m args below meth c s₁ B9 hml hv
  obtain ⟨rfl, hsz, hP, hK, hD0⟩ := hv
  subst hsz
  have hD := mW_zA (sz := s.heap.size) hD0
  have hS : va_S (zA x a s.heap.size) s.heap s.heap [] := va_S.rf
  have hx := B9.exec
  have hb := B9.bytes
  have hr := B9.returns
  have hts := atoms_spec (ws := wsX1_wordsWanted) B9.pre
  have hown : s.vm.findClass RX1 = some m.cls := findClass_of_methodNamed B9.named
  have hlocks := B9.notSynchronized
  have hin0 : ∀ w ∈ wsX10, w ∈ wsX1_wordsWanted := by decide +kernel
  have w_0 := hts (.fieldLink RX1 35 "ApologyLedgerModel" "thrown" "I") (by decide +kernel)
  have hl := lv_entry ([.ref x, .int (iI (k : Int))]) (n := 2) (Nat.le_of_ble_eq_true rfl)
  rw [lg_entry_eq]
  generalize (lg_sl ([.ref x, .int (iI (k : Int))]) ++ List.replicate (2 - (lg_sl ([.ref x, .int (iI (k : Int))])).length) Slot.unset).toArray = ls at hl ⊢
  have hl : lv_has ls 2 [(0, .ref x), (1, .int (iI (k : Int)))] := hl
  have hIn := hI.n
  have hIb := hI.b
  refine lv_aload_n hx hb dX1_wordsWanted_0 rfl (lv_at hl 0 rfl) ?_
  refine lv_iconst (v := iI 0) hx hb dX1_wordsWanted_1 rfl ?_
  refine z_re (v' := iI ((0 : Nat) : Int)) (congrArg iI (by omega)) ?_
  refine m_put hx hb hts hin0 hown hK hP hD hS 0 rfl 0 (by decide) w_0 rfl (by decide +kernel) (Nat.le_of_ble_eq_true rfl) mW_put0 dX1_wordsWanted_2 (fun H locs hP hD hS => ?_)
  refine lv_aload_n hx hb dX1_wordsWanted_5 rfl (lv_at hl 0 rfl) ?_
  refine lv_iload_n hx hb dX1_wordsWanted_6 rfl (lv_at hl 1 rfl) ?_
  refine zc_i (va_runV (As := [.int (iI (k : Int))]) (rest := []) ⟨hx, hb, hml, hown, hts⟩ (c_X1_isSlight l G x a σ 0 (k : Int) (by omega) (by omega)) (cwV 1 hts gX1_wordsWanted_X1_isSlight rfl rfl rfl (by decide +kernel) ⟨Nat.le_of_ble_eq_true rfl, Nat.le_of_ble_eq_true rfl⟩) (preVM hK hP) rfl rfl hl.1 rfl (lv_room (Nat.le_of_ble_eq_true rfl)) dX1_wordsWanted_7 ⟨Nat.le_of_ble_eq_true rfl, Nat.le_of_ble_eq_true rfl⟩) ?_
  have f_1 := inn_or (k : Int) 0 ((σ.1 1 : Nat) - 1)
  refine z_if_eq (tgt := 21) hx hb dX1_wordsWanted_10 (by decide) (by omega) (fun c_2 => ?_) (fun c_2 => ?_)
  ·
    exfalso
    omega
  ·
    refine lv_aload_n hx hb dX1_wordsWanted_13 rfl (lv_at hl 0 rfl) ?_
    refine lv_iload_n hx hb dX1_wordsWanted_14 rfl (lv_at hl 1 rfl) ?_
    refine zc_i (va_runV (As := [.int (iI (k : Int))]) (rest := []) ⟨hx, hb, hml, hown, hts⟩ (c_X1_wanted l G x a B σ 0 k hI (by omega)) (cwV 1 hts gX1_wordsWanted_X1_wanted rfl rfl rfl (by decide +kernel) ⟨Nat.le_of_ble_eq_true rfl, Nat.le_of_ble_eq_true rfl⟩) (preVM hK hP) rfl rfl hl.1 rfl (lv_room (Nat.le_of_ble_eq_true rfl)) dX1_wordsWanted_15 ⟨Nat.le_of_ble_eq_true rfl, Nat.le_of_ble_eq_true rfl⟩) ?_
    have f_3 := wan_bd σ k
    refine lv_goto (tgt := 26) hx hb dX1_wordsWanted_18 (by decide) ?_
    have hfin : σ = σ := by rfl
    rw [hfin] at hP
    have hfit : 0 = 0 := by rfl
    rw [hfit] at hP
    refine z_re (v' := iI (wan σ k)) (congrArg iI (by first | rfl | omega)) ?_
    exact W.iret hx hb hr (fun t ht hW => ⟨⟨_, (), rfl, rfl, (by show va_P _ _ _ t.heap; rw [ht]; exact hP)⟩, hS.F ht⟩) hS.2.2 dX1_wordsWanted_26
set_option maxHeartbeats 4000000 in
set_option maxRecDepth 100000 in
theorem e1_X1_wordsWanted (l : Launch) (G : zG) (x : Nat) (a : Nat → Nat) (sz : Nat) (B : Nat) (σ : zS) (t : Nat) (z : Int) (hI : zI B σ) (hzb : -2147483648 ≤ z ∧ z < 2147483648) (hbad : z < 0 ∨ (σ.1 1 : Int) ≤ z) : Met l yX1_wordsWanted wsX1_wordsWanted ({ frames := 2, cells := 0, slots := 0, locals := 43 } : Room) (va_Pc [.ref x, .int (iI z)] (wM G x a t σ sz)) (va_Qi (fun r (_ : Unit) => r = iI 0) (fun _ t9 => va_P G.1 vwCl (mW G x a 1 σ) t9.heap) (zA x a sz)) 0 0 (zA x a sz) := by
  refine Met.ofW (cc := cX1_wordsWanted) (maxL := 2) (ret := (some .int)) (by decide) rfl ?_
  intro pp ee s m args below meth c s₁ B9 hml hv
  obtain ⟨rfl, hsz, hP, hK, hD0⟩ := hv
  subst hsz
  have hD := mW_zA (sz := s.heap.size) hD0
  have hS : va_S (zA x a s.heap.size) s.heap s.heap [] := va_S.rf
  have hx := B9.exec
  have hb := B9.bytes
  have hr := B9.returns
  have hts := atoms_spec (ws := wsX1_wordsWanted) B9.pre
  have hown : s.vm.findClass RX1 = some m.cls := findClass_of_methodNamed B9.named
  have hlocks := B9.notSynchronized
  have hin0 : ∀ w ∈ wsX10, w ∈ wsX1_wordsWanted := by decide +kernel
  have w_0 := hts (.fieldLink RX1 35 "ApologyLedgerModel" "thrown" "I") (by decide +kernel)
  have hl := lv_entry ([.ref x, .int (iI z)]) (n := 2) (Nat.le_of_ble_eq_true rfl)
  rw [lg_entry_eq]
  generalize (lg_sl ([.ref x, .int (iI z)]) ++ List.replicate (2 - (lg_sl ([.ref x, .int (iI z)])).length) Slot.unset).toArray = ls at hl ⊢
  have hl : lv_has ls 2 [(0, .ref x), (1, .int (iI z))] := hl
  have hIn := hI.n
  have hIb := hI.b
  refine lv_aload_n hx hb dX1_wordsWanted_0 rfl (lv_at hl 0 rfl) ?_
  refine lv_iconst (v := iI 0) hx hb dX1_wordsWanted_1 rfl ?_
  refine z_re (v' := iI ((0 : Nat) : Int)) (congrArg iI (by omega)) ?_
  refine m_put hx hb hts hin0 hown hK hP hD hS 0 rfl 0 (by decide) w_0 rfl (by decide +kernel) (Nat.le_of_ble_eq_true rfl) mW_put0 dX1_wordsWanted_2 (fun H locs hP hD hS => ?_)
  refine lv_aload_n hx hb dX1_wordsWanted_5 rfl (lv_at hl 0 rfl) ?_
  refine lv_iload_n hx hb dX1_wordsWanted_6 rfl (lv_at hl 1 rfl) ?_
  refine zc_i (va_runV (As := [.int (iI z)]) (rest := []) ⟨hx, hb, hml, hown, hts⟩ (c_X1_isSlight l G x a σ 0 z (by omega) (by omega)) (cwV 1 hts gX1_wordsWanted_X1_isSlight rfl rfl rfl (by decide +kernel) ⟨Nat.le_of_ble_eq_true rfl, Nat.le_of_ble_eq_true rfl⟩) (preVM hK hP) rfl rfl hl.1 rfl (lv_room (Nat.le_of_ble_eq_true rfl)) dX1_wordsWanted_7 ⟨Nat.le_of_ble_eq_true rfl, Nat.le_of_ble_eq_true rfl⟩) ?_
  have f_1 := inn_or z 0 ((σ.1 1 : Nat) - 1)
  refine z_if_eq (tgt := 21) hx hb dX1_wordsWanted_10 (by decide) (by omega) (fun c_2 => ?_) (fun c_2 => ?_)
  ·
    refine lv_aload_n hx hb dX1_wordsWanted_21 rfl (lv_at hl 0 rfl) ?_
    refine lv_iconst (v := iI 1) hx hb dX1_wordsWanted_22 rfl ?_
    refine z_re (v' := iI ((1 : Nat) : Int)) (congrArg iI (by omega)) ?_
    refine zc_wi (va_runV (As := [.int (iI ((1 : Nat) : Int))]) (rest := []) ⟨hx, hb, hml, hown, hts⟩ (c_X1_no l G x a _ σ 0 1) (cwV 1 hts gX1_wordsWanted_X1_no rfl rfl rfl (by decide +kernel) ⟨Nat.le_of_ble_eq_true rfl, Nat.le_of_ble_eq_true rfl⟩) (preWM hK hP hD) rfl rfl hl.1 rfl (lv_room (Nat.le_of_ble_eq_true rfl)) dX1_wordsWanted_23 ⟨Nat.le_of_ble_eq_true rfl, Nat.le_of_ble_eq_true rfl⟩) hS (fun q h => zA_mono hS.1 h) (fun H locs hP hS _ _ => ?_)
    have hD := mW_D (t' := 1) (σ' := σ) hD
    have hfin : σ = σ := by rfl
    rw [hfin] at hP
    have hfit : 1 = 1 := by rfl
    rw [hfit] at hP
    refine z_re (v' := iI 0) (congrArg iI (by first | rfl | omega)) ?_
    exact W.iret hx hb hr (fun t ht hW => ⟨⟨_, (), rfl, rfl, (by show va_P _ _ _ t.heap; rw [ht]; exact hP)⟩, hS.F ht⟩) hS.2.2 dX1_wordsWanted_26
  ·
    exfalso
    omega
set_option maxHeartbeats 4000000 in
set_option maxRecDepth 100000 in
theorem v_X1_daysUntilForgotten (l : Launch) (G : zG) (x : Nat) (a : Nat → Nat) (sz : Nat) (B : Nat) (σ : zS) (t : Nat) (k : Nat) (hI : zI B σ) (hk : k < σ.1 1) : Met l yX1_daysUntilForgotten wsX1_daysUntilForgotten ({ frames := 2, cells := 0, slots := 0, locals := 43 } : Room) (va_Pc [.ref x, .int (iI (k : Int))] (wM G x a t σ sz)) (va_Qi (fun r (_ : Unit) => r = iI (unt σ k)) (fun _ t9 => va_P G.1 vwCl (mW G x a 0 σ) t9.heap) (zA x a sz)) 0 0 (zA x a sz) := by
  refine Met.ofW (cc := cX1_daysUntilForgotten) (maxL := 2) (ret := (some .int)) (by decide) rfl ?_
  intro pp ee s m args below meth c s₁ B9 hml hv
  obtain ⟨rfl, hsz, hP, hK, hD0⟩ := hv
  subst hsz
  have hD := mW_zA (sz := s.heap.size) hD0
  have hS : va_S (zA x a s.heap.size) s.heap s.heap [] := va_S.rf
  have hx := B9.exec
  have hb := B9.bytes
  have hr := B9.returns
  have hts := atoms_spec (ws := wsX1_daysUntilForgotten) B9.pre
  have hown : s.vm.findClass RX1 = some m.cls := findClass_of_methodNamed B9.named
  have hlocks := B9.notSynchronized
  have hin0 : ∀ w ∈ wsX10, w ∈ wsX1_daysUntilForgotten := by decide +kernel
  have w_0 := hts (.fieldLink RX1 35 "ApologyLedgerModel" "thrown" "I") (by decide +kernel)
  have hl := lv_entry ([.ref x, .int (iI (k : Int))]) (n := 2) (Nat.le_of_ble_eq_true rfl)
  rw [lg_entry_eq]
  generalize (lg_sl ([.ref x, .int (iI (k : Int))]) ++ List.replicate (2 - (lg_sl ([.ref x, .int (iI (k : Int))])).length) Slot.unset).toArray = ls at hl ⊢
  have hl : lv_has ls 2 [(0, .ref x), (1, .int (iI (k : Int)))] := hl
  have hIn := hI.n
  have hIb := hI.b
  refine lv_aload_n hx hb dX1_daysUntilForgotten_0 rfl (lv_at hl 0 rfl) ?_
  refine lv_iconst (v := iI 0) hx hb dX1_daysUntilForgotten_1 rfl ?_
  refine z_re (v' := iI ((0 : Nat) : Int)) (congrArg iI (by omega)) ?_
  refine m_put hx hb hts hin0 hown hK hP hD hS 0 rfl 0 (by decide) w_0 rfl (by decide +kernel) (Nat.le_of_ble_eq_true rfl) mW_put0 dX1_daysUntilForgotten_2 (fun H locs hP hD hS => ?_)
  refine lv_aload_n hx hb dX1_daysUntilForgotten_5 rfl (lv_at hl 0 rfl) ?_
  refine lv_iload_n hx hb dX1_daysUntilForgotten_6 rfl (lv_at hl 1 rfl) ?_
  refine zc_i (va_runV (As := [.int (iI (k : Int))]) (rest := []) ⟨hx, hb, hml, hown, hts⟩ (c_X1_isSlight l G x a σ 0 (k : Int) (by omega) (by omega)) (cwV 1 hts gX1_daysUntilForgotten_X1_isSlight rfl rfl rfl (by decide +kernel) ⟨Nat.le_of_ble_eq_true rfl, Nat.le_of_ble_eq_true rfl⟩) (preVM hK hP) rfl rfl hl.1 rfl (lv_room (Nat.le_of_ble_eq_true rfl)) dX1_daysUntilForgotten_7 ⟨Nat.le_of_ble_eq_true rfl, Nat.le_of_ble_eq_true rfl⟩) ?_
  have f_1 := inn_or (k : Int) 0 ((σ.1 1 : Nat) - 1)
  refine z_if_eq (tgt := 21) hx hb dX1_daysUntilForgotten_10 (by decide) (by omega) (fun c_2 => ?_) (fun c_2 => ?_)
  ·
    exfalso
    omega
  ·
    refine lv_aload_n hx hb dX1_daysUntilForgotten_13 rfl (lv_at hl 0 rfl) ?_
    refine lv_iload_n hx hb dX1_daysUntilForgotten_14 rfl (lv_at hl 1 rfl) ?_
    refine zc_i (va_runV (As := [.int (iI (k : Int))]) (rest := []) ⟨hx, hb, hml, hown, hts⟩ (c_X1_until l G x a B σ 0 k hI (by omega)) (cwV 1 hts gX1_daysUntilForgotten_X1_until rfl rfl rfl (by decide +kernel) ⟨Nat.le_of_ble_eq_true rfl, Nat.le_of_ble_eq_true rfl⟩) (preVM hK hP) rfl rfl hl.1 rfl (lv_room (Nat.le_of_ble_eq_true rfl)) dX1_daysUntilForgotten_15 ⟨Nat.le_of_ble_eq_true rfl, Nat.le_of_ble_eq_true rfl⟩) ?_
    have f_3 := unt_bd hI k
    refine lv_goto (tgt := 26) hx hb dX1_daysUntilForgotten_18 (by decide) ?_
    have hfin : σ = σ := by rfl
    rw [hfin] at hP
    have hfit : 0 = 0 := by rfl
    rw [hfit] at hP
    refine z_re (v' := iI (unt σ k)) (congrArg iI (by first | rfl | omega)) ?_
    exact W.iret hx hb hr (fun t ht hW => ⟨⟨_, (), rfl, rfl, (by show va_P _ _ _ t.heap; rw [ht]; exact hP)⟩, hS.F ht⟩) hS.2.2 dX1_daysUntilForgotten_26
set_option maxHeartbeats 4000000 in
set_option maxRecDepth 100000 in
theorem e1_X1_daysUntilForgotten (l : Launch) (G : zG) (x : Nat) (a : Nat → Nat) (sz : Nat) (B : Nat) (σ : zS) (t : Nat) (z : Int) (hI : zI B σ) (hzb : -2147483648 ≤ z ∧ z < 2147483648) (hbad : z < 0 ∨ (σ.1 1 : Int) ≤ z) : Met l yX1_daysUntilForgotten wsX1_daysUntilForgotten ({ frames := 2, cells := 0, slots := 0, locals := 43 } : Room) (va_Pc [.ref x, .int (iI z)] (wM G x a t σ sz)) (va_Qi (fun r (_ : Unit) => r = iI 0) (fun _ t9 => va_P G.1 vwCl (mW G x a 1 σ) t9.heap) (zA x a sz)) 0 0 (zA x a sz) := by
  refine Met.ofW (cc := cX1_daysUntilForgotten) (maxL := 2) (ret := (some .int)) (by decide) rfl ?_
  intro pp ee s m args below meth c s₁ B9 hml hv
  obtain ⟨rfl, hsz, hP, hK, hD0⟩ := hv
  subst hsz
  have hD := mW_zA (sz := s.heap.size) hD0
  have hS : va_S (zA x a s.heap.size) s.heap s.heap [] := va_S.rf
  have hx := B9.exec
  have hb := B9.bytes
  have hr := B9.returns
  have hts := atoms_spec (ws := wsX1_daysUntilForgotten) B9.pre
  have hown : s.vm.findClass RX1 = some m.cls := findClass_of_methodNamed B9.named
  have hlocks := B9.notSynchronized
  have hin0 : ∀ w ∈ wsX10, w ∈ wsX1_daysUntilForgotten := by decide +kernel
  have w_0 := hts (.fieldLink RX1 35 "ApologyLedgerModel" "thrown" "I") (by decide +kernel)
  have hl := lv_entry ([.ref x, .int (iI z)]) (n := 2) (Nat.le_of_ble_eq_true rfl)
  rw [lg_entry_eq]
  generalize (lg_sl ([.ref x, .int (iI z)]) ++ List.replicate (2 - (lg_sl ([.ref x, .int (iI z)])).length) Slot.unset).toArray = ls at hl ⊢
  have hl : lv_has ls 2 [(0, .ref x), (1, .int (iI z))] := hl
  have hIn := hI.n
  have hIb := hI.b
  refine lv_aload_n hx hb dX1_daysUntilForgotten_0 rfl (lv_at hl 0 rfl) ?_
  refine lv_iconst (v := iI 0) hx hb dX1_daysUntilForgotten_1 rfl ?_
  refine z_re (v' := iI ((0 : Nat) : Int)) (congrArg iI (by omega)) ?_
  refine m_put hx hb hts hin0 hown hK hP hD hS 0 rfl 0 (by decide) w_0 rfl (by decide +kernel) (Nat.le_of_ble_eq_true rfl) mW_put0 dX1_daysUntilForgotten_2 (fun H locs hP hD hS => ?_)
  refine lv_aload_n hx hb dX1_daysUntilForgotten_5 rfl (lv_at hl 0 rfl) ?_
  refine lv_iload_n hx hb dX1_daysUntilForgotten_6 rfl (lv_at hl 1 rfl) ?_
  refine zc_i (va_runV (As := [.int (iI z)]) (rest := []) ⟨hx, hb, hml, hown, hts⟩ (c_X1_isSlight l G x a σ 0 z (by omega) (by omega)) (cwV 1 hts gX1_daysUntilForgotten_X1_isSlight rfl rfl rfl (by decide +kernel) ⟨Nat.le_of_ble_eq_true rfl, Nat.le_of_ble_eq_true rfl⟩) (preVM hK hP) rfl rfl hl.1 rfl (lv_room (Nat.le_of_ble_eq_true rfl)) dX1_daysUntilForgotten_7 ⟨Nat.le_of_ble_eq_true rfl, Nat.le_of_ble_eq_true rfl⟩) ?_
  have f_1 := inn_or z 0 ((σ.1 1 : Nat) - 1)
  refine z_if_eq (tgt := 21) hx hb dX1_daysUntilForgotten_10 (by decide) (by omega) (fun c_2 => ?_) (fun c_2 => ?_)
  ·
    refine lv_aload_n hx hb dX1_daysUntilForgotten_21 rfl (lv_at hl 0 rfl) ?_
    refine lv_iconst (v := iI 1) hx hb dX1_daysUntilForgotten_22 rfl ?_
    refine z_re (v' := iI ((1 : Nat) : Int)) (congrArg iI (by omega)) ?_
    refine zc_wi (va_runV (As := [.int (iI ((1 : Nat) : Int))]) (rest := []) ⟨hx, hb, hml, hown, hts⟩ (c_X1_no l G x a _ σ 0 1) (cwV 1 hts gX1_daysUntilForgotten_X1_no rfl rfl rfl (by decide +kernel) ⟨Nat.le_of_ble_eq_true rfl, Nat.le_of_ble_eq_true rfl⟩) (preWM hK hP hD) rfl rfl hl.1 rfl (lv_room (Nat.le_of_ble_eq_true rfl)) dX1_daysUntilForgotten_23 ⟨Nat.le_of_ble_eq_true rfl, Nat.le_of_ble_eq_true rfl⟩) hS (fun q h => zA_mono hS.1 h) (fun H locs hP hS _ _ => ?_)
    have hD := mW_D (t' := 1) (σ' := σ) hD
    have hfin : σ = σ := by rfl
    rw [hfin] at hP
    have hfit : 1 = 1 := by rfl
    rw [hfit] at hP
    refine z_re (v' := iI 0) (congrArg iI (by first | rfl | omega)) ?_
    exact W.iret hx hb hr (fun t ht hW => ⟨⟨_, (), rfl, rfl, (by show va_P _ _ _ t.heap; rw [ht]; exact hP)⟩, hS.F ht⟩) hS.2.2 dX1_daysUntilForgotten_26
  ·
    exfalso
    omega
set_option maxHeartbeats 4000000 in
set_option maxRecDepth 100000 in
theorem v_X1_of_2 (l : Launch) (G : zG) (x : Nat) (a : Nat → Nat) (sz : Nat) (B : Nat) (σ : zS) (t : Nat) (k : Nat) (hI : zI B σ) (hk : k < σ.1 1) : Met l yX1_of wsX1_of ({ frames := 2, cells := 0, slots := 0, locals := 43 } : Room) (va_Pc [.ref x, .int (iI (k : Int)), .ref (a 2)] (wM G x a t σ sz)) (va_Qi (fun r (_ : Unit) => r = iI (σ.2 2 k)) (fun _ t9 => va_P G.1 vwCl (mW G x a 0 σ) t9.heap) (zA x a sz)) 0 0 (zA x a sz) := by
  refine Met.ofW (cc := cX1_of) (maxL := 3) (ret := (some .int)) (by decide) rfl ?_
  intro pp ee s m args below meth c s₁ B9 hml hv
  obtain ⟨rfl, hsz, hP, hK, hD0⟩ := hv
  subst hsz
  have hD := mW_zA (sz := s.heap.size) hD0
  have hS : va_S (zA x a s.heap.size) s.heap s.heap [] := va_S.rf
  have hx := B9.exec
  have hb := B9.bytes
  have hr := B9.returns
  have hts := atoms_spec (ws := wsX1_of) B9.pre
  have hown : s.vm.findClass RX1 = some m.cls := findClass_of_methodNamed B9.named
  have hlocks := B9.notSynchronized
  have hin0 : ∀ w ∈ wsX10, w ∈ wsX1_of := by decide +kernel
  have w_0 := hts (.fieldLink RX1 35 "ApologyLedgerModel" "thrown" "I") (by decide +kernel)
  have hl := lv_entry ([.ref x, .int (iI (k : Int)), .ref (a 2)]) (n := 3) (Nat.le_of_ble_eq_true rfl)
  rw [lg_entry_eq]
  generalize (lg_sl ([.ref x, .int (iI (k : Int)), .ref (a 2)]) ++ List.replicate (3 - (lg_sl ([.ref x, .int (iI (k : Int)), .ref (a 2)])).length) Slot.unset).toArray = ls at hl ⊢
  have hl : lv_has ls 3 [(0, .ref x), (1, .int (iI (k : Int))), (2, .ref (a 2))] := hl
  have hIn := hI.n
  have hIb := hI.b
  refine lv_aload_n hx hb dX1_of_0 rfl (lv_at hl 0 rfl) ?_
  refine lv_iconst (v := iI 0) hx hb dX1_of_1 rfl ?_
  refine z_re (v' := iI ((0 : Nat) : Int)) (congrArg iI (by omega)) ?_
  refine m_put hx hb hts hin0 hown hK hP hD hS 0 rfl 0 (by decide) w_0 rfl (by decide +kernel) (Nat.le_of_ble_eq_true rfl) mW_put0 dX1_of_2 (fun H locs hP hD hS => ?_)
  refine lv_aload_n hx hb dX1_of_5 rfl (lv_at hl 0 rfl) ?_
  refine lv_iload_n hx hb dX1_of_6 rfl (lv_at hl 1 rfl) ?_
  refine zc_i (va_runV (As := [.int (iI (k : Int))]) (rest := []) ⟨hx, hb, hml, hown, hts⟩ (c_X1_isSlight l G x a σ 0 (k : Int) (by omega) (by omega)) (cwV 1 hts gX1_of_X1_isSlight rfl rfl rfl (by decide +kernel) ⟨Nat.le_of_ble_eq_true rfl, Nat.le_of_ble_eq_true rfl⟩) (preVM hK hP) rfl rfl hl.1 rfl (lv_room (Nat.le_of_ble_eq_true rfl)) dX1_of_7 ⟨Nat.le_of_ble_eq_true rfl, Nat.le_of_ble_eq_true rfl⟩) ?_
  have f_1 := inn_or (k : Int) 0 ((σ.1 1 : Nat) - 1)
  refine z_if_eq (tgt := 19) hx hb dX1_of_10 (by decide) (by omega) (fun c_2 => ?_) (fun c_2 => ?_)
  ·
    exfalso
    omega
  ·
    refine lv_aload_n hx hb dX1_of_13 rfl (lv_at hl 2 rfl) ?_
    refine lv_iload_n hx hb dX1_of_14 rfl (lv_at hl 1 rfl) ?_
    refine z_iald (v := iI (σ.2 2 k)) hx hb hK hP 3 0 rfl rfl (k := k) (by omega) (by decide) rfl dX1_of_15 ?_
    have f_3 := hI.r2 (k := k) (by omega)
    refine lv_goto (tgt := 24) hx hb dX1_of_16 (by decide) ?_
    have hfin : σ = σ := by rfl
    rw [hfin] at hP
    have hfit : 0 = 0 := by rfl
    rw [hfit] at hP
    refine z_re (v' := iI (σ.2 2 k)) (congrArg iI (by first | rfl | omega)) ?_
    exact W.iret hx hb hr (fun t ht hW => ⟨⟨_, (), rfl, rfl, (by show va_P _ _ _ t.heap; rw [ht]; exact hP)⟩, hS.F ht⟩) hS.2.2 dX1_of_24
set_option maxHeartbeats 4000000 in
set_option maxRecDepth 100000 in
theorem v_X1_of_3 (l : Launch) (G : zG) (x : Nat) (a : Nat → Nat) (sz : Nat) (B : Nat) (σ : zS) (t : Nat) (k : Nat) (hI : zI B σ) (hk : k < σ.1 1) : Met l yX1_of wsX1_of ({ frames := 2, cells := 0, slots := 0, locals := 43 } : Room) (va_Pc [.ref x, .int (iI (k : Int)), .ref (a 3)] (wM G x a t σ sz)) (va_Qi (fun r (_ : Unit) => r = iI (σ.2 3 k)) (fun _ t9 => va_P G.1 vwCl (mW G x a 0 σ) t9.heap) (zA x a sz)) 0 0 (zA x a sz) := by
  refine Met.ofW (cc := cX1_of) (maxL := 3) (ret := (some .int)) (by decide) rfl ?_
  intro pp ee s m args below meth c s₁ B9 hml hv
  obtain ⟨rfl, hsz, hP, hK, hD0⟩ := hv
  subst hsz
  have hD := mW_zA (sz := s.heap.size) hD0
  have hS : va_S (zA x a s.heap.size) s.heap s.heap [] := va_S.rf
  have hx := B9.exec
  have hb := B9.bytes
  have hr := B9.returns
  have hts := atoms_spec (ws := wsX1_of) B9.pre
  have hown : s.vm.findClass RX1 = some m.cls := findClass_of_methodNamed B9.named
  have hlocks := B9.notSynchronized
  have hin0 : ∀ w ∈ wsX10, w ∈ wsX1_of := by decide +kernel
  have w_0 := hts (.fieldLink RX1 35 "ApologyLedgerModel" "thrown" "I") (by decide +kernel)
  have hl := lv_entry ([.ref x, .int (iI (k : Int)), .ref (a 3)]) (n := 3) (Nat.le_of_ble_eq_true rfl)
  rw [lg_entry_eq]
  generalize (lg_sl ([.ref x, .int (iI (k : Int)), .ref (a 3)]) ++ List.replicate (3 - (lg_sl ([.ref x, .int (iI (k : Int)), .ref (a 3)])).length) Slot.unset).toArray = ls at hl ⊢
  have hl : lv_has ls 3 [(0, .ref x), (1, .int (iI (k : Int))), (2, .ref (a 3))] := hl
  have hIn := hI.n
  have hIb := hI.b
  refine lv_aload_n hx hb dX1_of_0 rfl (lv_at hl 0 rfl) ?_
  refine lv_iconst (v := iI 0) hx hb dX1_of_1 rfl ?_
  refine z_re (v' := iI ((0 : Nat) : Int)) (congrArg iI (by omega)) ?_
  refine m_put hx hb hts hin0 hown hK hP hD hS 0 rfl 0 (by decide) w_0 rfl (by decide +kernel) (Nat.le_of_ble_eq_true rfl) mW_put0 dX1_of_2 (fun H locs hP hD hS => ?_)
  refine lv_aload_n hx hb dX1_of_5 rfl (lv_at hl 0 rfl) ?_
  refine lv_iload_n hx hb dX1_of_6 rfl (lv_at hl 1 rfl) ?_
  refine zc_i (va_runV (As := [.int (iI (k : Int))]) (rest := []) ⟨hx, hb, hml, hown, hts⟩ (c_X1_isSlight l G x a σ 0 (k : Int) (by omega) (by omega)) (cwV 1 hts gX1_of_X1_isSlight rfl rfl rfl (by decide +kernel) ⟨Nat.le_of_ble_eq_true rfl, Nat.le_of_ble_eq_true rfl⟩) (preVM hK hP) rfl rfl hl.1 rfl (lv_room (Nat.le_of_ble_eq_true rfl)) dX1_of_7 ⟨Nat.le_of_ble_eq_true rfl, Nat.le_of_ble_eq_true rfl⟩) ?_
  have f_1 := inn_or (k : Int) 0 ((σ.1 1 : Nat) - 1)
  refine z_if_eq (tgt := 19) hx hb dX1_of_10 (by decide) (by omega) (fun c_2 => ?_) (fun c_2 => ?_)
  ·
    exfalso
    omega
  ·
    refine lv_aload_n hx hb dX1_of_13 rfl (lv_at hl 2 rfl) ?_
    refine lv_iload_n hx hb dX1_of_14 rfl (lv_at hl 1 rfl) ?_
    refine z_iald (v := iI (σ.2 3 k)) hx hb hK hP 4 0 rfl rfl (k := k) (by omega) (by decide) rfl dX1_of_15 ?_
    have f_3 := hI.r3 (k := k) (by omega)
    refine lv_goto (tgt := 24) hx hb dX1_of_16 (by decide) ?_
    have hfin : σ = σ := by rfl
    rw [hfin] at hP
    have hfit : 0 = 0 := by rfl
    rw [hfit] at hP
    refine z_re (v' := iI (σ.2 3 k)) (congrArg iI (by first | rfl | omega)) ?_
    exact W.iret hx hb hr (fun t ht hW => ⟨⟨_, (), rfl, rfl, (by show va_P _ _ _ t.heap; rw [ht]; exact hP)⟩, hS.F ht⟩) hS.2.2 dX1_of_24
set_option maxHeartbeats 4000000 in
set_option maxRecDepth 100000 in
theorem v_X1_of_4 (l : Launch) (G : zG) (x : Nat) (a : Nat → Nat) (sz : Nat) (B : Nat) (σ : zS) (t : Nat) (k : Nat) (hI : zI B σ) (hk : k < σ.1 1) : Met l yX1_of wsX1_of ({ frames := 2, cells := 0, slots := 0, locals := 43 } : Room) (va_Pc [.ref x, .int (iI (k : Int)), .ref (a 4)] (wM G x a t σ sz)) (va_Qi (fun r (_ : Unit) => r = iI (σ.2 4 k)) (fun _ t9 => va_P G.1 vwCl (mW G x a 0 σ) t9.heap) (zA x a sz)) 0 0 (zA x a sz) := by
  refine Met.ofW (cc := cX1_of) (maxL := 3) (ret := (some .int)) (by decide) rfl ?_
  intro pp ee s m args below meth c s₁ B9 hml hv
  obtain ⟨rfl, hsz, hP, hK, hD0⟩ := hv
  subst hsz
  have hD := mW_zA (sz := s.heap.size) hD0
  have hS : va_S (zA x a s.heap.size) s.heap s.heap [] := va_S.rf
  have hx := B9.exec
  have hb := B9.bytes
  have hr := B9.returns
  have hts := atoms_spec (ws := wsX1_of) B9.pre
  have hown : s.vm.findClass RX1 = some m.cls := findClass_of_methodNamed B9.named
  have hlocks := B9.notSynchronized
  have hin0 : ∀ w ∈ wsX10, w ∈ wsX1_of := by decide +kernel
  have w_0 := hts (.fieldLink RX1 35 "ApologyLedgerModel" "thrown" "I") (by decide +kernel)
  have hl := lv_entry ([.ref x, .int (iI (k : Int)), .ref (a 4)]) (n := 3) (Nat.le_of_ble_eq_true rfl)
  rw [lg_entry_eq]
  generalize (lg_sl ([.ref x, .int (iI (k : Int)), .ref (a 4)]) ++ List.replicate (3 - (lg_sl ([.ref x, .int (iI (k : Int)), .ref (a 4)])).length) Slot.unset).toArray = ls at hl ⊢
  have hl : lv_has ls 3 [(0, .ref x), (1, .int (iI (k : Int))), (2, .ref (a 4))] := hl
  have hIn := hI.n
  have hIb := hI.b
  refine lv_aload_n hx hb dX1_of_0 rfl (lv_at hl 0 rfl) ?_
  refine lv_iconst (v := iI 0) hx hb dX1_of_1 rfl ?_
  refine z_re (v' := iI ((0 : Nat) : Int)) (congrArg iI (by omega)) ?_
  refine m_put hx hb hts hin0 hown hK hP hD hS 0 rfl 0 (by decide) w_0 rfl (by decide +kernel) (Nat.le_of_ble_eq_true rfl) mW_put0 dX1_of_2 (fun H locs hP hD hS => ?_)
  refine lv_aload_n hx hb dX1_of_5 rfl (lv_at hl 0 rfl) ?_
  refine lv_iload_n hx hb dX1_of_6 rfl (lv_at hl 1 rfl) ?_
  refine zc_i (va_runV (As := [.int (iI (k : Int))]) (rest := []) ⟨hx, hb, hml, hown, hts⟩ (c_X1_isSlight l G x a σ 0 (k : Int) (by omega) (by omega)) (cwV 1 hts gX1_of_X1_isSlight rfl rfl rfl (by decide +kernel) ⟨Nat.le_of_ble_eq_true rfl, Nat.le_of_ble_eq_true rfl⟩) (preVM hK hP) rfl rfl hl.1 rfl (lv_room (Nat.le_of_ble_eq_true rfl)) dX1_of_7 ⟨Nat.le_of_ble_eq_true rfl, Nat.le_of_ble_eq_true rfl⟩) ?_
  have f_1 := inn_or (k : Int) 0 ((σ.1 1 : Nat) - 1)
  refine z_if_eq (tgt := 19) hx hb dX1_of_10 (by decide) (by omega) (fun c_2 => ?_) (fun c_2 => ?_)
  ·
    exfalso
    omega
  ·
    refine lv_aload_n hx hb dX1_of_13 rfl (lv_at hl 2 rfl) ?_
    refine lv_iload_n hx hb dX1_of_14 rfl (lv_at hl 1 rfl) ?_
    refine z_iald (v := iI (σ.2 4 k)) hx hb hK hP 5 0 rfl rfl (k := k) (by omega) (by decide) rfl dX1_of_15 ?_
    have f_3 := hI.r4 k
    refine lv_goto (tgt := 24) hx hb dX1_of_16 (by decide) ?_
    have hfin : σ = σ := by rfl
    rw [hfin] at hP
    have hfit : 0 = 0 := by rfl
    rw [hfit] at hP
    refine z_re (v' := iI (σ.2 4 k)) (congrArg iI (by first | rfl | omega)) ?_
    exact W.iret hx hb hr (fun t ht hW => ⟨⟨_, (), rfl, rfl, (by show va_P _ _ _ t.heap; rw [ht]; exact hP)⟩, hS.F ht⟩) hS.2.2 dX1_of_24
set_option maxHeartbeats 4000000 in
set_option maxRecDepth 100000 in
theorem v_X1_of_5 (l : Launch) (G : zG) (x : Nat) (a : Nat → Nat) (sz : Nat) (B : Nat) (σ : zS) (t : Nat) (k : Nat) (hI : zI B σ) (hk : k < σ.1 1) : Met l yX1_of wsX1_of ({ frames := 2, cells := 0, slots := 0, locals := 43 } : Room) (va_Pc [.ref x, .int (iI (k : Int)), .ref (a 5)] (wM G x a t σ sz)) (va_Qi (fun r (_ : Unit) => r = iI (σ.2 5 k)) (fun _ t9 => va_P G.1 vwCl (mW G x a 0 σ) t9.heap) (zA x a sz)) 0 0 (zA x a sz) := by
  refine Met.ofW (cc := cX1_of) (maxL := 3) (ret := (some .int)) (by decide) rfl ?_
  intro pp ee s m args below meth c s₁ B9 hml hv
  obtain ⟨rfl, hsz, hP, hK, hD0⟩ := hv
  subst hsz
  have hD := mW_zA (sz := s.heap.size) hD0
  have hS : va_S (zA x a s.heap.size) s.heap s.heap [] := va_S.rf
  have hx := B9.exec
  have hb := B9.bytes
  have hr := B9.returns
  have hts := atoms_spec (ws := wsX1_of) B9.pre
  have hown : s.vm.findClass RX1 = some m.cls := findClass_of_methodNamed B9.named
  have hlocks := B9.notSynchronized
  have hin0 : ∀ w ∈ wsX10, w ∈ wsX1_of := by decide +kernel
  have w_0 := hts (.fieldLink RX1 35 "ApologyLedgerModel" "thrown" "I") (by decide +kernel)
  have hl := lv_entry ([.ref x, .int (iI (k : Int)), .ref (a 5)]) (n := 3) (Nat.le_of_ble_eq_true rfl)
  rw [lg_entry_eq]
  generalize (lg_sl ([.ref x, .int (iI (k : Int)), .ref (a 5)]) ++ List.replicate (3 - (lg_sl ([.ref x, .int (iI (k : Int)), .ref (a 5)])).length) Slot.unset).toArray = ls at hl ⊢
  have hl : lv_has ls 3 [(0, .ref x), (1, .int (iI (k : Int))), (2, .ref (a 5))] := hl
  have hIn := hI.n
  have hIb := hI.b
  refine lv_aload_n hx hb dX1_of_0 rfl (lv_at hl 0 rfl) ?_
  refine lv_iconst (v := iI 0) hx hb dX1_of_1 rfl ?_
  refine z_re (v' := iI ((0 : Nat) : Int)) (congrArg iI (by omega)) ?_
  refine m_put hx hb hts hin0 hown hK hP hD hS 0 rfl 0 (by decide) w_0 rfl (by decide +kernel) (Nat.le_of_ble_eq_true rfl) mW_put0 dX1_of_2 (fun H locs hP hD hS => ?_)
  refine lv_aload_n hx hb dX1_of_5 rfl (lv_at hl 0 rfl) ?_
  refine lv_iload_n hx hb dX1_of_6 rfl (lv_at hl 1 rfl) ?_
  refine zc_i (va_runV (As := [.int (iI (k : Int))]) (rest := []) ⟨hx, hb, hml, hown, hts⟩ (c_X1_isSlight l G x a σ 0 (k : Int) (by omega) (by omega)) (cwV 1 hts gX1_of_X1_isSlight rfl rfl rfl (by decide +kernel) ⟨Nat.le_of_ble_eq_true rfl, Nat.le_of_ble_eq_true rfl⟩) (preVM hK hP) rfl rfl hl.1 rfl (lv_room (Nat.le_of_ble_eq_true rfl)) dX1_of_7 ⟨Nat.le_of_ble_eq_true rfl, Nat.le_of_ble_eq_true rfl⟩) ?_
  have f_1 := inn_or (k : Int) 0 ((σ.1 1 : Nat) - 1)
  refine z_if_eq (tgt := 19) hx hb dX1_of_10 (by decide) (by omega) (fun c_2 => ?_) (fun c_2 => ?_)
  ·
    exfalso
    omega
  ·
    refine lv_aload_n hx hb dX1_of_13 rfl (lv_at hl 2 rfl) ?_
    refine lv_iload_n hx hb dX1_of_14 rfl (lv_at hl 1 rfl) ?_
    refine z_iald (v := iI (σ.2 5 k)) hx hb hK hP 6 0 rfl rfl (k := k) (by omega) (by decide) rfl dX1_of_15 ?_
    have f_3 := hI.r5 k
    refine lv_goto (tgt := 24) hx hb dX1_of_16 (by decide) ?_
    have hfin : σ = σ := by rfl
    rw [hfin] at hP
    have hfit : 0 = 0 := by rfl
    rw [hfit] at hP
    refine z_re (v' := iI (σ.2 5 k)) (congrArg iI (by first | rfl | omega)) ?_
    exact W.iret hx hb hr (fun t ht hW => ⟨⟨_, (), rfl, rfl, (by show va_P _ _ _ t.heap; rw [ht]; exact hP)⟩, hS.F ht⟩) hS.2.2 dX1_of_24
set_option maxHeartbeats 4000000 in
set_option maxRecDepth 100000 in
theorem v_X1_of_6 (l : Launch) (G : zG) (x : Nat) (a : Nat → Nat) (sz : Nat) (B : Nat) (σ : zS) (t : Nat) (k : Nat) (hI : zI B σ) (hk : k < σ.1 1) : Met l yX1_of wsX1_of ({ frames := 2, cells := 0, slots := 0, locals := 43 } : Room) (va_Pc [.ref x, .int (iI (k : Int)), .ref (a 6)] (wM G x a t σ sz)) (va_Qi (fun r (_ : Unit) => r = iI (σ.2 6 k)) (fun _ t9 => va_P G.1 vwCl (mW G x a 0 σ) t9.heap) (zA x a sz)) 0 0 (zA x a sz) := by
  refine Met.ofW (cc := cX1_of) (maxL := 3) (ret := (some .int)) (by decide) rfl ?_
  intro pp ee s m args below meth c s₁ B9 hml hv
  obtain ⟨rfl, hsz, hP, hK, hD0⟩ := hv
  subst hsz
  have hD := mW_zA (sz := s.heap.size) hD0
  have hS : va_S (zA x a s.heap.size) s.heap s.heap [] := va_S.rf
  have hx := B9.exec
  have hb := B9.bytes
  have hr := B9.returns
  have hts := atoms_spec (ws := wsX1_of) B9.pre
  have hown : s.vm.findClass RX1 = some m.cls := findClass_of_methodNamed B9.named
  have hlocks := B9.notSynchronized
  have hin0 : ∀ w ∈ wsX10, w ∈ wsX1_of := by decide +kernel
  have w_0 := hts (.fieldLink RX1 35 "ApologyLedgerModel" "thrown" "I") (by decide +kernel)
  have hl := lv_entry ([.ref x, .int (iI (k : Int)), .ref (a 6)]) (n := 3) (Nat.le_of_ble_eq_true rfl)
  rw [lg_entry_eq]
  generalize (lg_sl ([.ref x, .int (iI (k : Int)), .ref (a 6)]) ++ List.replicate (3 - (lg_sl ([.ref x, .int (iI (k : Int)), .ref (a 6)])).length) Slot.unset).toArray = ls at hl ⊢
  have hl : lv_has ls 3 [(0, .ref x), (1, .int (iI (k : Int))), (2, .ref (a 6))] := hl
  have hIn := hI.n
  have hIb := hI.b
  refine lv_aload_n hx hb dX1_of_0 rfl (lv_at hl 0 rfl) ?_
  refine lv_iconst (v := iI 0) hx hb dX1_of_1 rfl ?_
  refine z_re (v' := iI ((0 : Nat) : Int)) (congrArg iI (by omega)) ?_
  refine m_put hx hb hts hin0 hown hK hP hD hS 0 rfl 0 (by decide) w_0 rfl (by decide +kernel) (Nat.le_of_ble_eq_true rfl) mW_put0 dX1_of_2 (fun H locs hP hD hS => ?_)
  refine lv_aload_n hx hb dX1_of_5 rfl (lv_at hl 0 rfl) ?_
  refine lv_iload_n hx hb dX1_of_6 rfl (lv_at hl 1 rfl) ?_
  refine zc_i (va_runV (As := [.int (iI (k : Int))]) (rest := []) ⟨hx, hb, hml, hown, hts⟩ (c_X1_isSlight l G x a σ 0 (k : Int) (by omega) (by omega)) (cwV 1 hts gX1_of_X1_isSlight rfl rfl rfl (by decide +kernel) ⟨Nat.le_of_ble_eq_true rfl, Nat.le_of_ble_eq_true rfl⟩) (preVM hK hP) rfl rfl hl.1 rfl (lv_room (Nat.le_of_ble_eq_true rfl)) dX1_of_7 ⟨Nat.le_of_ble_eq_true rfl, Nat.le_of_ble_eq_true rfl⟩) ?_
  have f_1 := inn_or (k : Int) 0 ((σ.1 1 : Nat) - 1)
  refine z_if_eq (tgt := 19) hx hb dX1_of_10 (by decide) (by omega) (fun c_2 => ?_) (fun c_2 => ?_)
  ·
    exfalso
    omega
  ·
    refine lv_aload_n hx hb dX1_of_13 rfl (lv_at hl 2 rfl) ?_
    refine lv_iload_n hx hb dX1_of_14 rfl (lv_at hl 1 rfl) ?_
    refine z_iald (v := iI (σ.2 6 k)) hx hb hK hP 7 0 rfl rfl (k := k) (by omega) (by decide) rfl dX1_of_15 ?_
    have f_3 := hI.r6 k
    refine lv_goto (tgt := 24) hx hb dX1_of_16 (by decide) ?_
    have hfin : σ = σ := by rfl
    rw [hfin] at hP
    have hfit : 0 = 0 := by rfl
    rw [hfit] at hP
    refine z_re (v' := iI (σ.2 6 k)) (congrArg iI (by first | rfl | omega)) ?_
    exact W.iret hx hb hr (fun t ht hW => ⟨⟨_, (), rfl, rfl, (by show va_P _ _ _ t.heap; rw [ht]; exact hP)⟩, hS.F ht⟩) hS.2.2 dX1_of_24
set_option maxHeartbeats 4000000 in
set_option maxRecDepth 100000 in
theorem v_X1_of_7 (l : Launch) (G : zG) (x : Nat) (a : Nat → Nat) (sz : Nat) (B : Nat) (σ : zS) (t : Nat) (k : Nat) (hI : zI B σ) (hk : k < σ.1 1) : Met l yX1_of wsX1_of ({ frames := 2, cells := 0, slots := 0, locals := 43 } : Room) (va_Pc [.ref x, .int (iI (k : Int)), .ref (a 7)] (wM G x a t σ sz)) (va_Qi (fun r (_ : Unit) => r = iI (σ.2 7 k)) (fun _ t9 => va_P G.1 vwCl (mW G x a 0 σ) t9.heap) (zA x a sz)) 0 0 (zA x a sz) := by
  refine Met.ofW (cc := cX1_of) (maxL := 3) (ret := (some .int)) (by decide) rfl ?_
  intro pp ee s m args below meth c s₁ B9 hml hv
  obtain ⟨rfl, hsz, hP, hK, hD0⟩ := hv
  subst hsz
  have hD := mW_zA (sz := s.heap.size) hD0
  have hS : va_S (zA x a s.heap.size) s.heap s.heap [] := va_S.rf
  have hx := B9.exec
  have hb := B9.bytes
  have hr := B9.returns
  have hts := atoms_spec (ws := wsX1_of) B9.pre
  have hown : s.vm.findClass RX1 = some m.cls := findClass_of_methodNamed B9.named
  have hlocks := B9.notSynchronized
  have hin0 : ∀ w ∈ wsX10, w ∈ wsX1_of := by decide +kernel
  have w_0 := hts (.fieldLink RX1 35 "ApologyLedgerModel" "thrown" "I") (by decide +kernel)
  have hl := lv_entry ([.ref x, .int (iI (k : Int)), .ref (a 7)]) (n := 3) (Nat.le_of_ble_eq_true rfl)
  rw [lg_entry_eq]
  generalize (lg_sl ([.ref x, .int (iI (k : Int)), .ref (a 7)]) ++ List.replicate (3 - (lg_sl ([.ref x, .int (iI (k : Int)), .ref (a 7)])).length) Slot.unset).toArray = ls at hl ⊢
  have hl : lv_has ls 3 [(0, .ref x), (1, .int (iI (k : Int))), (2, .ref (a 7))] := hl
  have hIn := hI.n
  have hIb := hI.b
  refine lv_aload_n hx hb dX1_of_0 rfl (lv_at hl 0 rfl) ?_
  refine lv_iconst (v := iI 0) hx hb dX1_of_1 rfl ?_
  refine z_re (v' := iI ((0 : Nat) : Int)) (congrArg iI (by omega)) ?_
  refine m_put hx hb hts hin0 hown hK hP hD hS 0 rfl 0 (by decide) w_0 rfl (by decide +kernel) (Nat.le_of_ble_eq_true rfl) mW_put0 dX1_of_2 (fun H locs hP hD hS => ?_)
  refine lv_aload_n hx hb dX1_of_5 rfl (lv_at hl 0 rfl) ?_
  refine lv_iload_n hx hb dX1_of_6 rfl (lv_at hl 1 rfl) ?_
  refine zc_i (va_runV (As := [.int (iI (k : Int))]) (rest := []) ⟨hx, hb, hml, hown, hts⟩ (c_X1_isSlight l G x a σ 0 (k : Int) (by omega) (by omega)) (cwV 1 hts gX1_of_X1_isSlight rfl rfl rfl (by decide +kernel) ⟨Nat.le_of_ble_eq_true rfl, Nat.le_of_ble_eq_true rfl⟩) (preVM hK hP) rfl rfl hl.1 rfl (lv_room (Nat.le_of_ble_eq_true rfl)) dX1_of_7 ⟨Nat.le_of_ble_eq_true rfl, Nat.le_of_ble_eq_true rfl⟩) ?_
  have f_1 := inn_or (k : Int) 0 ((σ.1 1 : Nat) - 1)
  refine z_if_eq (tgt := 19) hx hb dX1_of_10 (by decide) (by omega) (fun c_2 => ?_) (fun c_2 => ?_)
  ·
    exfalso
    omega
  ·
    refine lv_aload_n hx hb dX1_of_13 rfl (lv_at hl 2 rfl) ?_
    refine lv_iload_n hx hb dX1_of_14 rfl (lv_at hl 1 rfl) ?_
    refine z_iald (v := iI (σ.2 7 k)) hx hb hK hP 8 0 rfl rfl (k := k) (by omega) (by decide) rfl dX1_of_15 ?_
    have f_3 := hI.r7 k
    refine lv_goto (tgt := 24) hx hb dX1_of_16 (by decide) ?_
    have hfin : σ = σ := by rfl
    rw [hfin] at hP
    have hfit : 0 = 0 := by rfl
    rw [hfit] at hP
    refine z_re (v' := iI (σ.2 7 k)) (congrArg iI (by first | rfl | omega)) ?_
    exact W.iret hx hb hr (fun t ht hW => ⟨⟨_, (), rfl, rfl, (by show va_P _ _ _ t.heap; rw [ht]; exact hP)⟩, hS.F ht⟩) hS.2.2 dX1_of_24
set_option maxHeartbeats 4000000 in
set_option maxRecDepth 100000 in
theorem e1_X1_of (l : Launch) (G : zG) (x : Nat) (a : Nat → Nat) (sz : Nat) (B : Nat) (σ : zS) (t : Nat) (z : Int) (y9 : Nat) (hI : zI B σ) (hzb : -2147483648 ≤ z ∧ z < 2147483648) (hbad : z < 0 ∨ (σ.1 1 : Int) ≤ z) : Met l yX1_of wsX1_of ({ frames := 2, cells := 0, slots := 0, locals := 43 } : Room) (va_Pc [.ref x, .int (iI z), .ref y9] (wM G x a t σ sz)) (va_Qi (fun r (_ : Unit) => r = iI 0) (fun _ t9 => va_P G.1 vwCl (mW G x a 1 σ) t9.heap) (zA x a sz)) 0 0 (zA x a sz) := by
  refine Met.ofW (cc := cX1_of) (maxL := 3) (ret := (some .int)) (by decide) rfl ?_
  intro pp ee s m args below meth c s₁ B9 hml hv
  obtain ⟨rfl, hsz, hP, hK, hD0⟩ := hv
  subst hsz
  have hD := mW_zA (sz := s.heap.size) hD0
  have hS : va_S (zA x a s.heap.size) s.heap s.heap [] := va_S.rf
  have hx := B9.exec
  have hb := B9.bytes
  have hr := B9.returns
  have hts := atoms_spec (ws := wsX1_of) B9.pre
  have hown : s.vm.findClass RX1 = some m.cls := findClass_of_methodNamed B9.named
  have hlocks := B9.notSynchronized
  have hin0 : ∀ w ∈ wsX10, w ∈ wsX1_of := by decide +kernel
  have w_0 := hts (.fieldLink RX1 35 "ApologyLedgerModel" "thrown" "I") (by decide +kernel)
  have hl := lv_entry ([.ref x, .int (iI z), .ref y9]) (n := 3) (Nat.le_of_ble_eq_true rfl)
  rw [lg_entry_eq]
  generalize (lg_sl ([.ref x, .int (iI z), .ref y9]) ++ List.replicate (3 - (lg_sl ([.ref x, .int (iI z), .ref y9])).length) Slot.unset).toArray = ls at hl ⊢
  have hl : lv_has ls 3 [(0, .ref x), (1, .int (iI z)), (2, .ref y9)] := hl
  have hIn := hI.n
  have hIb := hI.b
  refine lv_aload_n hx hb dX1_of_0 rfl (lv_at hl 0 rfl) ?_
  refine lv_iconst (v := iI 0) hx hb dX1_of_1 rfl ?_
  refine z_re (v' := iI ((0 : Nat) : Int)) (congrArg iI (by omega)) ?_
  refine m_put hx hb hts hin0 hown hK hP hD hS 0 rfl 0 (by decide) w_0 rfl (by decide +kernel) (Nat.le_of_ble_eq_true rfl) mW_put0 dX1_of_2 (fun H locs hP hD hS => ?_)
  refine lv_aload_n hx hb dX1_of_5 rfl (lv_at hl 0 rfl) ?_
  refine lv_iload_n hx hb dX1_of_6 rfl (lv_at hl 1 rfl) ?_
  refine zc_i (va_runV (As := [.int (iI z)]) (rest := []) ⟨hx, hb, hml, hown, hts⟩ (c_X1_isSlight l G x a σ 0 z (by omega) (by omega)) (cwV 1 hts gX1_of_X1_isSlight rfl rfl rfl (by decide +kernel) ⟨Nat.le_of_ble_eq_true rfl, Nat.le_of_ble_eq_true rfl⟩) (preVM hK hP) rfl rfl hl.1 rfl (lv_room (Nat.le_of_ble_eq_true rfl)) dX1_of_7 ⟨Nat.le_of_ble_eq_true rfl, Nat.le_of_ble_eq_true rfl⟩) ?_
  have f_1 := inn_or z 0 ((σ.1 1 : Nat) - 1)
  refine z_if_eq (tgt := 19) hx hb dX1_of_10 (by decide) (by omega) (fun c_2 => ?_) (fun c_2 => ?_)
  ·
    refine lv_aload_n hx hb dX1_of_19 rfl (lv_at hl 0 rfl) ?_
    refine lv_iconst (v := iI 1) hx hb dX1_of_20 rfl ?_
    refine z_re (v' := iI ((1 : Nat) : Int)) (congrArg iI (by omega)) ?_
    refine zc_wi (va_runV (As := [.int (iI ((1 : Nat) : Int))]) (rest := []) ⟨hx, hb, hml, hown, hts⟩ (c_X1_no l G x a _ σ 0 1) (cwV 1 hts gX1_of_X1_no rfl rfl rfl (by decide +kernel) ⟨Nat.le_of_ble_eq_true rfl, Nat.le_of_ble_eq_true rfl⟩) (preWM hK hP hD) rfl rfl hl.1 rfl (lv_room (Nat.le_of_ble_eq_true rfl)) dX1_of_21 ⟨Nat.le_of_ble_eq_true rfl, Nat.le_of_ble_eq_true rfl⟩) hS (fun q h => zA_mono hS.1 h) (fun H locs hP hS _ _ => ?_)
    have hD := mW_D (t' := 1) (σ' := σ) hD
    have hfin : σ = σ := by rfl
    rw [hfin] at hP
    have hfit : 1 = 1 := by rfl
    rw [hfit] at hP
    refine z_re (v' := iI 0) (congrArg iI (by first | rfl | omega)) ?_
    exact W.iret hx hb hr (fun t ht hW => ⟨⟨_, (), rfl, rfl, (by show va_P _ _ _ t.heap; rw [ht]; exact hP)⟩, hS.F ht⟩) hS.2.2 dX1_of_24
  ·
    exfalso
    omega
set_option maxHeartbeats 4000000 in
set_option maxRecDepth 100000 in
theorem v_X1_offenderOf (l : Launch) (G : zG) (x : Nat) (a : Nat → Nat) (sz : Nat) (B : Nat) (σ : zS) (t : Nat) (k : Nat) (hI : zI B σ) (hk : k < σ.1 1) : Met l yX1_offenderOf wsX1_offenderOf ({ frames := 3, cells := 0, slots := 0, locals := 65 } : Room) (va_Pc [.ref x, .int (iI (k : Int))] (wM G x a t σ sz)) (va_Qi (fun r (_ : Unit) => r = iI (σ.2 2 k)) (fun _ t9 => va_P G.1 vwCl (mW G x a 0 σ) t9.heap) (zA x a sz)) 0 0 (zA x a sz) := by
  refine Met.ofW (cc := cX1_offenderOf) (maxL := 2) (ret := (some .int)) (by decide) rfl ?_
  intro pp ee s m args below meth c s₁ B9 hml hv
  obtain ⟨rfl, hsz, hP, hK, hD0⟩ := hv
  subst hsz
  have hD := mW_zA (sz := s.heap.size) hD0
  have hS : va_S (zA x a s.heap.size) s.heap s.heap [] := va_S.rf
  have hx := B9.exec
  have hb := B9.bytes
  have hr := B9.returns
  have hts := atoms_spec (ws := wsX1_offenderOf) B9.pre
  have hown : s.vm.findClass RX1 = some m.cls := findClass_of_methodNamed B9.named
  have hlocks := B9.notSynchronized
  have hin0 : ∀ w ∈ wsX10, w ∈ wsX1_offenderOf := by decide +kernel
  have w_0 := hts (.fieldLink RX1 17 "ApologyLedgerModel" "by" "[I") (by decide +kernel)
  have hl := lv_entry ([.ref x, .int (iI (k : Int))]) (n := 2) (Nat.le_of_ble_eq_true rfl)
  rw [lg_entry_eq]
  generalize (lg_sl ([.ref x, .int (iI (k : Int))]) ++ List.replicate (2 - (lg_sl ([.ref x, .int (iI (k : Int))])).length) Slot.unset).toArray = ls at hl ⊢
  have hl : lv_has ls 2 [(0, .ref x), (1, .int (iI (k : Int)))] := hl
  have hIn := hI.n
  have hIb := hI.b
  refine lv_aload_n hx hb dX1_offenderOf_0 rfl (lv_at hl 0 rfl) ?_
  refine lv_iload_n hx hb dX1_offenderOf_1 rfl (lv_at hl 1 rfl) ?_
  refine lv_aload_n hx hb dX1_offenderOf_2 rfl (lv_at hl 0 rfl) ?_
  refine m_get (v := .ref (a 2)) hx hb hts hin0 hown hK hP 0 rfl 7 (by decide) w_0 rfl dX1_offenderOf_3 ?_
  refine zc_wi (va_runV (As := [.int (iI (k : Int)), .ref (a 2)]) (rest := []) ⟨hx, hb, hml, hown, hts⟩ (v_X1_of_2 l G x a _ B σ t k hI (by omega)) (cwV 2 hts gX1_offenderOf_X1_of rfl rfl rfl (by decide +kernel) ⟨Nat.le_of_ble_eq_true rfl, Nat.le_of_ble_eq_true rfl⟩) (preWM hK hP hD) rfl rfl hl.1 rfl (lv_room (Nat.le_of_ble_eq_true rfl)) dX1_offenderOf_6 ⟨Nat.le_of_ble_eq_true rfl, Nat.le_of_ble_eq_true rfl⟩) hS (fun q h => zA_mono hS.1 h) (fun H locs hP hS _ _ => ?_)
  have hD := mW_D (t' := 0) (σ' := σ) hD
  have hfin : σ = σ := by rfl
  rw [hfin] at hP
  have hfit : 0 = 0 := by rfl
  rw [hfit] at hP
  refine z_re (v' := iI (σ.2 2 k)) (congrArg iI (by first | rfl | omega)) ?_
  exact W.iret hx hb hr (fun t ht hW => ⟨⟨_, (), rfl, rfl, (by show va_P _ _ _ t.heap; rw [ht]; exact hP)⟩, hS.F ht⟩) hS.2.2 dX1_offenderOf_9
set_option maxHeartbeats 4000000 in
set_option maxRecDepth 100000 in
theorem e1_X1_offenderOf (l : Launch) (G : zG) (x : Nat) (a : Nat → Nat) (sz : Nat) (B : Nat) (σ : zS) (t : Nat) (z : Int) (hI : zI B σ) (hzb : -2147483648 ≤ z ∧ z < 2147483648) (hbad : z < 0 ∨ (σ.1 1 : Int) ≤ z) : Met l yX1_offenderOf wsX1_offenderOf ({ frames := 3, cells := 0, slots := 0, locals := 65 } : Room) (va_Pc [.ref x, .int (iI z)] (wM G x a t σ sz)) (va_Qi (fun r (_ : Unit) => r = iI 0) (fun _ t9 => va_P G.1 vwCl (mW G x a 1 σ) t9.heap) (zA x a sz)) 0 0 (zA x a sz) := by
  refine Met.ofW (cc := cX1_offenderOf) (maxL := 2) (ret := (some .int)) (by decide) rfl ?_
  intro pp ee s m args below meth c s₁ B9 hml hv
  obtain ⟨rfl, hsz, hP, hK, hD0⟩ := hv
  subst hsz
  have hD := mW_zA (sz := s.heap.size) hD0
  have hS : va_S (zA x a s.heap.size) s.heap s.heap [] := va_S.rf
  have hx := B9.exec
  have hb := B9.bytes
  have hr := B9.returns
  have hts := atoms_spec (ws := wsX1_offenderOf) B9.pre
  have hown : s.vm.findClass RX1 = some m.cls := findClass_of_methodNamed B9.named
  have hlocks := B9.notSynchronized
  have hin0 : ∀ w ∈ wsX10, w ∈ wsX1_offenderOf := by decide +kernel
  have w_0 := hts (.fieldLink RX1 17 "ApologyLedgerModel" "by" "[I") (by decide +kernel)
  have hl := lv_entry ([.ref x, .int (iI z)]) (n := 2) (Nat.le_of_ble_eq_true rfl)
  rw [lg_entry_eq]
  generalize (lg_sl ([.ref x, .int (iI z)]) ++ List.replicate (2 - (lg_sl ([.ref x, .int (iI z)])).length) Slot.unset).toArray = ls at hl ⊢
  have hl : lv_has ls 2 [(0, .ref x), (1, .int (iI z))] := hl
  have hIn := hI.n
  have hIb := hI.b
  refine lv_aload_n hx hb dX1_offenderOf_0 rfl (lv_at hl 0 rfl) ?_
  refine lv_iload_n hx hb dX1_offenderOf_1 rfl (lv_at hl 1 rfl) ?_
  refine lv_aload_n hx hb dX1_offenderOf_2 rfl (lv_at hl 0 rfl) ?_
  refine m_get (v := .ref (a 2)) hx hb hts hin0 hown hK hP 0 rfl 7 (by decide) w_0 rfl dX1_offenderOf_3 ?_
  refine zc_wi (va_runV (As := [.int (iI z), .ref (a 2)]) (rest := []) ⟨hx, hb, hml, hown, hts⟩ (e1_X1_of l G x a _ B σ t z (a 2) hI (by omega) (by omega)) (cwV 2 hts gX1_offenderOf_X1_of rfl rfl rfl (by decide +kernel) ⟨Nat.le_of_ble_eq_true rfl, Nat.le_of_ble_eq_true rfl⟩) (preWM hK hP hD) rfl rfl hl.1 rfl (lv_room (Nat.le_of_ble_eq_true rfl)) dX1_offenderOf_6 ⟨Nat.le_of_ble_eq_true rfl, Nat.le_of_ble_eq_true rfl⟩) hS (fun q h => zA_mono hS.1 h) (fun H locs hP hS _ _ => ?_)
  have hD := mW_D (t' := 1) (σ' := σ) hD
  have hfin : σ = σ := by rfl
  rw [hfin] at hP
  have hfit : 1 = 1 := by rfl
  rw [hfit] at hP
  refine z_re (v' := iI 0) (congrArg iI (by first | rfl | omega)) ?_
  exact W.iret hx hb hr (fun t ht hW => ⟨⟨_, (), rfl, rfl, (by show va_P _ _ _ t.heap; rw [ht]; exact hP)⟩, hS.F ht⟩) hS.2.2 dX1_offenderOf_9
set_option maxHeartbeats 4000000 in
set_option maxRecDepth 100000 in
theorem v_X1_offendedOf (l : Launch) (G : zG) (x : Nat) (a : Nat → Nat) (sz : Nat) (B : Nat) (σ : zS) (t : Nat) (k : Nat) (hI : zI B σ) (hk : k < σ.1 1) : Met l yX1_offendedOf wsX1_offendedOf ({ frames := 3, cells := 0, slots := 0, locals := 65 } : Room) (va_Pc [.ref x, .int (iI (k : Int))] (wM G x a t σ sz)) (va_Qi (fun r (_ : Unit) => r = iI (σ.2 3 k)) (fun _ t9 => va_P G.1 vwCl (mW G x a 0 σ) t9.heap) (zA x a sz)) 0 0 (zA x a sz) := by
  refine Met.ofW (cc := cX1_offendedOf) (maxL := 2) (ret := (some .int)) (by decide) rfl ?_
  intro pp ee s m args below meth c s₁ B9 hml hv
  obtain ⟨rfl, hsz, hP, hK, hD0⟩ := hv
  subst hsz
  have hD := mW_zA (sz := s.heap.size) hD0
  have hS : va_S (zA x a s.heap.size) s.heap s.heap [] := va_S.rf
  have hx := B9.exec
  have hb := B9.bytes
  have hr := B9.returns
  have hts := atoms_spec (ws := wsX1_offendedOf) B9.pre
  have hown : s.vm.findClass RX1 = some m.cls := findClass_of_methodNamed B9.named
  have hlocks := B9.notSynchronized
  have hin0 : ∀ w ∈ wsX10, w ∈ wsX1_offendedOf := by decide +kernel
  have w_0 := hts (.fieldLink RX1 20 "ApologyLedgerModel" "against" "[I") (by decide +kernel)
  have hl := lv_entry ([.ref x, .int (iI (k : Int))]) (n := 2) (Nat.le_of_ble_eq_true rfl)
  rw [lg_entry_eq]
  generalize (lg_sl ([.ref x, .int (iI (k : Int))]) ++ List.replicate (2 - (lg_sl ([.ref x, .int (iI (k : Int))])).length) Slot.unset).toArray = ls at hl ⊢
  have hl : lv_has ls 2 [(0, .ref x), (1, .int (iI (k : Int)))] := hl
  have hIn := hI.n
  have hIb := hI.b
  refine lv_aload_n hx hb dX1_offendedOf_0 rfl (lv_at hl 0 rfl) ?_
  refine lv_iload_n hx hb dX1_offendedOf_1 rfl (lv_at hl 1 rfl) ?_
  refine lv_aload_n hx hb dX1_offendedOf_2 rfl (lv_at hl 0 rfl) ?_
  refine m_get (v := .ref (a 3)) hx hb hts hin0 hown hK hP 0 rfl 8 (by decide) w_0 rfl dX1_offendedOf_3 ?_
  refine zc_wi (va_runV (As := [.int (iI (k : Int)), .ref (a 3)]) (rest := []) ⟨hx, hb, hml, hown, hts⟩ (v_X1_of_3 l G x a _ B σ t k hI (by omega)) (cwV 2 hts gX1_offendedOf_X1_of rfl rfl rfl (by decide +kernel) ⟨Nat.le_of_ble_eq_true rfl, Nat.le_of_ble_eq_true rfl⟩) (preWM hK hP hD) rfl rfl hl.1 rfl (lv_room (Nat.le_of_ble_eq_true rfl)) dX1_offendedOf_6 ⟨Nat.le_of_ble_eq_true rfl, Nat.le_of_ble_eq_true rfl⟩) hS (fun q h => zA_mono hS.1 h) (fun H locs hP hS _ _ => ?_)
  have hD := mW_D (t' := 0) (σ' := σ) hD
  have hfin : σ = σ := by rfl
  rw [hfin] at hP
  have hfit : 0 = 0 := by rfl
  rw [hfit] at hP
  refine z_re (v' := iI (σ.2 3 k)) (congrArg iI (by first | rfl | omega)) ?_
  exact W.iret hx hb hr (fun t ht hW => ⟨⟨_, (), rfl, rfl, (by show va_P _ _ _ t.heap; rw [ht]; exact hP)⟩, hS.F ht⟩) hS.2.2 dX1_offendedOf_9
set_option maxHeartbeats 4000000 in
set_option maxRecDepth 100000 in
theorem e1_X1_offendedOf (l : Launch) (G : zG) (x : Nat) (a : Nat → Nat) (sz : Nat) (B : Nat) (σ : zS) (t : Nat) (z : Int) (hI : zI B σ) (hzb : -2147483648 ≤ z ∧ z < 2147483648) (hbad : z < 0 ∨ (σ.1 1 : Int) ≤ z) : Met l yX1_offendedOf wsX1_offendedOf ({ frames := 3, cells := 0, slots := 0, locals := 65 } : Room) (va_Pc [.ref x, .int (iI z)] (wM G x a t σ sz)) (va_Qi (fun r (_ : Unit) => r = iI 0) (fun _ t9 => va_P G.1 vwCl (mW G x a 1 σ) t9.heap) (zA x a sz)) 0 0 (zA x a sz) := by
  refine Met.ofW (cc := cX1_offendedOf) (maxL := 2) (ret := (some .int)) (by decide) rfl ?_
  intro pp ee s m args below meth c s₁ B9 hml hv
  obtain ⟨rfl, hsz, hP, hK, hD0⟩ := hv
  subst hsz
  have hD := mW_zA (sz := s.heap.size) hD0
  have hS : va_S (zA x a s.heap.size) s.heap s.heap [] := va_S.rf
  have hx := B9.exec
  have hb := B9.bytes
  have hr := B9.returns
  have hts := atoms_spec (ws := wsX1_offendedOf) B9.pre
  have hown : s.vm.findClass RX1 = some m.cls := findClass_of_methodNamed B9.named
  have hlocks := B9.notSynchronized
  have hin0 : ∀ w ∈ wsX10, w ∈ wsX1_offendedOf := by decide +kernel
  have w_0 := hts (.fieldLink RX1 20 "ApologyLedgerModel" "against" "[I") (by decide +kernel)
  have hl := lv_entry ([.ref x, .int (iI z)]) (n := 2) (Nat.le_of_ble_eq_true rfl)
  rw [lg_entry_eq]
  generalize (lg_sl ([.ref x, .int (iI z)]) ++ List.replicate (2 - (lg_sl ([.ref x, .int (iI z)])).length) Slot.unset).toArray = ls at hl ⊢
  have hl : lv_has ls 2 [(0, .ref x), (1, .int (iI z))] := hl
  have hIn := hI.n
  have hIb := hI.b
  refine lv_aload_n hx hb dX1_offendedOf_0 rfl (lv_at hl 0 rfl) ?_
  refine lv_iload_n hx hb dX1_offendedOf_1 rfl (lv_at hl 1 rfl) ?_
  refine lv_aload_n hx hb dX1_offendedOf_2 rfl (lv_at hl 0 rfl) ?_
  refine m_get (v := .ref (a 3)) hx hb hts hin0 hown hK hP 0 rfl 8 (by decide) w_0 rfl dX1_offendedOf_3 ?_
  refine zc_wi (va_runV (As := [.int (iI z), .ref (a 3)]) (rest := []) ⟨hx, hb, hml, hown, hts⟩ (e1_X1_of l G x a _ B σ t z (a 3) hI (by omega) (by omega)) (cwV 2 hts gX1_offendedOf_X1_of rfl rfl rfl (by decide +kernel) ⟨Nat.le_of_ble_eq_true rfl, Nat.le_of_ble_eq_true rfl⟩) (preWM hK hP hD) rfl rfl hl.1 rfl (lv_room (Nat.le_of_ble_eq_true rfl)) dX1_offendedOf_6 ⟨Nat.le_of_ble_eq_true rfl, Nat.le_of_ble_eq_true rfl⟩) hS (fun q h => zA_mono hS.1 h) (fun H locs hP hS _ _ => ?_)
  have hD := mW_D (t' := 1) (σ' := σ) hD
  have hfin : σ = σ := by rfl
  rw [hfin] at hP
  have hfit : 1 = 1 := by rfl
  rw [hfit] at hP
  refine z_re (v' := iI 0) (congrArg iI (by first | rfl | omega)) ?_
  exact W.iret hx hb hr (fun t ht hW => ⟨⟨_, (), rfl, rfl, (by show va_P _ _ _ t.heap; rw [ht]; exact hP)⟩, hS.F ht⟩) hS.2.2 dX1_offendedOf_9
set_option maxHeartbeats 4000000 in
set_option maxRecDepth 100000 in
theorem v_X1_weightOf (l : Launch) (G : zG) (x : Nat) (a : Nat → Nat) (sz : Nat) (B : Nat) (σ : zS) (t : Nat) (k : Nat) (hI : zI B σ) (hk : k < σ.1 1) : Met l yX1_weightOf wsX1_weightOf ({ frames := 3, cells := 0, slots := 0, locals := 65 } : Room) (va_Pc [.ref x, .int (iI (k : Int))] (wM G x a t σ sz)) (va_Qi (fun r (_ : Unit) => r = iI (σ.2 4 k)) (fun _ t9 => va_P G.1 vwCl (mW G x a 0 σ) t9.heap) (zA x a sz)) 0 0 (zA x a sz) := by
  refine Met.ofW (cc := cX1_weightOf) (maxL := 2) (ret := (some .int)) (by decide) rfl ?_
  intro pp ee s m args below meth c s₁ B9 hml hv
  obtain ⟨rfl, hsz, hP, hK, hD0⟩ := hv
  subst hsz
  have hD := mW_zA (sz := s.heap.size) hD0
  have hS : va_S (zA x a s.heap.size) s.heap s.heap [] := va_S.rf
  have hx := B9.exec
  have hb := B9.bytes
  have hr := B9.returns
  have hts := atoms_spec (ws := wsX1_weightOf) B9.pre
  have hown : s.vm.findClass RX1 = some m.cls := findClass_of_methodNamed B9.named
  have hlocks := B9.notSynchronized
  have hin0 : ∀ w ∈ wsX10, w ∈ wsX1_weightOf := by decide +kernel
  have w_0 := hts (.fieldLink RX1 23 "ApologyLedgerModel" "weight" "[I") (by decide +kernel)
  have hl := lv_entry ([.ref x, .int (iI (k : Int))]) (n := 2) (Nat.le_of_ble_eq_true rfl)
  rw [lg_entry_eq]
  generalize (lg_sl ([.ref x, .int (iI (k : Int))]) ++ List.replicate (2 - (lg_sl ([.ref x, .int (iI (k : Int))])).length) Slot.unset).toArray = ls at hl ⊢
  have hl : lv_has ls 2 [(0, .ref x), (1, .int (iI (k : Int)))] := hl
  have hIn := hI.n
  have hIb := hI.b
  refine lv_aload_n hx hb dX1_weightOf_0 rfl (lv_at hl 0 rfl) ?_
  refine lv_iload_n hx hb dX1_weightOf_1 rfl (lv_at hl 1 rfl) ?_
  refine lv_aload_n hx hb dX1_weightOf_2 rfl (lv_at hl 0 rfl) ?_
  refine m_get (v := .ref (a 4)) hx hb hts hin0 hown hK hP 0 rfl 9 (by decide) w_0 rfl dX1_weightOf_3 ?_
  refine zc_wi (va_runV (As := [.int (iI (k : Int)), .ref (a 4)]) (rest := []) ⟨hx, hb, hml, hown, hts⟩ (v_X1_of_4 l G x a _ B σ t k hI (by omega)) (cwV 2 hts gX1_weightOf_X1_of rfl rfl rfl (by decide +kernel) ⟨Nat.le_of_ble_eq_true rfl, Nat.le_of_ble_eq_true rfl⟩) (preWM hK hP hD) rfl rfl hl.1 rfl (lv_room (Nat.le_of_ble_eq_true rfl)) dX1_weightOf_6 ⟨Nat.le_of_ble_eq_true rfl, Nat.le_of_ble_eq_true rfl⟩) hS (fun q h => zA_mono hS.1 h) (fun H locs hP hS _ _ => ?_)
  have hD := mW_D (t' := 0) (σ' := σ) hD
  have hfin : σ = σ := by rfl
  rw [hfin] at hP
  have hfit : 0 = 0 := by rfl
  rw [hfit] at hP
  refine z_re (v' := iI (σ.2 4 k)) (congrArg iI (by first | rfl | omega)) ?_
  exact W.iret hx hb hr (fun t ht hW => ⟨⟨_, (), rfl, rfl, (by show va_P _ _ _ t.heap; rw [ht]; exact hP)⟩, hS.F ht⟩) hS.2.2 dX1_weightOf_9
set_option maxHeartbeats 4000000 in
set_option maxRecDepth 100000 in
theorem e1_X1_weightOf (l : Launch) (G : zG) (x : Nat) (a : Nat → Nat) (sz : Nat) (B : Nat) (σ : zS) (t : Nat) (z : Int) (hI : zI B σ) (hzb : -2147483648 ≤ z ∧ z < 2147483648) (hbad : z < 0 ∨ (σ.1 1 : Int) ≤ z) : Met l yX1_weightOf wsX1_weightOf ({ frames := 3, cells := 0, slots := 0, locals := 65 } : Room) (va_Pc [.ref x, .int (iI z)] (wM G x a t σ sz)) (va_Qi (fun r (_ : Unit) => r = iI 0) (fun _ t9 => va_P G.1 vwCl (mW G x a 1 σ) t9.heap) (zA x a sz)) 0 0 (zA x a sz) := by
  refine Met.ofW (cc := cX1_weightOf) (maxL := 2) (ret := (some .int)) (by decide) rfl ?_
  intro pp ee s m args below meth c s₁ B9 hml hv
  obtain ⟨rfl, hsz, hP, hK, hD0⟩ := hv
  subst hsz
  have hD := mW_zA (sz := s.heap.size) hD0
  have hS : va_S (zA x a s.heap.size) s.heap s.heap [] := va_S.rf
  have hx := B9.exec
  have hb := B9.bytes
  have hr := B9.returns
  have hts := atoms_spec (ws := wsX1_weightOf) B9.pre
  have hown : s.vm.findClass RX1 = some m.cls := findClass_of_methodNamed B9.named
  have hlocks := B9.notSynchronized
  have hin0 : ∀ w ∈ wsX10, w ∈ wsX1_weightOf := by decide +kernel
  have w_0 := hts (.fieldLink RX1 23 "ApologyLedgerModel" "weight" "[I") (by decide +kernel)
  have hl := lv_entry ([.ref x, .int (iI z)]) (n := 2) (Nat.le_of_ble_eq_true rfl)
  rw [lg_entry_eq]
  generalize (lg_sl ([.ref x, .int (iI z)]) ++ List.replicate (2 - (lg_sl ([.ref x, .int (iI z)])).length) Slot.unset).toArray = ls at hl ⊢
  have hl : lv_has ls 2 [(0, .ref x), (1, .int (iI z))] := hl
  have hIn := hI.n
  have hIb := hI.b
  refine lv_aload_n hx hb dX1_weightOf_0 rfl (lv_at hl 0 rfl) ?_
  refine lv_iload_n hx hb dX1_weightOf_1 rfl (lv_at hl 1 rfl) ?_
  refine lv_aload_n hx hb dX1_weightOf_2 rfl (lv_at hl 0 rfl) ?_
  refine m_get (v := .ref (a 4)) hx hb hts hin0 hown hK hP 0 rfl 9 (by decide) w_0 rfl dX1_weightOf_3 ?_
  refine zc_wi (va_runV (As := [.int (iI z), .ref (a 4)]) (rest := []) ⟨hx, hb, hml, hown, hts⟩ (e1_X1_of l G x a _ B σ t z (a 4) hI (by omega) (by omega)) (cwV 2 hts gX1_weightOf_X1_of rfl rfl rfl (by decide +kernel) ⟨Nat.le_of_ble_eq_true rfl, Nat.le_of_ble_eq_true rfl⟩) (preWM hK hP hD) rfl rfl hl.1 rfl (lv_room (Nat.le_of_ble_eq_true rfl)) dX1_weightOf_6 ⟨Nat.le_of_ble_eq_true rfl, Nat.le_of_ble_eq_true rfl⟩) hS (fun q h => zA_mono hS.1 h) (fun H locs hP hS _ _ => ?_)
  have hD := mW_D (t' := 1) (σ' := σ) hD
  have hfin : σ = σ := by rfl
  rw [hfin] at hP
  have hfit : 1 = 1 := by rfl
  rw [hfit] at hP
  refine z_re (v' := iI 0) (congrArg iI (by first | rfl | omega)) ?_
  exact W.iret hx hb hr (fun t ht hW => ⟨⟨_, (), rfl, rfl, (by show va_P _ _ _ t.heap; rw [ht]; exact hP)⟩, hS.F ht⟩) hS.2.2 dX1_weightOf_9
set_option maxHeartbeats 4000000 in
set_option maxRecDepth 100000 in
theorem v_X1_stateOf (l : Launch) (G : zG) (x : Nat) (a : Nat → Nat) (sz : Nat) (B : Nat) (σ : zS) (t : Nat) (k : Nat) (hI : zI B σ) (hk : k < σ.1 1) : Met l yX1_stateOf wsX1_stateOf ({ frames := 3, cells := 0, slots := 0, locals := 65 } : Room) (va_Pc [.ref x, .int (iI (k : Int))] (wM G x a t σ sz)) (va_Qi (fun r (_ : Unit) => r = iI (σ.2 5 k)) (fun _ t9 => va_P G.1 vwCl (mW G x a 0 σ) t9.heap) (zA x a sz)) 0 0 (zA x a sz) := by
  refine Met.ofW (cc := cX1_stateOf) (maxL := 2) (ret := (some .int)) (by decide) rfl ?_
  intro pp ee s m args below meth c s₁ B9 hml hv
  obtain ⟨rfl, hsz, hP, hK, hD0⟩ := hv
  subst hsz
  have hD := mW_zA (sz := s.heap.size) hD0
  have hS : va_S (zA x a s.heap.size) s.heap s.heap [] := va_S.rf
  have hx := B9.exec
  have hb := B9.bytes
  have hr := B9.returns
  have hts := atoms_spec (ws := wsX1_stateOf) B9.pre
  have hown : s.vm.findClass RX1 = some m.cls := findClass_of_methodNamed B9.named
  have hlocks := B9.notSynchronized
  have hin0 : ∀ w ∈ wsX10, w ∈ wsX1_stateOf := by decide +kernel
  have w_0 := hts (.fieldLink RX1 26 "ApologyLedgerModel" "state" "[I") (by decide +kernel)
  have hl := lv_entry ([.ref x, .int (iI (k : Int))]) (n := 2) (Nat.le_of_ble_eq_true rfl)
  rw [lg_entry_eq]
  generalize (lg_sl ([.ref x, .int (iI (k : Int))]) ++ List.replicate (2 - (lg_sl ([.ref x, .int (iI (k : Int))])).length) Slot.unset).toArray = ls at hl ⊢
  have hl : lv_has ls 2 [(0, .ref x), (1, .int (iI (k : Int)))] := hl
  have hIn := hI.n
  have hIb := hI.b
  refine lv_aload_n hx hb dX1_stateOf_0 rfl (lv_at hl 0 rfl) ?_
  refine lv_iload_n hx hb dX1_stateOf_1 rfl (lv_at hl 1 rfl) ?_
  refine lv_aload_n hx hb dX1_stateOf_2 rfl (lv_at hl 0 rfl) ?_
  refine m_get (v := .ref (a 5)) hx hb hts hin0 hown hK hP 0 rfl 10 (by decide) w_0 rfl dX1_stateOf_3 ?_
  refine zc_wi (va_runV (As := [.int (iI (k : Int)), .ref (a 5)]) (rest := []) ⟨hx, hb, hml, hown, hts⟩ (v_X1_of_5 l G x a _ B σ t k hI (by omega)) (cwV 2 hts gX1_stateOf_X1_of rfl rfl rfl (by decide +kernel) ⟨Nat.le_of_ble_eq_true rfl, Nat.le_of_ble_eq_true rfl⟩) (preWM hK hP hD) rfl rfl hl.1 rfl (lv_room (Nat.le_of_ble_eq_true rfl)) dX1_stateOf_6 ⟨Nat.le_of_ble_eq_true rfl, Nat.le_of_ble_eq_true rfl⟩) hS (fun q h => zA_mono hS.1 h) (fun H locs hP hS _ _ => ?_)
  have hD := mW_D (t' := 0) (σ' := σ) hD
  have hfin : σ = σ := by rfl
  rw [hfin] at hP
  have hfit : 0 = 0 := by rfl
  rw [hfit] at hP
  refine z_re (v' := iI (σ.2 5 k)) (congrArg iI (by first | rfl | omega)) ?_
  exact W.iret hx hb hr (fun t ht hW => ⟨⟨_, (), rfl, rfl, (by show va_P _ _ _ t.heap; rw [ht]; exact hP)⟩, hS.F ht⟩) hS.2.2 dX1_stateOf_9
set_option maxHeartbeats 4000000 in
set_option maxRecDepth 100000 in
theorem e1_X1_stateOf (l : Launch) (G : zG) (x : Nat) (a : Nat → Nat) (sz : Nat) (B : Nat) (σ : zS) (t : Nat) (z : Int) (hI : zI B σ) (hzb : -2147483648 ≤ z ∧ z < 2147483648) (hbad : z < 0 ∨ (σ.1 1 : Int) ≤ z) : Met l yX1_stateOf wsX1_stateOf ({ frames := 3, cells := 0, slots := 0, locals := 65 } : Room) (va_Pc [.ref x, .int (iI z)] (wM G x a t σ sz)) (va_Qi (fun r (_ : Unit) => r = iI 0) (fun _ t9 => va_P G.1 vwCl (mW G x a 1 σ) t9.heap) (zA x a sz)) 0 0 (zA x a sz) := by
  refine Met.ofW (cc := cX1_stateOf) (maxL := 2) (ret := (some .int)) (by decide) rfl ?_
  intro pp ee s m args below meth c s₁ B9 hml hv
  obtain ⟨rfl, hsz, hP, hK, hD0⟩ := hv
  subst hsz
  have hD := mW_zA (sz := s.heap.size) hD0
  have hS : va_S (zA x a s.heap.size) s.heap s.heap [] := va_S.rf
  have hx := B9.exec
  have hb := B9.bytes
  have hr := B9.returns
  have hts := atoms_spec (ws := wsX1_stateOf) B9.pre
  have hown : s.vm.findClass RX1 = some m.cls := findClass_of_methodNamed B9.named
  have hlocks := B9.notSynchronized
  have hin0 : ∀ w ∈ wsX10, w ∈ wsX1_stateOf := by decide +kernel
  have w_0 := hts (.fieldLink RX1 26 "ApologyLedgerModel" "state" "[I") (by decide +kernel)
  have hl := lv_entry ([.ref x, .int (iI z)]) (n := 2) (Nat.le_of_ble_eq_true rfl)
  rw [lg_entry_eq]
  generalize (lg_sl ([.ref x, .int (iI z)]) ++ List.replicate (2 - (lg_sl ([.ref x, .int (iI z)])).length) Slot.unset).toArray = ls at hl ⊢
  have hl : lv_has ls 2 [(0, .ref x), (1, .int (iI z))] := hl
  have hIn := hI.n
  have hIb := hI.b
  refine lv_aload_n hx hb dX1_stateOf_0 rfl (lv_at hl 0 rfl) ?_
  refine lv_iload_n hx hb dX1_stateOf_1 rfl (lv_at hl 1 rfl) ?_
  refine lv_aload_n hx hb dX1_stateOf_2 rfl (lv_at hl 0 rfl) ?_
  refine m_get (v := .ref (a 5)) hx hb hts hin0 hown hK hP 0 rfl 10 (by decide) w_0 rfl dX1_stateOf_3 ?_
  refine zc_wi (va_runV (As := [.int (iI z), .ref (a 5)]) (rest := []) ⟨hx, hb, hml, hown, hts⟩ (e1_X1_of l G x a _ B σ t z (a 5) hI (by omega) (by omega)) (cwV 2 hts gX1_stateOf_X1_of rfl rfl rfl (by decide +kernel) ⟨Nat.le_of_ble_eq_true rfl, Nat.le_of_ble_eq_true rfl⟩) (preWM hK hP hD) rfl rfl hl.1 rfl (lv_room (Nat.le_of_ble_eq_true rfl)) dX1_stateOf_6 ⟨Nat.le_of_ble_eq_true rfl, Nat.le_of_ble_eq_true rfl⟩) hS (fun q h => zA_mono hS.1 h) (fun H locs hP hS _ _ => ?_)
  have hD := mW_D (t' := 1) (σ' := σ) hD
  have hfin : σ = σ := by rfl
  rw [hfin] at hP
  have hfit : 1 = 1 := by rfl
  rw [hfit] at hP
  refine z_re (v' := iI 0) (congrArg iI (by first | rfl | omega)) ?_
  exact W.iret hx hb hr (fun t ht hW => ⟨⟨_, (), rfl, rfl, (by show va_P _ _ _ t.heap; rw [ht]; exact hP)⟩, hS.F ht⟩) hS.2.2 dX1_stateOf_9
set_option maxHeartbeats 4000000 in
set_option maxRecDepth 100000 in
theorem v_X1_borneFor (l : Launch) (G : zG) (x : Nat) (a : Nat → Nat) (sz : Nat) (B : Nat) (σ : zS) (t : Nat) (k : Nat) (hI : zI B σ) (hk : k < σ.1 1) : Met l yX1_borneFor wsX1_borneFor ({ frames := 3, cells := 0, slots := 0, locals := 65 } : Room) (va_Pc [.ref x, .int (iI (k : Int))] (wM G x a t σ sz)) (va_Qi (fun r (_ : Unit) => r = iI (σ.2 6 k)) (fun _ t9 => va_P G.1 vwCl (mW G x a 0 σ) t9.heap) (zA x a sz)) 0 0 (zA x a sz) := by
  refine Met.ofW (cc := cX1_borneFor) (maxL := 2) (ret := (some .int)) (by decide) rfl ?_
  intro pp ee s m args below meth c s₁ B9 hml hv
  obtain ⟨rfl, hsz, hP, hK, hD0⟩ := hv
  subst hsz
  have hD := mW_zA (sz := s.heap.size) hD0
  have hS : va_S (zA x a s.heap.size) s.heap s.heap [] := va_S.rf
  have hx := B9.exec
  have hb := B9.bytes
  have hr := B9.returns
  have hts := atoms_spec (ws := wsX1_borneFor) B9.pre
  have hown : s.vm.findClass RX1 = some m.cls := findClass_of_methodNamed B9.named
  have hlocks := B9.notSynchronized
  have hin0 : ∀ w ∈ wsX10, w ∈ wsX1_borneFor := by decide +kernel
  have w_0 := hts (.fieldLink RX1 29 "ApologyLedgerModel" "borne" "[I") (by decide +kernel)
  have hl := lv_entry ([.ref x, .int (iI (k : Int))]) (n := 2) (Nat.le_of_ble_eq_true rfl)
  rw [lg_entry_eq]
  generalize (lg_sl ([.ref x, .int (iI (k : Int))]) ++ List.replicate (2 - (lg_sl ([.ref x, .int (iI (k : Int))])).length) Slot.unset).toArray = ls at hl ⊢
  have hl : lv_has ls 2 [(0, .ref x), (1, .int (iI (k : Int)))] := hl
  have hIn := hI.n
  have hIb := hI.b
  refine lv_aload_n hx hb dX1_borneFor_0 rfl (lv_at hl 0 rfl) ?_
  refine lv_iload_n hx hb dX1_borneFor_1 rfl (lv_at hl 1 rfl) ?_
  refine lv_aload_n hx hb dX1_borneFor_2 rfl (lv_at hl 0 rfl) ?_
  refine m_get (v := .ref (a 6)) hx hb hts hin0 hown hK hP 0 rfl 11 (by decide) w_0 rfl dX1_borneFor_3 ?_
  refine zc_wi (va_runV (As := [.int (iI (k : Int)), .ref (a 6)]) (rest := []) ⟨hx, hb, hml, hown, hts⟩ (v_X1_of_6 l G x a _ B σ t k hI (by omega)) (cwV 2 hts gX1_borneFor_X1_of rfl rfl rfl (by decide +kernel) ⟨Nat.le_of_ble_eq_true rfl, Nat.le_of_ble_eq_true rfl⟩) (preWM hK hP hD) rfl rfl hl.1 rfl (lv_room (Nat.le_of_ble_eq_true rfl)) dX1_borneFor_6 ⟨Nat.le_of_ble_eq_true rfl, Nat.le_of_ble_eq_true rfl⟩) hS (fun q h => zA_mono hS.1 h) (fun H locs hP hS _ _ => ?_)
  have hD := mW_D (t' := 0) (σ' := σ) hD
  have hfin : σ = σ := by rfl
  rw [hfin] at hP
  have hfit : 0 = 0 := by rfl
  rw [hfit] at hP
  refine z_re (v' := iI (σ.2 6 k)) (congrArg iI (by first | rfl | omega)) ?_
  exact W.iret hx hb hr (fun t ht hW => ⟨⟨_, (), rfl, rfl, (by show va_P _ _ _ t.heap; rw [ht]; exact hP)⟩, hS.F ht⟩) hS.2.2 dX1_borneFor_9
set_option maxHeartbeats 4000000 in
set_option maxRecDepth 100000 in
theorem e1_X1_borneFor (l : Launch) (G : zG) (x : Nat) (a : Nat → Nat) (sz : Nat) (B : Nat) (σ : zS) (t : Nat) (z : Int) (hI : zI B σ) (hzb : -2147483648 ≤ z ∧ z < 2147483648) (hbad : z < 0 ∨ (σ.1 1 : Int) ≤ z) : Met l yX1_borneFor wsX1_borneFor ({ frames := 3, cells := 0, slots := 0, locals := 65 } : Room) (va_Pc [.ref x, .int (iI z)] (wM G x a t σ sz)) (va_Qi (fun r (_ : Unit) => r = iI 0) (fun _ t9 => va_P G.1 vwCl (mW G x a 1 σ) t9.heap) (zA x a sz)) 0 0 (zA x a sz) := by
  refine Met.ofW (cc := cX1_borneFor) (maxL := 2) (ret := (some .int)) (by decide) rfl ?_
  intro pp ee s m args below meth c s₁ B9 hml hv
  obtain ⟨rfl, hsz, hP, hK, hD0⟩ := hv
  subst hsz
  have hD := mW_zA (sz := s.heap.size) hD0
  have hS : va_S (zA x a s.heap.size) s.heap s.heap [] := va_S.rf
  have hx := B9.exec
  have hb := B9.bytes
  have hr := B9.returns
  have hts := atoms_spec (ws := wsX1_borneFor) B9.pre
  have hown : s.vm.findClass RX1 = some m.cls := findClass_of_methodNamed B9.named
  have hlocks := B9.notSynchronized
  have hin0 : ∀ w ∈ wsX10, w ∈ wsX1_borneFor := by decide +kernel
  have w_0 := hts (.fieldLink RX1 29 "ApologyLedgerModel" "borne" "[I") (by decide +kernel)
  have hl := lv_entry ([.ref x, .int (iI z)]) (n := 2) (Nat.le_of_ble_eq_true rfl)
  rw [lg_entry_eq]
  generalize (lg_sl ([.ref x, .int (iI z)]) ++ List.replicate (2 - (lg_sl ([.ref x, .int (iI z)])).length) Slot.unset).toArray = ls at hl ⊢
  have hl : lv_has ls 2 [(0, .ref x), (1, .int (iI z))] := hl
  have hIn := hI.n
  have hIb := hI.b
  refine lv_aload_n hx hb dX1_borneFor_0 rfl (lv_at hl 0 rfl) ?_
  refine lv_iload_n hx hb dX1_borneFor_1 rfl (lv_at hl 1 rfl) ?_
  refine lv_aload_n hx hb dX1_borneFor_2 rfl (lv_at hl 0 rfl) ?_
  refine m_get (v := .ref (a 6)) hx hb hts hin0 hown hK hP 0 rfl 11 (by decide) w_0 rfl dX1_borneFor_3 ?_
  refine zc_wi (va_runV (As := [.int (iI z), .ref (a 6)]) (rest := []) ⟨hx, hb, hml, hown, hts⟩ (e1_X1_of l G x a _ B σ t z (a 6) hI (by omega) (by omega)) (cwV 2 hts gX1_borneFor_X1_of rfl rfl rfl (by decide +kernel) ⟨Nat.le_of_ble_eq_true rfl, Nat.le_of_ble_eq_true rfl⟩) (preWM hK hP hD) rfl rfl hl.1 rfl (lv_room (Nat.le_of_ble_eq_true rfl)) dX1_borneFor_6 ⟨Nat.le_of_ble_eq_true rfl, Nat.le_of_ble_eq_true rfl⟩) hS (fun q h => zA_mono hS.1 h) (fun H locs hP hS _ _ => ?_)
  have hD := mW_D (t' := 1) (σ' := σ) hD
  have hfin : σ = σ := by rfl
  rw [hfin] at hP
  have hfit : 1 = 1 := by rfl
  rw [hfit] at hP
  refine z_re (v' := iI 0) (congrArg iI (by first | rfl | omega)) ?_
  exact W.iret hx hb hr (fun t ht hW => ⟨⟨_, (), rfl, rfl, (by show va_P _ _ _ t.heap; rw [ht]; exact hP)⟩, hS.F ht⟩) hS.2.2 dX1_borneFor_9
set_option maxHeartbeats 4000000 in
set_option maxRecDepth 100000 in
theorem v_X1_quietFor (l : Launch) (G : zG) (x : Nat) (a : Nat → Nat) (sz : Nat) (B : Nat) (σ : zS) (t : Nat) (k : Nat) (hI : zI B σ) (hk : k < σ.1 1) : Met l yX1_quietFor wsX1_quietFor ({ frames := 3, cells := 0, slots := 0, locals := 65 } : Room) (va_Pc [.ref x, .int (iI (k : Int))] (wM G x a t σ sz)) (va_Qi (fun r (_ : Unit) => r = iI (σ.2 7 k)) (fun _ t9 => va_P G.1 vwCl (mW G x a 0 σ) t9.heap) (zA x a sz)) 0 0 (zA x a sz) := by
  refine Met.ofW (cc := cX1_quietFor) (maxL := 2) (ret := (some .int)) (by decide) rfl ?_
  intro pp ee s m args below meth c s₁ B9 hml hv
  obtain ⟨rfl, hsz, hP, hK, hD0⟩ := hv
  subst hsz
  have hD := mW_zA (sz := s.heap.size) hD0
  have hS : va_S (zA x a s.heap.size) s.heap s.heap [] := va_S.rf
  have hx := B9.exec
  have hb := B9.bytes
  have hr := B9.returns
  have hts := atoms_spec (ws := wsX1_quietFor) B9.pre
  have hown : s.vm.findClass RX1 = some m.cls := findClass_of_methodNamed B9.named
  have hlocks := B9.notSynchronized
  have hin0 : ∀ w ∈ wsX10, w ∈ wsX1_quietFor := by decide +kernel
  have w_0 := hts (.fieldLink RX1 32 "ApologyLedgerModel" "quiet" "[I") (by decide +kernel)
  have hl := lv_entry ([.ref x, .int (iI (k : Int))]) (n := 2) (Nat.le_of_ble_eq_true rfl)
  rw [lg_entry_eq]
  generalize (lg_sl ([.ref x, .int (iI (k : Int))]) ++ List.replicate (2 - (lg_sl ([.ref x, .int (iI (k : Int))])).length) Slot.unset).toArray = ls at hl ⊢
  have hl : lv_has ls 2 [(0, .ref x), (1, .int (iI (k : Int)))] := hl
  have hIn := hI.n
  have hIb := hI.b
  refine lv_aload_n hx hb dX1_quietFor_0 rfl (lv_at hl 0 rfl) ?_
  refine lv_iload_n hx hb dX1_quietFor_1 rfl (lv_at hl 1 rfl) ?_
  refine lv_aload_n hx hb dX1_quietFor_2 rfl (lv_at hl 0 rfl) ?_
  refine m_get (v := .ref (a 7)) hx hb hts hin0 hown hK hP 0 rfl 12 (by decide) w_0 rfl dX1_quietFor_3 ?_
  refine zc_wi (va_runV (As := [.int (iI (k : Int)), .ref (a 7)]) (rest := []) ⟨hx, hb, hml, hown, hts⟩ (v_X1_of_7 l G x a _ B σ t k hI (by omega)) (cwV 2 hts gX1_quietFor_X1_of rfl rfl rfl (by decide +kernel) ⟨Nat.le_of_ble_eq_true rfl, Nat.le_of_ble_eq_true rfl⟩) (preWM hK hP hD) rfl rfl hl.1 rfl (lv_room (Nat.le_of_ble_eq_true rfl)) dX1_quietFor_6 ⟨Nat.le_of_ble_eq_true rfl, Nat.le_of_ble_eq_true rfl⟩) hS (fun q h => zA_mono hS.1 h) (fun H locs hP hS _ _ => ?_)
  have hD := mW_D (t' := 0) (σ' := σ) hD
  have hfin : σ = σ := by rfl
  rw [hfin] at hP
  have hfit : 0 = 0 := by rfl
  rw [hfit] at hP
  refine z_re (v' := iI (σ.2 7 k)) (congrArg iI (by first | rfl | omega)) ?_
  exact W.iret hx hb hr (fun t ht hW => ⟨⟨_, (), rfl, rfl, (by show va_P _ _ _ t.heap; rw [ht]; exact hP)⟩, hS.F ht⟩) hS.2.2 dX1_quietFor_9
set_option maxHeartbeats 4000000 in
set_option maxRecDepth 100000 in
theorem e1_X1_quietFor (l : Launch) (G : zG) (x : Nat) (a : Nat → Nat) (sz : Nat) (B : Nat) (σ : zS) (t : Nat) (z : Int) (hI : zI B σ) (hzb : -2147483648 ≤ z ∧ z < 2147483648) (hbad : z < 0 ∨ (σ.1 1 : Int) ≤ z) : Met l yX1_quietFor wsX1_quietFor ({ frames := 3, cells := 0, slots := 0, locals := 65 } : Room) (va_Pc [.ref x, .int (iI z)] (wM G x a t σ sz)) (va_Qi (fun r (_ : Unit) => r = iI 0) (fun _ t9 => va_P G.1 vwCl (mW G x a 1 σ) t9.heap) (zA x a sz)) 0 0 (zA x a sz) := by
  refine Met.ofW (cc := cX1_quietFor) (maxL := 2) (ret := (some .int)) (by decide) rfl ?_
  intro pp ee s m args below meth c s₁ B9 hml hv
  obtain ⟨rfl, hsz, hP, hK, hD0⟩ := hv
  subst hsz
  have hD := mW_zA (sz := s.heap.size) hD0
  have hS : va_S (zA x a s.heap.size) s.heap s.heap [] := va_S.rf
  have hx := B9.exec
  have hb := B9.bytes
  have hr := B9.returns
  have hts := atoms_spec (ws := wsX1_quietFor) B9.pre
  have hown : s.vm.findClass RX1 = some m.cls := findClass_of_methodNamed B9.named
  have hlocks := B9.notSynchronized
  have hin0 : ∀ w ∈ wsX10, w ∈ wsX1_quietFor := by decide +kernel
  have w_0 := hts (.fieldLink RX1 32 "ApologyLedgerModel" "quiet" "[I") (by decide +kernel)
  have hl := lv_entry ([.ref x, .int (iI z)]) (n := 2) (Nat.le_of_ble_eq_true rfl)
  rw [lg_entry_eq]
  generalize (lg_sl ([.ref x, .int (iI z)]) ++ List.replicate (2 - (lg_sl ([.ref x, .int (iI z)])).length) Slot.unset).toArray = ls at hl ⊢
  have hl : lv_has ls 2 [(0, .ref x), (1, .int (iI z))] := hl
  have hIn := hI.n
  have hIb := hI.b
  refine lv_aload_n hx hb dX1_quietFor_0 rfl (lv_at hl 0 rfl) ?_
  refine lv_iload_n hx hb dX1_quietFor_1 rfl (lv_at hl 1 rfl) ?_
  refine lv_aload_n hx hb dX1_quietFor_2 rfl (lv_at hl 0 rfl) ?_
  refine m_get (v := .ref (a 7)) hx hb hts hin0 hown hK hP 0 rfl 12 (by decide) w_0 rfl dX1_quietFor_3 ?_
  refine zc_wi (va_runV (As := [.int (iI z), .ref (a 7)]) (rest := []) ⟨hx, hb, hml, hown, hts⟩ (e1_X1_of l G x a _ B σ t z (a 7) hI (by omega) (by omega)) (cwV 2 hts gX1_quietFor_X1_of rfl rfl rfl (by decide +kernel) ⟨Nat.le_of_ble_eq_true rfl, Nat.le_of_ble_eq_true rfl⟩) (preWM hK hP hD) rfl rfl hl.1 rfl (lv_room (Nat.le_of_ble_eq_true rfl)) dX1_quietFor_6 ⟨Nat.le_of_ble_eq_true rfl, Nat.le_of_ble_eq_true rfl⟩) hS (fun q h => zA_mono hS.1 h) (fun H locs hP hS _ _ => ?_)
  have hD := mW_D (t' := 1) (σ' := σ) hD
  have hfin : σ = σ := by rfl
  rw [hfin] at hP
  have hfit : 1 = 1 := by rfl
  rw [hfit] at hP
  refine z_re (v' := iI 0) (congrArg iI (by first | rfl | omega)) ?_
  exact W.iret hx hb hr (fun t ht hW => ⟨⟨_, (), rfl, rfl, (by show va_P _ _ _ t.heap; rw [ht]; exact hP)⟩, hS.F ht⟩) hS.2.2 dX1_quietFor_9
set_option maxHeartbeats 4000000 in
set_option maxRecDepth 100000 in
theorem v_X1_day (l : Launch) (G : zG) (x : Nat) (a : Nat → Nat) (sz : Nat) (B : Nat) (σ : zS) (t : Nat) (hI : zI B σ) : Met l yX1_day wsX1_day ({ frames := 1, cells := 0, slots := 0, locals := 21 } : Room) (va_Pc [.ref x] (wM G x a t σ sz)) (va_Qi (fun r (_ : Unit) => r = iI ((σ.1 2 : Nat) : Int)) (fun _ t9 => va_P G.1 vwCl (mW G x a 0 σ) t9.heap) (zA x a sz)) 0 0 (zA x a sz) := by
  refine Met.ofW (cc := cX1_day) (maxL := 1) (ret := (some .int)) (by decide) rfl ?_
  intro pp ee s m args below meth c s₁ B9 hml hv
  obtain ⟨rfl, hsz, hP, hK, hD0⟩ := hv
  subst hsz
  have hD := mW_zA (sz := s.heap.size) hD0
  have hS : va_S (zA x a s.heap.size) s.heap s.heap [] := va_S.rf
  have hx := B9.exec
  have hb := B9.bytes
  have hr := B9.returns
  have hts := atoms_spec (ws := wsX1_day) B9.pre
  have hown : s.vm.findClass RX1 = some m.cls := findClass_of_methodNamed B9.named
  have hlocks := B9.notSynchronized
  have hin0 : ∀ w ∈ wsX10, w ∈ wsX1_day := by decide +kernel
  have w_0 := hts (.fieldLink RX1 102 "ApologyLedgerModel" "day" "I") (by decide +kernel)
  have hl := lv_entry ([.ref x]) (n := 1) (Nat.le_of_ble_eq_true rfl)
  rw [lg_entry_eq]
  generalize (lg_sl ([.ref x]) ++ List.replicate (1 - (lg_sl ([.ref x])).length) Slot.unset).toArray = ls at hl ⊢
  have hl : lv_has ls 1 [(0, .ref x)] := hl
  have hIn := hI.n
  have hIb := hI.b
  refine lv_aload_n hx hb dX1_day_0 rfl (lv_at hl 0 rfl) ?_
  refine lv_aload_n hx hb dX1_day_1 rfl (lv_at hl 0 rfl) ?_
  refine m_get (v := .int (iI (σ.1 2 : Nat))) hx hb hts hin0 hown hK hP 0 rfl 1 (by decide) w_0 rfl dX1_day_2 ?_
  refine zc_wi (va_runV (As := [.int (iI (σ.1 2 : Nat))]) (rest := []) ⟨hx, hb, hml, hown, hts⟩ (c_X1_ok l G x a _ σ t (σ.1 2 : Nat)) (cwV 1 hts gX1_day_X1_ok rfl rfl rfl (by decide +kernel) ⟨Nat.le_of_ble_eq_true rfl, Nat.le_of_ble_eq_true rfl⟩) (preWM hK hP hD) rfl rfl hl.1 rfl (lv_room (Nat.le_of_ble_eq_true rfl)) dX1_day_5 ⟨Nat.le_of_ble_eq_true rfl, Nat.le_of_ble_eq_true rfl⟩) hS (fun q h => zA_mono hS.1 h) (fun H locs hP hS _ _ => ?_)
  have hD := mW_D (t' := 0) (σ' := σ) hD
  have hfin : σ = σ := by rfl
  rw [hfin] at hP
  have hfit : 0 = 0 := by rfl
  rw [hfit] at hP
  refine z_re (v' := iI ((σ.1 2 : Nat) : Int)) (congrArg iI (by first | rfl | omega)) ?_
  exact W.iret hx hb hr (fun t ht hW => ⟨⟨_, (), rfl, rfl, (by show va_P _ _ _ t.heap; rw [ht]; exact hP)⟩, hS.F ht⟩) hS.2.2 dX1_day_8
set_option maxHeartbeats 4000000 in
set_option maxRecDepth 100000 in
theorem v_X1_persons (l : Launch) (G : zG) (x : Nat) (a : Nat → Nat) (sz : Nat) (B : Nat) (σ : zS) (t : Nat) (hI : zI B σ) : Met l yX1_persons wsX1_persons ({ frames := 1, cells := 0, slots := 0, locals := 21 } : Room) (va_Pc [.ref x] (wM G x a t σ sz)) (va_Qi (fun r (_ : Unit) => r = iI ((σ.1 0 : Nat) : Int)) (fun _ t9 => va_P G.1 vwCl (mW G x a 0 σ) t9.heap) (zA x a sz)) 0 0 (zA x a sz) := by
  refine Met.ofW (cc := cX1_persons) (maxL := 1) (ret := (some .int)) (by decide) rfl ?_
  intro pp ee s m args below meth c s₁ B9 hml hv
  obtain ⟨rfl, hsz, hP, hK, hD0⟩ := hv
  subst hsz
  have hD := mW_zA (sz := s.heap.size) hD0
  have hS : va_S (zA x a s.heap.size) s.heap s.heap [] := va_S.rf
  have hx := B9.exec
  have hb := B9.bytes
  have hr := B9.returns
  have hts := atoms_spec (ws := wsX1_persons) B9.pre
  have hown : s.vm.findClass RX1 = some m.cls := findClass_of_methodNamed B9.named
  have hlocks := B9.notSynchronized
  have hin0 : ∀ w ∈ wsX10, w ∈ wsX1_persons := by decide +kernel
  have w_0 := hts (.fieldLink RX1 39 "ApologyLedgerModel" "persons" "I") (by decide +kernel)
  have hl := lv_entry ([.ref x]) (n := 1) (Nat.le_of_ble_eq_true rfl)
  rw [lg_entry_eq]
  generalize (lg_sl ([.ref x]) ++ List.replicate (1 - (lg_sl ([.ref x])).length) Slot.unset).toArray = ls at hl ⊢
  have hl : lv_has ls 1 [(0, .ref x)] := hl
  have hIn := hI.n
  have hIb := hI.b
  refine lv_aload_n hx hb dX1_persons_0 rfl (lv_at hl 0 rfl) ?_
  refine lv_aload_n hx hb dX1_persons_1 rfl (lv_at hl 0 rfl) ?_
  refine m_get (v := .int (iI (σ.1 0 : Nat))) hx hb hts hin0 hown hK hP 0 rfl 3 (by decide) w_0 rfl dX1_persons_2 ?_
  refine zc_wi (va_runV (As := [.int (iI (σ.1 0 : Nat))]) (rest := []) ⟨hx, hb, hml, hown, hts⟩ (c_X1_ok l G x a _ σ t (σ.1 0 : Nat)) (cwV 1 hts gX1_persons_X1_ok rfl rfl rfl (by decide +kernel) ⟨Nat.le_of_ble_eq_true rfl, Nat.le_of_ble_eq_true rfl⟩) (preWM hK hP hD) rfl rfl hl.1 rfl (lv_room (Nat.le_of_ble_eq_true rfl)) dX1_persons_5 ⟨Nat.le_of_ble_eq_true rfl, Nat.le_of_ble_eq_true rfl⟩) hS (fun q h => zA_mono hS.1 h) (fun H locs hP hS _ _ => ?_)
  have hD := mW_D (t' := 0) (σ' := σ) hD
  have hfin : σ = σ := by rfl
  rw [hfin] at hP
  have hfit : 0 = 0 := by rfl
  rw [hfit] at hP
  refine z_re (v' := iI ((σ.1 0 : Nat) : Int)) (congrArg iI (by first | rfl | omega)) ?_
  exact W.iret hx hb hr (fun t ht hW => ⟨⟨_, (), rfl, rfl, (by show va_P _ _ _ t.heap; rw [ht]; exact hP)⟩, hS.F ht⟩) hS.2.2 dX1_persons_8
set_option maxHeartbeats 4000000 in
set_option maxRecDepth 100000 in
theorem v_X1_slights (l : Launch) (G : zG) (x : Nat) (a : Nat → Nat) (sz : Nat) (B : Nat) (σ : zS) (t : Nat) (hI : zI B σ) : Met l yX1_slights wsX1_slights ({ frames := 1, cells := 0, slots := 0, locals := 21 } : Room) (va_Pc [.ref x] (wM G x a t σ sz)) (va_Qi (fun r (_ : Unit) => r = iI ((σ.1 1 : Nat) : Int)) (fun _ t9 => va_P G.1 vwCl (mW G x a 0 σ) t9.heap) (zA x a sz)) 0 0 (zA x a sz) := by
  refine Met.ofW (cc := cX1_slights) (maxL := 1) (ret := (some .int)) (by decide) rfl ?_
  intro pp ee s m args below meth c s₁ B9 hml hv
  obtain ⟨rfl, hsz, hP, hK, hD0⟩ := hv
  subst hsz
  have hD := mW_zA (sz := s.heap.size) hD0
  have hS : va_S (zA x a s.heap.size) s.heap s.heap [] := va_S.rf
  have hx := B9.exec
  have hb := B9.bytes
  have hr := B9.returns
  have hts := atoms_spec (ws := wsX1_slights) B9.pre
  have hown : s.vm.findClass RX1 = some m.cls := findClass_of_methodNamed B9.named
  have hlocks := B9.notSynchronized
  have hin0 : ∀ w ∈ wsX10, w ∈ wsX1_slights := by decide +kernel
  have w_0 := hts (.fieldLink RX1 46 "ApologyLedgerModel" "slights" "I") (by decide +kernel)
  have hl := lv_entry ([.ref x]) (n := 1) (Nat.le_of_ble_eq_true rfl)
  rw [lg_entry_eq]
  generalize (lg_sl ([.ref x]) ++ List.replicate (1 - (lg_sl ([.ref x])).length) Slot.unset).toArray = ls at hl ⊢
  have hl : lv_has ls 1 [(0, .ref x)] := hl
  have hIn := hI.n
  have hIb := hI.b
  refine lv_aload_n hx hb dX1_slights_0 rfl (lv_at hl 0 rfl) ?_
  refine lv_aload_n hx hb dX1_slights_1 rfl (lv_at hl 0 rfl) ?_
  refine m_get (v := .int (iI (σ.1 1 : Nat))) hx hb hts hin0 hown hK hP 0 rfl 6 (by decide) w_0 rfl dX1_slights_2 ?_
  refine zc_wi (va_runV (As := [.int (iI (σ.1 1 : Nat))]) (rest := []) ⟨hx, hb, hml, hown, hts⟩ (c_X1_ok l G x a _ σ t (σ.1 1 : Nat)) (cwV 1 hts gX1_slights_X1_ok rfl rfl rfl (by decide +kernel) ⟨Nat.le_of_ble_eq_true rfl, Nat.le_of_ble_eq_true rfl⟩) (preWM hK hP hD) rfl rfl hl.1 rfl (lv_room (Nat.le_of_ble_eq_true rfl)) dX1_slights_5 ⟨Nat.le_of_ble_eq_true rfl, Nat.le_of_ble_eq_true rfl⟩) hS (fun q h => zA_mono hS.1 h) (fun H locs hP hS _ _ => ?_)
  have hD := mW_D (t' := 0) (σ' := σ) hD
  have hfin : σ = σ := by rfl
  rw [hfin] at hP
  have hfit : 0 = 0 := by rfl
  rw [hfit] at hP
  refine z_re (v' := iI ((σ.1 1 : Nat) : Int)) (congrArg iI (by first | rfl | omega)) ?_
  exact W.iret hx hb hr (fun t ht hW => ⟨⟨_, (), rfl, rfl, (by show va_P _ _ _ t.heap; rw [ht]; exact hP)⟩, hS.F ht⟩) hS.2.2 dX1_slights_8
set_option maxHeartbeats 4000000 in
set_option maxRecDepth 100000 in
theorem v_X1_scorned (l : Launch) (G : zG) (x : Nat) (a : Nat → Nat) (sz : Nat) (B : Nat) (σ : zS) (t : Nat) (hI : zI B σ) : Met l yX1_scorned wsX1_scorned ({ frames := 1, cells := 0, slots := 0, locals := 21 } : Room) (va_Pc [.ref x] (wM G x a t σ sz)) (va_Qi (fun r (_ : Unit) => r = iI ((σ.1 3 : Nat) : Int)) (fun _ t9 => va_P G.1 vwCl (mW G x a 0 σ) t9.heap) (zA x a sz)) 0 0 (zA x a sz) := by
  refine Met.ofW (cc := cX1_scorned) (maxL := 1) (ret := (some .int)) (by decide) rfl ?_
  intro pp ee s m args below meth c s₁ B9 hml hv
  obtain ⟨rfl, hsz, hP, hK, hD0⟩ := hv
  subst hsz
  have hD := mW_zA (sz := s.heap.size) hD0
  have hS : va_S (zA x a s.heap.size) s.heap s.heap [] := va_S.rf
  have hx := B9.exec
  have hb := B9.bytes
  have hr := B9.returns
  have hts := atoms_spec (ws := wsX1_scorned) B9.pre
  have hown : s.vm.findClass RX1 = some m.cls := findClass_of_methodNamed B9.named
  have hlocks := B9.notSynchronized
  have hin0 : ∀ w ∈ wsX10, w ∈ wsX1_scorned := by decide +kernel
  have w_0 := hts (.fieldLink RX1 89 "ApologyLedgerModel" "scorned" "I") (by decide +kernel)
  have hl := lv_entry ([.ref x]) (n := 1) (Nat.le_of_ble_eq_true rfl)
  rw [lg_entry_eq]
  generalize (lg_sl ([.ref x]) ++ List.replicate (1 - (lg_sl ([.ref x])).length) Slot.unset).toArray = ls at hl ⊢
  have hl : lv_has ls 1 [(0, .ref x)] := hl
  have hIn := hI.n
  have hIb := hI.b
  refine lv_aload_n hx hb dX1_scorned_0 rfl (lv_at hl 0 rfl) ?_
  refine lv_aload_n hx hb dX1_scorned_1 rfl (lv_at hl 0 rfl) ?_
  refine m_get (v := .int (iI (σ.1 3 : Nat))) hx hb hts hin0 hown hK hP 0 rfl 2 (by decide) w_0 rfl dX1_scorned_2 ?_
  refine zc_wi (va_runV (As := [.int (iI (σ.1 3 : Nat))]) (rest := []) ⟨hx, hb, hml, hown, hts⟩ (c_X1_ok l G x a _ σ t (σ.1 3 : Nat)) (cwV 1 hts gX1_scorned_X1_ok rfl rfl rfl (by decide +kernel) ⟨Nat.le_of_ble_eq_true rfl, Nat.le_of_ble_eq_true rfl⟩) (preWM hK hP hD) rfl rfl hl.1 rfl (lv_room (Nat.le_of_ble_eq_true rfl)) dX1_scorned_5 ⟨Nat.le_of_ble_eq_true rfl, Nat.le_of_ble_eq_true rfl⟩) hS (fun q h => zA_mono hS.1 h) (fun H locs hP hS _ _ => ?_)
  have hD := mW_D (t' := 0) (σ' := σ) hD
  have hfin : σ = σ := by rfl
  rw [hfin] at hP
  have hfit : 0 = 0 := by rfl
  rw [hfit] at hP
  refine z_re (v' := iI ((σ.1 3 : Nat) : Int)) (congrArg iI (by first | rfl | omega)) ?_
  exact W.iret hx hb hr (fun t ht hW => ⟨⟨_, (), rfl, rfl, (by show va_P _ _ _ t.heap; rw [ht]; exact hP)⟩, hS.F ht⟩) hS.2.2 dX1_scorned_8
set_option maxHeartbeats 4000000 in
set_option maxRecDepth 100000 in
theorem v_X1_inHall (l : Launch) (G : zG) (x : Nat) (a : Nat → Nat) (sz : Nat) (B : Nat) (σ : zS) (t : Nat) (hI : zI B σ) : Met l yX1_inHall wsX1_inHall ({ frames := 1, cells := 0, slots := 0, locals := 22 } : Room) (va_Pc [.ref x] (wM G x a t σ sz)) (va_Qi (fun r (_ : Unit) => r = iI (inh σ)) (fun _ t9 => va_P G.1 vwCl (mW G x a 0 σ) t9.heap) (zA x a sz)) 0 0 (zA x a sz) := by
  refine Met.ofW (cc := cX1_inHall) (maxL := 1) (ret := (some .int)) (by decide) rfl ?_
  intro pp ee s m args below meth c s₁ B9 hml hv
  obtain ⟨rfl, hsz, hP, hK, hD0⟩ := hv
  subst hsz
  have hD := mW_zA (sz := s.heap.size) hD0
  have hS : va_S (zA x a s.heap.size) s.heap s.heap [] := va_S.rf
  have hx := B9.exec
  have hb := B9.bytes
  have hr := B9.returns
  have hts := atoms_spec (ws := wsX1_inHall) B9.pre
  have hown : s.vm.findClass RX1 = some m.cls := findClass_of_methodNamed B9.named
  have hlocks := B9.notSynchronized
  have hin0 : ∀ w ∈ wsX10, w ∈ wsX1_inHall := by decide +kernel
  have hl := lv_entry ([.ref x]) (n := 1) (Nat.le_of_ble_eq_true rfl)
  rw [lg_entry_eq]
  generalize (lg_sl ([.ref x]) ++ List.replicate (1 - (lg_sl ([.ref x])).length) Slot.unset).toArray = ls at hl ⊢
  have hl : lv_has ls 1 [(0, .ref x)] := hl
  have hIn := hI.n
  have hIb := hI.b
  refine lv_aload_n hx hb dX1_inHall_0 rfl (lv_at hl 0 rfl) ?_
  refine lv_aload_n hx hb dX1_inHall_1 rfl (lv_at hl 0 rfl) ?_
  refine zc_i (va_runV (As := []) (rest := [.ref x]) ⟨hx, hb, hml, hown, hts⟩ (c_X1_here l G x a B σ t hI) (cwV 0 hts gX1_inHall_X1_here rfl rfl rfl (by decide +kernel) ⟨Nat.le_of_ble_eq_true rfl, Nat.le_of_ble_eq_true rfl⟩) (preVM hK hP) rfl rfl hl.1 rfl (lv_room (Nat.le_of_ble_eq_true rfl)) dX1_inHall_2 ⟨Nat.le_of_ble_eq_true rfl, Nat.le_of_ble_eq_true rfl⟩) ?_
  have f_1 := inh_bd hI
  refine zc_wi (va_runV (As := [.int (iI (inh σ))]) (rest := []) ⟨hx, hb, hml, hown, hts⟩ (c_X1_ok l G x a _ σ t (inh σ)) (cwV 1 hts gX1_inHall_X1_ok rfl rfl rfl (by decide +kernel) ⟨Nat.le_of_ble_eq_true rfl, Nat.le_of_ble_eq_true rfl⟩) (preWM hK hP hD) rfl rfl hl.1 rfl (lv_room (Nat.le_of_ble_eq_true rfl)) dX1_inHall_5 ⟨Nat.le_of_ble_eq_true rfl, Nat.le_of_ble_eq_true rfl⟩) hS (fun q h => zA_mono hS.1 h) (fun H locs hP hS _ _ => ?_)
  have hD := mW_D (t' := 0) (σ' := σ) hD
  have hfin : σ = σ := by rfl
  rw [hfin] at hP
  have hfit : 0 = 0 := by rfl
  rw [hfit] at hP
  refine z_re (v' := iI (inh σ)) (congrArg iI (by first | rfl | omega)) ?_
  exact W.iret hx hb hr (fun t ht hW => ⟨⟨_, (), rfl, rfl, (by show va_P _ _ _ t.heap; rw [ht]; exact hP)⟩, hS.F ht⟩) hS.2.2 dX1_inHall_8
