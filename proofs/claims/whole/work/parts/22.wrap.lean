/-! THE LAW'S HELPERS: a call that is answered; a call that is refused. -/
set_option maxHeartbeats 4000000 in
set_option maxRecDepth 100000 in
theorem w_L_addPerson (l : Launch) (G : zG) (x : Nat) (a : Nat → Nat) (ob : Nat) (sz : Nat) (v : Int64) (B : Nat) (σ : zS) (z : Int) (hI : zI B σ) (hz : 0 ≤ z ∧ z ≤ 9) (hfree : σ.1 0 < 6) : Met l yL_addPerson wsL_addPerson ({ frames := 2, cells := 0, slots := 0, locals := 42 } : Room) (va_Pc [.ref x, .int (iI z), .ref ob] (wL G x a ob σ v sz)) (va_Qi (fun r (_ : Unit) => r = iI 0) (fun _ t9 => va_P G.1 vwCl (xW G x a (adp σ z) ++ [oW G ob (iI ((σ.1 0 : Nat) : Int)).toInt64]) t9.heap) (lA x a ob sz)) 0 0 (lA x a ob sz) := by
  refine va_MetW (cc := cL_addPerson) (maxL := 4) (ret := (some .int)) (hh := [(0, 9, 12, 13), (0, 9, 15, 15)]) (by decide) rfl ?_
  intro pp ee s m args below meth c s₁ B9 hml hv
  obtain ⟨rfl, hsz, hP, hK, hD0⟩ := hv
  subst hsz
  have hD := xo_lA (sz := s.heap.size) hD0
  have hS : va_S (lA x a ob s.heap.size) s.heap s.heap [] := va_S.rf
  have hx := B9.exec
  have hb := B9.bytes
  have hr := B9.returns
  have hts := atoms_spec (ws := wsL_addPerson) B9.pre
  have hown : s.vm.findClass RL = some m.cls := findClass_of_methodNamed B9.named
  have hlocks := B9.notSynchronized
  have hl := lv_entry ([.ref x, .int (iI z), .ref ob]) (n := 4) (Nat.le_of_ble_eq_true rfl)
  rw [lg_entry_eq]
  generalize (lg_sl ([.ref x, .int (iI z), .ref ob]) ++ List.replicate (4 - (lg_sl ([.ref x, .int (iI z), .ref ob])).length) Slot.unset).toArray = ls at hl ⊢
  have hl : lv_has ls 4 [(0, .ref x), (1, .int (iI z)), (2, .ref ob)] := hl
  have hIn := hI.n
  refine lv_aload_n hx hb dL_addPerson_0 rfl (lv_at hl 2 rfl) ?_
  refine lv_iconst (v := iI 0) hx hb dL_addPerson_1 rfl ?_
  refine lv_aload_n hx hb dL_addPerson_2 rfl (lv_at hl 0 rfl) ?_
  refine lv_iload_n hx hb dL_addPerson_3 rfl (lv_at hl 1 rfl) ?_
  refine zc_wi (va_runV (As := [.int (iI z)]) (rest := [.int (iI 0), .ref ob]) ⟨hx, hb, hml, hown, hts⟩ (c_X0_addPerson l G x a _ B σ z hI hz hfree) (cwV 1 hts gL_addPerson_X0_addPerson rfl rfl rfl (by decide +kernel) ⟨Nat.le_of_ble_eq_true rfl, Nat.le_of_ble_eq_true rfl⟩) (preWX hK (va_Pl hP) (va_Dl hD)) rfl rfl hl.1 rfl (lv_room (Nat.le_of_ble_eq_true rfl)) dL_addPerson_4 ⟨Nat.le_of_ble_eq_true rfl, Nat.le_of_ble_eq_true rfl⟩) hS (fun q h => Or.inr (zA_mono hS.1 h)) (fun H locs hP1 hS _ hk => ?_)
  have hP := x_keep hP hD hP1 hk
  have hD := x_D (σ' := (adp σ z)) (w2 := [oW G ob v]) (w2' := [oW G ob v]) rfl hD
  refine lv_i2l (v := (iI ((σ.1 0 : Nat) : Int)).toInt64) hx hb dL_addPerson_7 rfl ?_
  refine z_last (v' := (iI ((σ.1 0 : Nat) : Int)).toInt64) hx hb hK hP hD hS dL_addPerson_8 (fun H locs hP hD hS => ?_)
  refine lv_goto (tgt := 18) hx hb dL_addPerson_9 (by decide) ?_
  refine lv_iconst (v := iI 0) hx hb dL_addPerson_18 rfl ?_
  exact W.iret hx hb hr (fun t ht hW => ⟨⟨_, (), rfl, rfl, by show va_P _ _ _ t.heap; rw [ht]; exact hP⟩, hS.F ht⟩) hS.2.2 dL_addPerson_19
set_option maxHeartbeats 4000000 in
set_option maxRecDepth 100000 in
theorem w_L_enter (l : Launch) (G : zG) (x : Nat) (a : Nat → Nat) (ob : Nat) (sz : Nat) (v : Int64) (B : Nat) (σ : zS) (p : Nat) (hI : zI B σ) (hp : p < σ.1 0) : Met l yL_enter wsL_enter ({ frames := 2, cells := 0, slots := 0, locals := 42 } : Room) (va_Pc [.ref x, .int (iI (p : Int)), .ref ob] (wL G x a ob σ v sz)) (va_Qi (fun r (_ : Unit) => r = iI 0) (fun _ t9 => va_P G.1 vwCl (xW G x a (ent σ p) ++ [oW G ob (iI (1 - σ.2 1 p)).toInt64]) t9.heap) (lA x a ob sz)) 0 0 (lA x a ob sz) := by
  refine va_MetW (cc := cL_enter) (maxL := 4) (ret := (some .int)) (hh := [(0, 16, 19, 21)]) (by decide) rfl ?_
  intro pp ee s m args below meth c s₁ B9 hml hv
  obtain ⟨rfl, hsz, hP, hK, hD0⟩ := hv
  subst hsz
  have hD := xo_lA (sz := s.heap.size) hD0
  have hS : va_S (lA x a ob s.heap.size) s.heap s.heap [] := va_S.rf
  have hx := B9.exec
  have hb := B9.bytes
  have hr := B9.returns
  have hts := atoms_spec (ws := wsL_enter) B9.pre
  have hown : s.vm.findClass RL = some m.cls := findClass_of_methodNamed B9.named
  have hlocks := B9.notSynchronized
  have hl := lv_entry ([.ref x, .int (iI (p : Int)), .ref ob]) (n := 4) (Nat.le_of_ble_eq_true rfl)
  rw [lg_entry_eq]
  generalize (lg_sl ([.ref x, .int (iI (p : Int)), .ref ob]) ++ List.replicate (4 - (lg_sl ([.ref x, .int (iI (p : Int)), .ref ob])).length) Slot.unset).toArray = ls at hl ⊢
  have hl : lv_has ls 4 [(0, .ref x), (1, .int (iI (p : Int))), (2, .ref ob)] := hl
  have hIn := hI.n
  refine lv_aload_n hx hb dL_enter_0 rfl (lv_at hl 2 rfl) ?_
  refine lv_iconst (v := iI 0) hx hb dL_enter_1 rfl ?_
  refine lv_aload_n hx hb dL_enter_2 rfl (lv_at hl 0 rfl) ?_
  refine lv_iload_n hx hb dL_enter_3 rfl (lv_at hl 1 rfl) ?_
  refine zc_wi (va_runV (As := [.int (iI (p : Int))]) (rest := [.int (iI 0), .ref ob]) ⟨hx, hb, hml, hown, hts⟩ (c_X0_enter l G x a _ B σ p hI hp) (cwV 1 hts gL_enter_X0_enter rfl rfl rfl (by decide +kernel) ⟨Nat.le_of_ble_eq_true rfl, Nat.le_of_ble_eq_true rfl⟩) (preWX hK (va_Pl hP) (va_Dl hD)) rfl rfl hl.1 rfl (lv_room (Nat.le_of_ble_eq_true rfl)) dL_enter_4 ⟨Nat.le_of_ble_eq_true rfl, Nat.le_of_ble_eq_true rfl⟩) hS (fun q h => Or.inr (zA_mono hS.1 h)) (fun H locs hP1 hS _ hk => ?_)
  have hP := x_keep hP hD hP1 hk
  have hD := x_D (σ' := (ent σ p)) (w2 := [oW G ob v]) (w2' := [oW G ob v]) rfl hD
  have hbd : (1 - σ.2 1 p) = 0 ∨ (1 - σ.2 1 p) = 1 := by have := hI.r1 p; omega
  refine z_if_eq (tgt := 14) hx hb dL_enter_7 (by decide) (by omega) (fun c_1 => ?_) (fun c_1 => ?_)
  ·
    refine lv_lconst (v := 0) hx hb dL_enter_14 rfl ?_
    refine z_last (v' := 0) hx hb hK hP hD hS dL_enter_15 (fun H locs hP hD hS => ?_)
    refine lv_goto (tgt := 22) hx hb dL_enter_16 (by decide) ?_
    refine lv_iconst (v := iI 0) hx hb dL_enter_22 rfl ?_
    rw [show (0 : Int64) = (iI (1 - σ.2 1 p)).toInt64 from by rw [c_1]; rfl] at hP
    exact W.iret hx hb hr (fun t ht hW => ⟨⟨_, (), rfl, rfl, by show va_P _ _ _ t.heap; rw [ht]; exact hP⟩, hS.F ht⟩) hS.2.2 dL_enter_23
  ·
    refine lv_lconst (v := 1) hx hb dL_enter_10 rfl ?_
    refine lv_goto (tgt := 15) hx hb dL_enter_11 (by decide) ?_
    refine z_last (v' := 1) hx hb hK hP hD hS dL_enter_15 (fun H locs hP hD hS => ?_)
    refine lv_goto (tgt := 22) hx hb dL_enter_16 (by decide) ?_
    refine lv_iconst (v := iI 0) hx hb dL_enter_22 rfl ?_
    rw [show (1 : Int64) = (iI (1 - σ.2 1 p)).toInt64 from by rw [show (1 - σ.2 1 p) = 1 from by omega]; rfl] at hP
    exact W.iret hx hb hr (fun t ht hW => ⟨⟨_, (), rfl, rfl, by show va_P _ _ _ t.heap; rw [ht]; exact hP⟩, hS.F ht⟩) hS.2.2 dL_enter_23
set_option maxHeartbeats 4000000 in
set_option maxRecDepth 100000 in
theorem w_L_slight (l : Launch) (G : zG) (x : Nat) (a : Nat → Nat) (ob : Nat) (sz : Nat) (v : Int64) (B : Nat) (σ : zS) (i : Nat) (o : Nat) (w : Int) (hI : zI B σ) (hi : i < σ.1 0) (ho : o < σ.1 0) (hne : i ≠ o) (hw : 1 ≤ w ∧ w ≤ 20) (hfree : σ.1 1 < 20) : Met l yL_slight wsL_slight ({ frames := 2, cells := 0, slots := 0, locals := 45 } : Room) (va_Pc [.ref x, .int (iI (i : Int)), .int (iI (o : Int)), .int (iI w), .ref ob] (wL G x a ob σ v sz)) (va_Qi (fun r (_ : Unit) => r = iI 0) (fun _ t9 => va_P G.1 vwCl (xW G x a (sli σ i o w) ++ [oW G ob (iI ((σ.1 1 : Nat) : Int)).toInt64]) t9.heap) (lA x a ob sz)) 0 0 (lA x a ob sz) := by
  refine va_MetW (cc := cL_slight) (maxL := 6) (ret := (some .int)) (hh := [(0, 12, 15, 21), (0, 12, 19, 13), (0, 12, 23, 15)]) (by decide) rfl ?_
  intro pp ee s m args below meth c s₁ B9 hml hv
  obtain ⟨rfl, hsz, hP, hK, hD0⟩ := hv
  subst hsz
  have hD := xo_lA (sz := s.heap.size) hD0
  have hS : va_S (lA x a ob s.heap.size) s.heap s.heap [] := va_S.rf
  have hx := B9.exec
  have hb := B9.bytes
  have hr := B9.returns
  have hts := atoms_spec (ws := wsL_slight) B9.pre
  have hown : s.vm.findClass RL = some m.cls := findClass_of_methodNamed B9.named
  have hlocks := B9.notSynchronized
  have hl := lv_entry ([.ref x, .int (iI (i : Int)), .int (iI (o : Int)), .int (iI w), .ref ob]) (n := 6) (Nat.le_of_ble_eq_true rfl)
  rw [lg_entry_eq]
  generalize (lg_sl ([.ref x, .int (iI (i : Int)), .int (iI (o : Int)), .int (iI w), .ref ob]) ++ List.replicate (6 - (lg_sl ([.ref x, .int (iI (i : Int)), .int (iI (o : Int)), .int (iI w), .ref ob])).length) Slot.unset).toArray = ls at hl ⊢
  have hl : lv_has ls 6 [(0, .ref x), (1, .int (iI (i : Int))), (2, .int (iI (o : Int))), (3, .int (iI w)), (4, .ref ob)] := hl
  have hIn := hI.n
  refine lv_aload hx hb dL_slight_0 (lv_at hl 4 rfl) ?_
  refine lv_iconst (v := iI 0) hx hb dL_slight_2 rfl ?_
  refine lv_aload_n hx hb dL_slight_3 rfl (lv_at hl 0 rfl) ?_
  refine lv_iload_n hx hb dL_slight_4 rfl (lv_at hl 1 rfl) ?_
  refine lv_iload_n hx hb dL_slight_5 rfl (lv_at hl 2 rfl) ?_
  refine lv_iload_n hx hb dL_slight_6 rfl (lv_at hl 3 rfl) ?_
  refine zc_wi (va_runV (As := [.int (iI (i : Int)), .int (iI (o : Int)), .int (iI w)]) (rest := [.int (iI 0), .ref ob]) ⟨hx, hb, hml, hown, hts⟩ (c_X0_slight l G x a _ B σ i o w hI hi ho hne hw hfree) (cwV 3 hts gL_slight_X0_slight rfl rfl rfl (by decide +kernel) ⟨Nat.le_of_ble_eq_true rfl, Nat.le_of_ble_eq_true rfl⟩) (preWX hK (va_Pl hP) (va_Dl hD)) rfl rfl hl.1 rfl (lv_room (Nat.le_of_ble_eq_true rfl)) dL_slight_7 ⟨Nat.le_of_ble_eq_true rfl, Nat.le_of_ble_eq_true rfl⟩) hS (fun q h => Or.inr (zA_mono hS.1 h)) (fun H locs hP1 hS _ hk => ?_)
  have hP := x_keep hP hD hP1 hk
  have hD := x_D (σ' := (sli σ i o w)) (w2 := [oW G ob v]) (w2' := [oW G ob v]) rfl hD
  refine lv_i2l (v := (iI ((σ.1 1 : Nat) : Int)).toInt64) hx hb dL_slight_10 rfl ?_
  refine z_last (v' := (iI ((σ.1 1 : Nat) : Int)).toInt64) hx hb hK hP hD hS dL_slight_11 (fun H locs hP hD hS => ?_)
  refine lv_goto (tgt := 27) hx hb dL_slight_12 (by decide) ?_
  refine lv_iconst (v := iI 0) hx hb dL_slight_27 rfl ?_
  exact W.iret hx hb hr (fun t ht hW => ⟨⟨_, (), rfl, rfl, by show va_P _ _ _ t.heap; rw [ht]; exact hP⟩, hS.F ht⟩) hS.2.2 dL_slight_28
set_option maxHeartbeats 4000000 in
set_option maxRecDepth 100000 in
theorem w_L_mention (l : Launch) (G : zG) (x : Nat) (a : Nat → Nat) (ob : Nat) (sz : Nat) (v : Int64) (B : Nat) (σ : zS) (k : Nat) (hI : zI B σ) (hk : k < σ.1 1) (ho : σ.2 5 k = 0) : Met l yL_mention wsL_mention ({ frames := 4, cells := 0, slots := 0, locals := 84 } : Room) (va_Pc [.ref x, .int (iI (k : Int)), .ref ob] (wL G x a ob σ v sz)) (va_Qi (fun r (_ : Unit) => r = iI 0) (fun _ t9 => va_P G.1 vwCl (xW G x a (spk σ k) ++ [oW G ob (iI (min (σ.2 4 k + 1) 99)).toInt64]) t9.heap) (lA x a ob sz)) 0 0 (lA x a ob sz) := by
  refine va_MetW (cc := cL_mention) (maxL := 4) (ret := (some .int)) (hh := [(0, 9, 12, 21), (0, 9, 15, 15)]) (by decide) rfl ?_
  intro pp ee s m args below meth c s₁ B9 hml hv
  obtain ⟨rfl, hsz, hP, hK, hD0⟩ := hv
  subst hsz
  have hD := xo_lA (sz := s.heap.size) hD0
  have hS : va_S (lA x a ob s.heap.size) s.heap s.heap [] := va_S.rf
  have hx := B9.exec
  have hb := B9.bytes
  have hr := B9.returns
  have hts := atoms_spec (ws := wsL_mention) B9.pre
  have hown : s.vm.findClass RL = some m.cls := findClass_of_methodNamed B9.named
  have hlocks := B9.notSynchronized
  have hl := lv_entry ([.ref x, .int (iI (k : Int)), .ref ob]) (n := 4) (Nat.le_of_ble_eq_true rfl)
  rw [lg_entry_eq]
  generalize (lg_sl ([.ref x, .int (iI (k : Int)), .ref ob]) ++ List.replicate (4 - (lg_sl ([.ref x, .int (iI (k : Int)), .ref ob])).length) Slot.unset).toArray = ls at hl ⊢
  have hl : lv_has ls 4 [(0, .ref x), (1, .int (iI (k : Int))), (2, .ref ob)] := hl
  have hIn := hI.n
  refine lv_aload_n hx hb dL_mention_0 rfl (lv_at hl 2 rfl) ?_
  refine lv_iconst (v := iI 0) hx hb dL_mention_1 rfl ?_
  refine lv_aload_n hx hb dL_mention_2 rfl (lv_at hl 0 rfl) ?_
  refine lv_iload_n hx hb dL_mention_3 rfl (lv_at hl 1 rfl) ?_
  refine zc_wi (va_runV (As := [.int (iI (k : Int))]) (rest := [.int (iI 0), .ref ob]) ⟨hx, hb, hml, hown, hts⟩ (c_X0_mention l G x a _ B σ k hI hk ho) (cwV 1 hts gL_mention_X0_mention rfl rfl rfl (by decide +kernel) ⟨Nat.le_of_ble_eq_true rfl, Nat.le_of_ble_eq_true rfl⟩) (preWX hK (va_Pl hP) (va_Dl hD)) rfl rfl hl.1 rfl (lv_room (Nat.le_of_ble_eq_true rfl)) dL_mention_4 ⟨Nat.le_of_ble_eq_true rfl, Nat.le_of_ble_eq_true rfl⟩) hS (fun q h => Or.inr (zA_mono hS.1 h)) (fun H locs hP1 hS _ hk => ?_)
  have hP := x_keep hP hD hP1 hk
  have hD := x_D (σ' := (spk σ k)) (w2 := [oW G ob v]) (w2' := [oW G ob v]) rfl hD
  refine lv_i2l (v := (iI (min (σ.2 4 k + 1) 99)).toInt64) hx hb dL_mention_7 rfl ?_
  refine z_last (v' := (iI (min (σ.2 4 k + 1) 99)).toInt64) hx hb hK hP hD hS dL_mention_8 (fun H locs hP hD hS => ?_)
  refine lv_goto (tgt := 18) hx hb dL_mention_9 (by decide) ?_
  refine lv_iconst (v := iI 0) hx hb dL_mention_18 rfl ?_
  exact W.iret hx hb hr (fun t ht hW => ⟨⟨_, (), rfl, rfl, by show va_P _ _ _ t.heap; rw [ht]; exact hP⟩, hS.F ht⟩) hS.2.2 dL_mention_19
set_option maxHeartbeats 4000000 in
set_option maxRecDepth 100000 in
theorem w_L_apologize (l : Launch) (G : zG) (x : Nat) (a : Nat → Nat) (ob : Nat) (sz : Nat) (v : Int64) (B : Nat) (σ : zS) (k : Nat) (w : Int) (hI : zI B σ) (hk : k < σ.1 1) (hw : 1 ≤ w ∧ w ≤ 20) (ho : σ.2 5 k = 0) : Met l yL_apologize wsL_apologize ({ frames := 4, cells := 0, slots := 0, locals := 90 } : Room) (va_Pc [.ref x, .int (iI (k : Int)), .int (iI w), .ref ob] (wL G x a ob σ v sz)) (va_Qi (fun r (_ : Unit) => r = iI 0) (fun _ t9 => va_P G.1 vwCl (xW G x a (apo σ k w) ++ [oW G ob (iI ((apo σ k w).2 4 k)).toInt64]) t9.heap) (lA x a ob sz)) 0 0 (lA x a ob sz) := by
  refine va_MetW (cc := cL_apologize) (maxL := 5) (ret := (some .int)) (hh := [(0, 10, 13, 21), (0, 10, 17, 13), (0, 10, 21, 15)]) (by decide) rfl ?_
  intro pp ee s m args below meth c s₁ B9 hml hv
  obtain ⟨rfl, hsz, hP, hK, hD0⟩ := hv
  subst hsz
  have hD := xo_lA (sz := s.heap.size) hD0
  have hS : va_S (lA x a ob s.heap.size) s.heap s.heap [] := va_S.rf
  have hx := B9.exec
  have hb := B9.bytes
  have hr := B9.returns
  have hts := atoms_spec (ws := wsL_apologize) B9.pre
  have hown : s.vm.findClass RL = some m.cls := findClass_of_methodNamed B9.named
  have hlocks := B9.notSynchronized
  have hl := lv_entry ([.ref x, .int (iI (k : Int)), .int (iI w), .ref ob]) (n := 5) (Nat.le_of_ble_eq_true rfl)
  rw [lg_entry_eq]
  generalize (lg_sl ([.ref x, .int (iI (k : Int)), .int (iI w), .ref ob]) ++ List.replicate (5 - (lg_sl ([.ref x, .int (iI (k : Int)), .int (iI w), .ref ob])).length) Slot.unset).toArray = ls at hl ⊢
  have hl : lv_has ls 5 [(0, .ref x), (1, .int (iI (k : Int))), (2, .int (iI w)), (3, .ref ob)] := hl
  have hIn := hI.n
  refine lv_aload_n hx hb dL_apologize_0 rfl (lv_at hl 3 rfl) ?_
  refine lv_iconst (v := iI 0) hx hb dL_apologize_1 rfl ?_
  refine lv_aload_n hx hb dL_apologize_2 rfl (lv_at hl 0 rfl) ?_
  refine lv_iload_n hx hb dL_apologize_3 rfl (lv_at hl 1 rfl) ?_
  refine lv_iload_n hx hb dL_apologize_4 rfl (lv_at hl 2 rfl) ?_
  refine zc_wi (va_runV (As := [.int (iI (k : Int)), .int (iI w)]) (rest := [.int (iI 0), .ref ob]) ⟨hx, hb, hml, hown, hts⟩ (c_X0_apologize l G x a _ B σ k w hI hk hw ho) (cwV 2 hts gL_apologize_X0_apologize rfl rfl rfl (by decide +kernel) ⟨Nat.le_of_ble_eq_true rfl, Nat.le_of_ble_eq_true rfl⟩) (preWX hK (va_Pl hP) (va_Dl hD)) rfl rfl hl.1 rfl (lv_room (Nat.le_of_ble_eq_true rfl)) dL_apologize_5 ⟨Nat.le_of_ble_eq_true rfl, Nat.le_of_ble_eq_true rfl⟩) hS (fun q h => Or.inr (zA_mono hS.1 h)) (fun H locs hP1 hS _ hk => ?_)
  have hP := x_keep hP hD hP1 hk
  have hD := x_D (σ' := (apo σ k w)) (w2 := [oW G ob v]) (w2' := [oW G ob v]) rfl hD
  refine lv_i2l (v := (iI ((apo σ k w).2 4 k)).toInt64) hx hb dL_apologize_8 rfl ?_
  refine z_last (v' := (iI ((apo σ k w).2 4 k)).toInt64) hx hb hK hP hD hS dL_apologize_9 (fun H locs hP hD hS => ?_)
  refine lv_goto (tgt := 25) hx hb dL_apologize_10 (by decide) ?_
  refine lv_iconst (v := iI 0) hx hb dL_apologize_25 rfl ?_
  exact W.iret hx hb hr (fun t ht hW => ⟨⟨_, (), rfl, rfl, by show va_P _ _ _ t.heap; rw [ht]; exact hP⟩, hS.F ht⟩) hS.2.2 dL_apologize_26
set_option maxHeartbeats 4000000 in
set_option maxRecDepth 100000 in
theorem w_L_setOff (l : Launch) (G : zG) (x : Nat) (a : Nat → Nat) (ob : Nat) (sz : Nat) (v : Int64) (B : Nat) (σ : zS) (i : Nat) (o : Nat) (hI : zI B σ) (hi : i < σ.1 1) (ho : o < σ.1 1) (h4 : σ.2 5 i = 0) (h5 : σ.2 5 o = 0) (hq : agn σ i o = 1) : Met l yL_setOff wsL_setOff ({ frames := 4, cells := 0, slots := 0, locals := 90 } : Room) (va_Pc [.ref x, .int (iI (i : Int)), .int (iI (o : Int)), .ref ob] (wL G x a ob σ v sz)) (va_Qi (fun r (_ : Unit) => r = iI 0) (fun _ t9 => va_P G.1 vwCl (xW G x a (sof σ i o) ++ [oW G ob (iI (min (σ.2 4 i) (σ.2 4 o))).toInt64]) t9.heap) (lA x a ob sz)) 0 0 (lA x a ob sz) := by
  refine va_MetW (cc := cL_setOff) (maxL := 5) (ret := (some .int)) (hh := [(0, 10, 13, 21), (0, 10, 17, 15)]) (by decide) rfl ?_
  intro pp ee s m args below meth c s₁ B9 hml hv
  obtain ⟨rfl, hsz, hP, hK, hD0⟩ := hv
  subst hsz
  have hD := xo_lA (sz := s.heap.size) hD0
  have hS : va_S (lA x a ob s.heap.size) s.heap s.heap [] := va_S.rf
  have hx := B9.exec
  have hb := B9.bytes
  have hr := B9.returns
  have hts := atoms_spec (ws := wsL_setOff) B9.pre
  have hown : s.vm.findClass RL = some m.cls := findClass_of_methodNamed B9.named
  have hlocks := B9.notSynchronized
  have hl := lv_entry ([.ref x, .int (iI (i : Int)), .int (iI (o : Int)), .ref ob]) (n := 5) (Nat.le_of_ble_eq_true rfl)
  rw [lg_entry_eq]
  generalize (lg_sl ([.ref x, .int (iI (i : Int)), .int (iI (o : Int)), .ref ob]) ++ List.replicate (5 - (lg_sl ([.ref x, .int (iI (i : Int)), .int (iI (o : Int)), .ref ob])).length) Slot.unset).toArray = ls at hl ⊢
  have hl : lv_has ls 5 [(0, .ref x), (1, .int (iI (i : Int))), (2, .int (iI (o : Int))), (3, .ref ob)] := hl
  have hIn := hI.n
  refine lv_aload_n hx hb dL_setOff_0 rfl (lv_at hl 3 rfl) ?_
  refine lv_iconst (v := iI 0) hx hb dL_setOff_1 rfl ?_
  refine lv_aload_n hx hb dL_setOff_2 rfl (lv_at hl 0 rfl) ?_
  refine lv_iload_n hx hb dL_setOff_3 rfl (lv_at hl 1 rfl) ?_
  refine lv_iload_n hx hb dL_setOff_4 rfl (lv_at hl 2 rfl) ?_
  refine zc_wi (va_runV (As := [.int (iI (i : Int)), .int (iI (o : Int))]) (rest := [.int (iI 0), .ref ob]) ⟨hx, hb, hml, hown, hts⟩ (c_X0_setOff l G x a _ B σ i o hI hi ho h4 h5 hq) (cwV 2 hts gL_setOff_X0_setOff rfl rfl rfl (by decide +kernel) ⟨Nat.le_of_ble_eq_true rfl, Nat.le_of_ble_eq_true rfl⟩) (preWX hK (va_Pl hP) (va_Dl hD)) rfl rfl hl.1 rfl (lv_room (Nat.le_of_ble_eq_true rfl)) dL_setOff_5 ⟨Nat.le_of_ble_eq_true rfl, Nat.le_of_ble_eq_true rfl⟩) hS (fun q h => Or.inr (zA_mono hS.1 h)) (fun H locs hP1 hS _ hk => ?_)
  have hP := x_keep hP hD hP1 hk
  have hD := x_D (σ' := (sof σ i o)) (w2 := [oW G ob v]) (w2' := [oW G ob v]) rfl hD
  refine lv_i2l (v := (iI (min (σ.2 4 i) (σ.2 4 o))).toInt64) hx hb dL_setOff_8 rfl ?_
  refine z_last (v' := (iI (min (σ.2 4 i) (σ.2 4 o))).toInt64) hx hb hK hP hD hS dL_setOff_9 (fun H locs hP hD hS => ?_)
  refine lv_goto (tgt := 21) hx hb dL_setOff_10 (by decide) ?_
  refine lv_iconst (v := iI 0) hx hb dL_setOff_21 rfl ?_
  exact W.iret hx hb hr (fun t ht hW => ⟨⟨_, (), rfl, rfl, by show va_P _ _ _ t.heap; rw [ht]; exact hP⟩, hS.F ht⟩) hS.2.2 dL_setOff_22
set_option maxHeartbeats 4000000 in
set_option maxRecDepth 100000 in
theorem w_L_setPride (l : Launch) (G : zG) (x : Nat) (a : Nat → Nat) (ob : Nat) (sz : Nat) (v : Int64) (B : Nat) (σ : zS) (p : Nat) (z : Int) (hI : zI B σ) (hp : p < σ.1 0) (hz : 0 ≤ z ∧ z ≤ 9) : Met l yL_setPride wsL_setPride ({ frames := 2, cells := 0, slots := 0, locals := 44 } : Room) (va_Pc [.ref x, .int (iI (p : Int)), .int (iI z), .ref ob] (wL G x a ob σ v sz)) (va_Qi (fun r (_ : Unit) => r = iI 0) (fun _ t9 => va_P G.1 vwCl (xW G x a (stA σ 0 p z) ++ [oW G ob (iI (σ.2 0 p)).toInt64]) t9.heap) (lA x a ob sz)) 0 0 (lA x a ob sz) := by
  refine va_MetW (cc := cL_setPride) (maxL := 5) (ret := (some .int)) (hh := [(0, 10, 13, 21), (0, 10, 17, 13)]) (by decide) rfl ?_
  intro pp ee s m args below meth c s₁ B9 hml hv
  obtain ⟨rfl, hsz, hP, hK, hD0⟩ := hv
  subst hsz
  have hD := xo_lA (sz := s.heap.size) hD0
  have hS : va_S (lA x a ob s.heap.size) s.heap s.heap [] := va_S.rf
  have hx := B9.exec
  have hb := B9.bytes
  have hr := B9.returns
  have hts := atoms_spec (ws := wsL_setPride) B9.pre
  have hown : s.vm.findClass RL = some m.cls := findClass_of_methodNamed B9.named
  have hlocks := B9.notSynchronized
  have hl := lv_entry ([.ref x, .int (iI (p : Int)), .int (iI z), .ref ob]) (n := 5) (Nat.le_of_ble_eq_true rfl)
  rw [lg_entry_eq]
  generalize (lg_sl ([.ref x, .int (iI (p : Int)), .int (iI z), .ref ob]) ++ List.replicate (5 - (lg_sl ([.ref x, .int (iI (p : Int)), .int (iI z), .ref ob])).length) Slot.unset).toArray = ls at hl ⊢
  have hl : lv_has ls 5 [(0, .ref x), (1, .int (iI (p : Int))), (2, .int (iI z)), (3, .ref ob)] := hl
  have hIn := hI.n
  refine lv_aload_n hx hb dL_setPride_0 rfl (lv_at hl 3 rfl) ?_
  refine lv_iconst (v := iI 0) hx hb dL_setPride_1 rfl ?_
  refine lv_aload_n hx hb dL_setPride_2 rfl (lv_at hl 0 rfl) ?_
  refine lv_iload_n hx hb dL_setPride_3 rfl (lv_at hl 1 rfl) ?_
  refine lv_iload_n hx hb dL_setPride_4 rfl (lv_at hl 2 rfl) ?_
  refine zc_wi (va_runV (As := [.int (iI (p : Int)), .int (iI z)]) (rest := [.int (iI 0), .ref ob]) ⟨hx, hb, hml, hown, hts⟩ (c_X0_setPride l G x a _ B σ p z hI hp hz) (cwV 2 hts gL_setPride_X0_setPride rfl rfl rfl (by decide +kernel) ⟨Nat.le_of_ble_eq_true rfl, Nat.le_of_ble_eq_true rfl⟩) (preWX hK (va_Pl hP) (va_Dl hD)) rfl rfl hl.1 rfl (lv_room (Nat.le_of_ble_eq_true rfl)) dL_setPride_5 ⟨Nat.le_of_ble_eq_true rfl, Nat.le_of_ble_eq_true rfl⟩) hS (fun q h => Or.inr (zA_mono hS.1 h)) (fun H locs hP1 hS _ hk => ?_)
  have hP := x_keep hP hD hP1 hk
  have hD := x_D (σ' := (stA σ 0 p z)) (w2 := [oW G ob v]) (w2' := [oW G ob v]) rfl hD
  refine lv_i2l (v := (iI (σ.2 0 p)).toInt64) hx hb dL_setPride_8 rfl ?_
  refine z_last (v' := (iI (σ.2 0 p)).toInt64) hx hb hK hP hD hS dL_setPride_9 (fun H locs hP hD hS => ?_)
  refine lv_goto (tgt := 21) hx hb dL_setPride_10 (by decide) ?_
  refine lv_iconst (v := iI 0) hx hb dL_setPride_21 rfl ?_
  exact W.iret hx hb hr (fun t ht hW => ⟨⟨_, (), rfl, rfl, by show va_P _ _ _ t.heap; rw [ht]; exact hP⟩, hS.F ht⟩) hS.2.2 dL_setPride_22
set_option maxHeartbeats 4000000 in
set_option maxRecDepth 100000 in
theorem w_L_pass (l : Launch) (G : zG) (x : Nat) (a : Nat → Nat) (ob : Nat) (sz : Nat) (v : Int64) (B : Nat) (σ : zS) (d : Nat) (hI : zI B σ) (hd : 1 ≤ d ∧ d ≤ 60) (hB : B + 60 ≤ 100000) : Met l yL_pass wsL_pass ({ frames := 5, cells := 0, slots := 0, locals := 111 } : Room) (va_Pc [.ref x, .int (iI (d : Int)), .ref ob] (wL G x a ob σ v sz)) (va_Qi (fun r (_ : Unit) => r = iI 0) (fun _ t9 => va_P G.1 vwCl (xW G x a ((dyn σ d).1) ++ [oW G ob (iI ((dyn σ d).2)).toInt64]) t9.heap) (lA x a ob sz)) 0 0 (lA x a ob sz) := by
  refine va_MetW (cc := cL_pass) (maxL := 4) (ret := (some .int)) (hh := [(0, 9, 12, 13)]) (by decide) rfl ?_
  intro pp ee s m args below meth c s₁ B9 hml hv
  obtain ⟨rfl, hsz, hP, hK, hD0⟩ := hv
  subst hsz
  have hD := xo_lA (sz := s.heap.size) hD0
  have hS : va_S (lA x a ob s.heap.size) s.heap s.heap [] := va_S.rf
  have hx := B9.exec
  have hb := B9.bytes
  have hr := B9.returns
  have hts := atoms_spec (ws := wsL_pass) B9.pre
  have hown : s.vm.findClass RL = some m.cls := findClass_of_methodNamed B9.named
  have hlocks := B9.notSynchronized
  have hl := lv_entry ([.ref x, .int (iI (d : Int)), .ref ob]) (n := 4) (Nat.le_of_ble_eq_true rfl)
  rw [lg_entry_eq]
  generalize (lg_sl ([.ref x, .int (iI (d : Int)), .ref ob]) ++ List.replicate (4 - (lg_sl ([.ref x, .int (iI (d : Int)), .ref ob])).length) Slot.unset).toArray = ls at hl ⊢
  have hl : lv_has ls 4 [(0, .ref x), (1, .int (iI (d : Int))), (2, .ref ob)] := hl
  have hIn := hI.n
  refine lv_aload_n hx hb dL_pass_0 rfl (lv_at hl 2 rfl) ?_
  refine lv_iconst (v := iI 0) hx hb dL_pass_1 rfl ?_
  refine lv_aload_n hx hb dL_pass_2 rfl (lv_at hl 0 rfl) ?_
  refine lv_iload_n hx hb dL_pass_3 rfl (lv_at hl 1 rfl) ?_
  refine zc_wi (va_runV (As := [.int (iI (d : Int))]) (rest := [.int (iI 0), .ref ob]) ⟨hx, hb, hml, hown, hts⟩ (c_X0_pass l G x a _ B σ d hI hd hB) (cwV 1 hts gL_pass_X0_pass rfl rfl rfl (by decide +kernel) ⟨Nat.le_of_ble_eq_true rfl, Nat.le_of_ble_eq_true rfl⟩) (preWX hK (va_Pl hP) (va_Dl hD)) rfl rfl hl.1 rfl (lv_room (Nat.le_of_ble_eq_true rfl)) dL_pass_4 ⟨Nat.le_of_ble_eq_true rfl, Nat.le_of_ble_eq_true rfl⟩) hS (fun q h => Or.inr (zA_mono hS.1 h)) (fun H locs hP1 hS _ hk => ?_)
  have hP := x_keep hP hD hP1 hk
  have hD := x_D (σ' := ((dyn σ d).1)) (w2 := [oW G ob v]) (w2' := [oW G ob v]) rfl hD
  refine lv_i2l (v := (iI ((dyn σ d).2)).toInt64) hx hb dL_pass_7 rfl ?_
  refine z_last (v' := (iI ((dyn σ d).2)).toInt64) hx hb hK hP hD hS dL_pass_8 (fun H locs hP hD hS => ?_)
  refine lv_goto (tgt := 15) hx hb dL_pass_9 (by decide) ?_
  refine lv_iconst (v := iI 0) hx hb dL_pass_15 rfl ?_
  exact W.iret hx hb hr (fun t ht hW => ⟨⟨_, (), rfl, rfl, by show va_P _ _ _ t.heap; rw [ht]; exact hP⟩, hS.F ht⟩) hS.2.2 dL_pass_16
set_option maxHeartbeats 4000000 in
set_option maxRecDepth 100000 in
theorem w_L_isInHall (l : Launch) (G : zG) (x : Nat) (a : Nat → Nat) (ob : Nat) (sz : Nat) (v : Int64) (B : Nat) (σ : zS) (p : Nat) (hI : zI B σ) (hp : p < σ.1 0) : Met l yL_isInHall wsL_isInHall ({ frames := 2, cells := 0, slots := 0, locals := 42 } : Room) (va_Pc [.ref x, .int (iI (p : Int)), .ref ob] (wL G x a ob σ v sz)) (va_Qi (fun r (_ : Unit) => r = iI 0) (fun _ t9 => va_P G.1 vwCl (xW G x a σ ++ [oW G ob (iI (σ.2 1 p)).toInt64]) t9.heap) (lA x a ob sz)) 0 0 (lA x a ob sz) := by
  refine va_MetW (cc := cL_isInHall) (maxL := 4) (ret := (some .int)) (hh := [(0, 16, 19, 21)]) (by decide) rfl ?_
  intro pp ee s m args below meth c s₁ B9 hml hv
  obtain ⟨rfl, hsz, hP, hK, hD0⟩ := hv
  subst hsz
  have hD := xo_lA (sz := s.heap.size) hD0
  have hS : va_S (lA x a ob s.heap.size) s.heap s.heap [] := va_S.rf
  have hx := B9.exec
  have hb := B9.bytes
  have hr := B9.returns
  have hts := atoms_spec (ws := wsL_isInHall) B9.pre
  have hown : s.vm.findClass RL = some m.cls := findClass_of_methodNamed B9.named
  have hlocks := B9.notSynchronized
  have hl := lv_entry ([.ref x, .int (iI (p : Int)), .ref ob]) (n := 4) (Nat.le_of_ble_eq_true rfl)
  rw [lg_entry_eq]
  generalize (lg_sl ([.ref x, .int (iI (p : Int)), .ref ob]) ++ List.replicate (4 - (lg_sl ([.ref x, .int (iI (p : Int)), .ref ob])).length) Slot.unset).toArray = ls at hl ⊢
  have hl : lv_has ls 4 [(0, .ref x), (1, .int (iI (p : Int))), (2, .ref ob)] := hl
  have hIn := hI.n
  refine lv_aload_n hx hb dL_isInHall_0 rfl (lv_at hl 2 rfl) ?_
  refine lv_iconst (v := iI 0) hx hb dL_isInHall_1 rfl ?_
  refine lv_aload_n hx hb dL_isInHall_2 rfl (lv_at hl 0 rfl) ?_
  refine lv_iload_n hx hb dL_isInHall_3 rfl (lv_at hl 1 rfl) ?_
  refine zc_i (va_runV (As := [.int (iI (p : Int))]) (rest := [.int (iI 0), .ref ob]) ⟨hx, hb, hml, hown, hts⟩ (c_X0_isInHall l G x a B σ p hI hp) (cwV 1 hts gL_isInHall_X0_isInHall rfl rfl rfl (by decide +kernel) ⟨Nat.le_of_ble_eq_true rfl, Nat.le_of_ble_eq_true rfl⟩) (preVX hK (va_Pl hP)) rfl rfl hl.1 rfl (lv_room (Nat.le_of_ble_eq_true rfl)) dL_isInHall_4 ⟨Nat.le_of_ble_eq_true rfl, Nat.le_of_ble_eq_true rfl⟩) ?_
  have hbd : (σ.2 1 p) = 0 ∨ (σ.2 1 p) = 1 := by have := hI.r1 p; omega
  refine z_if_eq (tgt := 14) hx hb dL_isInHall_7 (by decide) (by omega) (fun c_1 => ?_) (fun c_1 => ?_)
  ·
    refine lv_lconst (v := 0) hx hb dL_isInHall_14 rfl ?_
    refine z_last (v' := 0) hx hb hK hP hD hS dL_isInHall_15 (fun H locs hP hD hS => ?_)
    refine lv_goto (tgt := 22) hx hb dL_isInHall_16 (by decide) ?_
    refine lv_iconst (v := iI 0) hx hb dL_isInHall_22 rfl ?_
    rw [show (0 : Int64) = (iI (σ.2 1 p)).toInt64 from by rw [c_1]; rfl] at hP
    exact W.iret hx hb hr (fun t ht hW => ⟨⟨_, (), rfl, rfl, by show va_P _ _ _ t.heap; rw [ht]; exact hP⟩, hS.F ht⟩) hS.2.2 dL_isInHall_23
  ·
    refine lv_lconst (v := 1) hx hb dL_isInHall_10 rfl ?_
    refine lv_goto (tgt := 15) hx hb dL_isInHall_11 (by decide) ?_
    refine z_last (v' := 1) hx hb hK hP hD hS dL_isInHall_15 (fun H locs hP hD hS => ?_)
    refine lv_goto (tgt := 22) hx hb dL_isInHall_16 (by decide) ?_
    refine lv_iconst (v := iI 0) hx hb dL_isInHall_22 rfl ?_
    rw [show (1 : Int64) = (iI (σ.2 1 p)).toInt64 from by rw [show (σ.2 1 p) = 1 from by omega]; rfl] at hP
    exact W.iret hx hb hr (fun t ht hW => ⟨⟨_, (), rfl, rfl, by show va_P _ _ _ t.heap; rw [ht]; exact hP⟩, hS.F ht⟩) hS.2.2 dL_isInHall_23
set_option maxHeartbeats 4000000 in
set_option maxRecDepth 100000 in
theorem w_L_prideOf (l : Launch) (G : zG) (x : Nat) (a : Nat → Nat) (ob : Nat) (sz : Nat) (v : Int64) (B : Nat) (σ : zS) (p : Nat) (hI : zI B σ) (hp : p < σ.1 0) : Met l yL_prideOf wsL_prideOf ({ frames := 2, cells := 0, slots := 0, locals := 42 } : Room) (va_Pc [.ref x, .int (iI (p : Int)), .ref ob] (wL G x a ob σ v sz)) (va_Qi (fun r (_ : Unit) => r = iI 0) (fun _ t9 => va_P G.1 vwCl (xW G x a σ ++ [oW G ob (iI (σ.2 0 p)).toInt64]) t9.heap) (lA x a ob sz)) 0 0 (lA x a ob sz) := by
  refine va_MetW (cc := cL_prideOf) (maxL := 4) (ret := (some .int)) (hh := [(0, 9, 12, 21)]) (by decide) rfl ?_
  intro pp ee s m args below meth c s₁ B9 hml hv
  obtain ⟨rfl, hsz, hP, hK, hD0⟩ := hv
  subst hsz
  have hD := xo_lA (sz := s.heap.size) hD0
  have hS : va_S (lA x a ob s.heap.size) s.heap s.heap [] := va_S.rf
  have hx := B9.exec
  have hb := B9.bytes
  have hr := B9.returns
  have hts := atoms_spec (ws := wsL_prideOf) B9.pre
  have hown : s.vm.findClass RL = some m.cls := findClass_of_methodNamed B9.named
  have hlocks := B9.notSynchronized
  have hl := lv_entry ([.ref x, .int (iI (p : Int)), .ref ob]) (n := 4) (Nat.le_of_ble_eq_true rfl)
  rw [lg_entry_eq]
  generalize (lg_sl ([.ref x, .int (iI (p : Int)), .ref ob]) ++ List.replicate (4 - (lg_sl ([.ref x, .int (iI (p : Int)), .ref ob])).length) Slot.unset).toArray = ls at hl ⊢
  have hl : lv_has ls 4 [(0, .ref x), (1, .int (iI (p : Int))), (2, .ref ob)] := hl
  have hIn := hI.n
  refine lv_aload_n hx hb dL_prideOf_0 rfl (lv_at hl 2 rfl) ?_
  refine lv_iconst (v := iI 0) hx hb dL_prideOf_1 rfl ?_
  refine lv_aload_n hx hb dL_prideOf_2 rfl (lv_at hl 0 rfl) ?_
  refine lv_iload_n hx hb dL_prideOf_3 rfl (lv_at hl 1 rfl) ?_
  refine zc_i (va_runV (As := [.int (iI (p : Int))]) (rest := [.int (iI 0), .ref ob]) ⟨hx, hb, hml, hown, hts⟩ (c_X0_prideOf l G x a B σ p hI hp) (cwV 1 hts gL_prideOf_X0_prideOf rfl rfl rfl (by decide +kernel) ⟨Nat.le_of_ble_eq_true rfl, Nat.le_of_ble_eq_true rfl⟩) (preVX hK (va_Pl hP)) rfl rfl hl.1 rfl (lv_room (Nat.le_of_ble_eq_true rfl)) dL_prideOf_4 ⟨Nat.le_of_ble_eq_true rfl, Nat.le_of_ble_eq_true rfl⟩) ?_
  refine lv_i2l (v := (iI (σ.2 0 p)).toInt64) hx hb dL_prideOf_7 rfl ?_
  refine z_last (v' := (iI (σ.2 0 p)).toInt64) hx hb hK hP hD hS dL_prideOf_8 (fun H locs hP hD hS => ?_)
  refine lv_goto (tgt := 15) hx hb dL_prideOf_9 (by decide) ?_
  refine lv_iconst (v := iI 0) hx hb dL_prideOf_15 rfl ?_
  exact W.iret hx hb hr (fun t ht hW => ⟨⟨_, (), rfl, rfl, by show va_P _ _ _ t.heap; rw [ht]; exact hP⟩, hS.F ht⟩) hS.2.2 dL_prideOf_16
set_option maxHeartbeats 4000000 in
set_option maxRecDepth 100000 in
theorem w_L_borneBy (l : Launch) (G : zG) (x : Nat) (a : Nat → Nat) (ob : Nat) (sz : Nat) (v : Int64) (B : Nat) (σ : zS) (p : Nat) (hI : zI B σ) (hp : p < σ.1 0) : Met l yL_borneBy wsL_borneBy ({ frames := 2, cells := 0, slots := 0, locals := 44 } : Room) (va_Pc [.ref x, .int (iI (p : Int)), .ref ob] (wL G x a ob σ v sz)) (va_Qi (fun r (_ : Unit) => r = iI 0) (fun _ t9 => va_P G.1 vwCl (xW G x a σ ++ [oW G ob (iI (bor σ (p : Int))).toInt64]) t9.heap) (lA x a ob sz)) 0 0 (lA x a ob sz) := by
  refine va_MetW (cc := cL_borneBy) (maxL := 4) (ret := (some .int)) (hh := [(0, 9, 12, 21)]) (by decide) rfl ?_
  intro pp ee s m args below meth c s₁ B9 hml hv
  obtain ⟨rfl, hsz, hP, hK, hD0⟩ := hv
  subst hsz
  have hD := xo_lA (sz := s.heap.size) hD0
  have hS : va_S (lA x a ob s.heap.size) s.heap s.heap [] := va_S.rf
  have hx := B9.exec
  have hb := B9.bytes
  have hr := B9.returns
  have hts := atoms_spec (ws := wsL_borneBy) B9.pre
  have hown : s.vm.findClass RL = some m.cls := findClass_of_methodNamed B9.named
  have hlocks := B9.notSynchronized
  have hl := lv_entry ([.ref x, .int (iI (p : Int)), .ref ob]) (n := 4) (Nat.le_of_ble_eq_true rfl)
  rw [lg_entry_eq]
  generalize (lg_sl ([.ref x, .int (iI (p : Int)), .ref ob]) ++ List.replicate (4 - (lg_sl ([.ref x, .int (iI (p : Int)), .ref ob])).length) Slot.unset).toArray = ls at hl ⊢
  have hl : lv_has ls 4 [(0, .ref x), (1, .int (iI (p : Int))), (2, .ref ob)] := hl
  have hIn := hI.n
  refine lv_aload_n hx hb dL_borneBy_0 rfl (lv_at hl 2 rfl) ?_
  refine lv_iconst (v := iI 0) hx hb dL_borneBy_1 rfl ?_
  refine lv_aload_n hx hb dL_borneBy_2 rfl (lv_at hl 0 rfl) ?_
  refine lv_iload_n hx hb dL_borneBy_3 rfl (lv_at hl 1 rfl) ?_
  refine zc_i (va_runV (As := [.int (iI (p : Int))]) (rest := [.int (iI 0), .ref ob]) ⟨hx, hb, hml, hown, hts⟩ (c_X0_borneBy l G x a B σ p hI hp) (cwV 1 hts gL_borneBy_X0_borneBy rfl rfl rfl (by decide +kernel) ⟨Nat.le_of_ble_eq_true rfl, Nat.le_of_ble_eq_true rfl⟩) (preVX hK (va_Pl hP)) rfl rfl hl.1 rfl (lv_room (Nat.le_of_ble_eq_true rfl)) dL_borneBy_4 ⟨Nat.le_of_ble_eq_true rfl, Nat.le_of_ble_eq_true rfl⟩) ?_
  refine lv_i2l (v := (iI (bor σ (p : Int))).toInt64) hx hb dL_borneBy_7 rfl ?_
  refine z_last (v' := (iI (bor σ (p : Int))).toInt64) hx hb hK hP hD hS dL_borneBy_8 (fun H locs hP hD hS => ?_)
  refine lv_goto (tgt := 15) hx hb dL_borneBy_9 (by decide) ?_
  refine lv_iconst (v := iI 0) hx hb dL_borneBy_15 rfl ?_
  exact W.iret hx hb hr (fun t ht hW => ⟨⟨_, (), rfl, rfl, by show va_P _ _ _ t.heap; rw [ht]; exact hP⟩, hS.F ht⟩) hS.2.2 dL_borneBy_16
set_option maxHeartbeats 4000000 in
set_option maxRecDepth 100000 in
theorem w_L_owedBy (l : Launch) (G : zG) (x : Nat) (a : Nat → Nat) (ob : Nat) (sz : Nat) (v : Int64) (B : Nat) (σ : zS) (p : Nat) (hI : zI B σ) (hp : p < σ.1 0) : Met l yL_owedBy wsL_owedBy ({ frames := 2, cells := 0, slots := 0, locals := 44 } : Room) (va_Pc [.ref x, .int (iI (p : Int)), .ref ob] (wL G x a ob σ v sz)) (va_Qi (fun r (_ : Unit) => r = iI 0) (fun _ t9 => va_P G.1 vwCl (xW G x a σ ++ [oW G ob (iI (owe σ (p : Int))).toInt64]) t9.heap) (lA x a ob sz)) 0 0 (lA x a ob sz) := by
  refine va_MetW (cc := cL_owedBy) (maxL := 4) (ret := (some .int)) (hh := [(0, 9, 12, 21)]) (by decide) rfl ?_
  intro pp ee s m args below meth c s₁ B9 hml hv
  obtain ⟨rfl, hsz, hP, hK, hD0⟩ := hv
  subst hsz
  have hD := xo_lA (sz := s.heap.size) hD0
  have hS : va_S (lA x a ob s.heap.size) s.heap s.heap [] := va_S.rf
  have hx := B9.exec
  have hb := B9.bytes
  have hr := B9.returns
  have hts := atoms_spec (ws := wsL_owedBy) B9.pre
  have hown : s.vm.findClass RL = some m.cls := findClass_of_methodNamed B9.named
  have hlocks := B9.notSynchronized
  have hl := lv_entry ([.ref x, .int (iI (p : Int)), .ref ob]) (n := 4) (Nat.le_of_ble_eq_true rfl)
  rw [lg_entry_eq]
  generalize (lg_sl ([.ref x, .int (iI (p : Int)), .ref ob]) ++ List.replicate (4 - (lg_sl ([.ref x, .int (iI (p : Int)), .ref ob])).length) Slot.unset).toArray = ls at hl ⊢
  have hl : lv_has ls 4 [(0, .ref x), (1, .int (iI (p : Int))), (2, .ref ob)] := hl
  have hIn := hI.n
  refine lv_aload_n hx hb dL_owedBy_0 rfl (lv_at hl 2 rfl) ?_
  refine lv_iconst (v := iI 0) hx hb dL_owedBy_1 rfl ?_
  refine lv_aload_n hx hb dL_owedBy_2 rfl (lv_at hl 0 rfl) ?_
  refine lv_iload_n hx hb dL_owedBy_3 rfl (lv_at hl 1 rfl) ?_
  refine zc_i (va_runV (As := [.int (iI (p : Int))]) (rest := [.int (iI 0), .ref ob]) ⟨hx, hb, hml, hown, hts⟩ (c_X0_owedBy l G x a B σ p hI hp) (cwV 1 hts gL_owedBy_X0_owedBy rfl rfl rfl (by decide +kernel) ⟨Nat.le_of_ble_eq_true rfl, Nat.le_of_ble_eq_true rfl⟩) (preVX hK (va_Pl hP)) rfl rfl hl.1 rfl (lv_room (Nat.le_of_ble_eq_true rfl)) dL_owedBy_4 ⟨Nat.le_of_ble_eq_true rfl, Nat.le_of_ble_eq_true rfl⟩) ?_
  refine lv_i2l (v := (iI (owe σ (p : Int))).toInt64) hx hb dL_owedBy_7 rfl ?_
  refine z_last (v' := (iI (owe σ (p : Int))).toInt64) hx hb hK hP hD hS dL_owedBy_8 (fun H locs hP hD hS => ?_)
  refine lv_goto (tgt := 15) hx hb dL_owedBy_9 (by decide) ?_
  refine lv_iconst (v := iI 0) hx hb dL_owedBy_15 rfl ?_
  exact W.iret hx hb hr (fun t ht hW => ⟨⟨_, (), rfl, rfl, by show va_P _ _ _ t.heap; rw [ht]; exact hP⟩, hS.F ht⟩) hS.2.2 dL_owedBy_16
set_option maxHeartbeats 4000000 in
set_option maxRecDepth 100000 in
theorem w_L_balance (l : Launch) (G : zG) (x : Nat) (a : Nat → Nat) (ob : Nat) (sz : Nat) (v : Int64) (B : Nat) (σ : zS) (i : Nat) (o : Nat) (hI : zI B σ) (hi : i < σ.1 0) (ho : o < σ.1 0) : Met l yL_balance wsL_balance ({ frames := 2, cells := 0, slots := 0, locals := 46 } : Room) (va_Pc [.ref x, .int (iI (i : Int)), .int (iI (o : Int)), .ref ob] (wL G x a ob σ v sz)) (va_Qi (fun r (_ : Unit) => r = iI 0) (fun _ t9 => va_P G.1 vwCl (xW G x a σ ++ [oW G ob (iI (btw σ (i : Int) (o : Int) - btw σ (o : Int) (i : Int))).toInt64]) t9.heap) (lA x a ob sz)) 0 0 (lA x a ob sz) := by
  refine va_MetW (cc := cL_balance) (maxL := 5) (ret := (some .int)) (hh := [(0, 10, 13, 21)]) (by decide) rfl ?_
  intro pp ee s m args below meth c s₁ B9 hml hv
  obtain ⟨rfl, hsz, hP, hK, hD0⟩ := hv
  subst hsz
  have hD := xo_lA (sz := s.heap.size) hD0
  have hS : va_S (lA x a ob s.heap.size) s.heap s.heap [] := va_S.rf
  have hx := B9.exec
  have hb := B9.bytes
  have hr := B9.returns
  have hts := atoms_spec (ws := wsL_balance) B9.pre
  have hown : s.vm.findClass RL = some m.cls := findClass_of_methodNamed B9.named
  have hlocks := B9.notSynchronized
  have hl := lv_entry ([.ref x, .int (iI (i : Int)), .int (iI (o : Int)), .ref ob]) (n := 5) (Nat.le_of_ble_eq_true rfl)
  rw [lg_entry_eq]
  generalize (lg_sl ([.ref x, .int (iI (i : Int)), .int (iI (o : Int)), .ref ob]) ++ List.replicate (5 - (lg_sl ([.ref x, .int (iI (i : Int)), .int (iI (o : Int)), .ref ob])).length) Slot.unset).toArray = ls at hl ⊢
  have hl : lv_has ls 5 [(0, .ref x), (1, .int (iI (i : Int))), (2, .int (iI (o : Int))), (3, .ref ob)] := hl
  have hIn := hI.n
  refine lv_aload_n hx hb dL_balance_0 rfl (lv_at hl 3 rfl) ?_
  refine lv_iconst (v := iI 0) hx hb dL_balance_1 rfl ?_
  refine lv_aload_n hx hb dL_balance_2 rfl (lv_at hl 0 rfl) ?_
  refine lv_iload_n hx hb dL_balance_3 rfl (lv_at hl 1 rfl) ?_
  refine lv_iload_n hx hb dL_balance_4 rfl (lv_at hl 2 rfl) ?_
  refine zc_i (va_runV (As := [.int (iI (i : Int)), .int (iI (o : Int))]) (rest := [.int (iI 0), .ref ob]) ⟨hx, hb, hml, hown, hts⟩ (c_X0_balance l G x a B σ i o hI hi ho) (cwV 2 hts gL_balance_X0_balance rfl rfl rfl (by decide +kernel) ⟨Nat.le_of_ble_eq_true rfl, Nat.le_of_ble_eq_true rfl⟩) (preVX hK (va_Pl hP)) rfl rfl hl.1 rfl (lv_room (Nat.le_of_ble_eq_true rfl)) dL_balance_5 ⟨Nat.le_of_ble_eq_true rfl, Nat.le_of_ble_eq_true rfl⟩) ?_
  refine lv_i2l (v := (iI (btw σ (i : Int) (o : Int) - btw σ (o : Int) (i : Int))).toInt64) hx hb dL_balance_8 rfl ?_
  refine z_last (v' := (iI (btw σ (i : Int) (o : Int) - btw σ (o : Int) (i : Int))).toInt64) hx hb hK hP hD hS dL_balance_9 (fun H locs hP hD hS => ?_)
  refine lv_goto (tgt := 17) hx hb dL_balance_10 (by decide) ?_
  refine lv_iconst (v := iI 0) hx hb dL_balance_17 rfl ?_
  exact W.iret hx hb hr (fun t ht hW => ⟨⟨_, (), rfl, rfl, by show va_P _ _ _ t.heap; rw [ht]; exact hP⟩, hS.F ht⟩) hS.2.2 dL_balance_18
set_option maxHeartbeats 4000000 in
set_option maxRecDepth 100000 in
theorem w_L_offenderOf (l : Launch) (G : zG) (x : Nat) (a : Nat → Nat) (ob : Nat) (sz : Nat) (v : Int64) (B : Nat) (σ : zS) (k : Nat) (hI : zI B σ) (hk : k < σ.1 1) : Met l yL_offenderOf wsL_offenderOf ({ frames := 2, cells := 0, slots := 0, locals := 42 } : Room) (va_Pc [.ref x, .int (iI (k : Int)), .ref ob] (wL G x a ob σ v sz)) (va_Qi (fun r (_ : Unit) => r = iI 0) (fun _ t9 => va_P G.1 vwCl (xW G x a σ ++ [oW G ob (iI (σ.2 2 k)).toInt64]) t9.heap) (lA x a ob sz)) 0 0 (lA x a ob sz) := by
  refine va_MetW (cc := cL_offenderOf) (maxL := 4) (ret := (some .int)) (hh := [(0, 9, 12, 21)]) (by decide) rfl ?_
  intro pp ee s m args below meth c s₁ B9 hml hv
  obtain ⟨rfl, hsz, hP, hK, hD0⟩ := hv
  subst hsz
  have hD := xo_lA (sz := s.heap.size) hD0
  have hS : va_S (lA x a ob s.heap.size) s.heap s.heap [] := va_S.rf
  have hx := B9.exec
  have hb := B9.bytes
  have hr := B9.returns
  have hts := atoms_spec (ws := wsL_offenderOf) B9.pre
  have hown : s.vm.findClass RL = some m.cls := findClass_of_methodNamed B9.named
  have hlocks := B9.notSynchronized
  have hl := lv_entry ([.ref x, .int (iI (k : Int)), .ref ob]) (n := 4) (Nat.le_of_ble_eq_true rfl)
  rw [lg_entry_eq]
  generalize (lg_sl ([.ref x, .int (iI (k : Int)), .ref ob]) ++ List.replicate (4 - (lg_sl ([.ref x, .int (iI (k : Int)), .ref ob])).length) Slot.unset).toArray = ls at hl ⊢
  have hl : lv_has ls 4 [(0, .ref x), (1, .int (iI (k : Int))), (2, .ref ob)] := hl
  have hIn := hI.n
  refine lv_aload_n hx hb dL_offenderOf_0 rfl (lv_at hl 2 rfl) ?_
  refine lv_iconst (v := iI 0) hx hb dL_offenderOf_1 rfl ?_
  refine lv_aload_n hx hb dL_offenderOf_2 rfl (lv_at hl 0 rfl) ?_
  refine lv_iload_n hx hb dL_offenderOf_3 rfl (lv_at hl 1 rfl) ?_
  refine zc_i (va_runV (As := [.int (iI (k : Int))]) (rest := [.int (iI 0), .ref ob]) ⟨hx, hb, hml, hown, hts⟩ (c_X0_offenderOf l G x a B σ k hI hk) (cwV 1 hts gL_offenderOf_X0_offenderOf rfl rfl rfl (by decide +kernel) ⟨Nat.le_of_ble_eq_true rfl, Nat.le_of_ble_eq_true rfl⟩) (preVX hK (va_Pl hP)) rfl rfl hl.1 rfl (lv_room (Nat.le_of_ble_eq_true rfl)) dL_offenderOf_4 ⟨Nat.le_of_ble_eq_true rfl, Nat.le_of_ble_eq_true rfl⟩) ?_
  refine lv_i2l (v := (iI (σ.2 2 k)).toInt64) hx hb dL_offenderOf_7 rfl ?_
  refine z_last (v' := (iI (σ.2 2 k)).toInt64) hx hb hK hP hD hS dL_offenderOf_8 (fun H locs hP hD hS => ?_)
  refine lv_goto (tgt := 15) hx hb dL_offenderOf_9 (by decide) ?_
  refine lv_iconst (v := iI 0) hx hb dL_offenderOf_15 rfl ?_
  exact W.iret hx hb hr (fun t ht hW => ⟨⟨_, (), rfl, rfl, by show va_P _ _ _ t.heap; rw [ht]; exact hP⟩, hS.F ht⟩) hS.2.2 dL_offenderOf_16
set_option maxHeartbeats 4000000 in
set_option maxRecDepth 100000 in
theorem w_L_offendedOf (l : Launch) (G : zG) (x : Nat) (a : Nat → Nat) (ob : Nat) (sz : Nat) (v : Int64) (B : Nat) (σ : zS) (k : Nat) (hI : zI B σ) (hk : k < σ.1 1) : Met l yL_offendedOf wsL_offendedOf ({ frames := 2, cells := 0, slots := 0, locals := 42 } : Room) (va_Pc [.ref x, .int (iI (k : Int)), .ref ob] (wL G x a ob σ v sz)) (va_Qi (fun r (_ : Unit) => r = iI 0) (fun _ t9 => va_P G.1 vwCl (xW G x a σ ++ [oW G ob (iI (σ.2 3 k)).toInt64]) t9.heap) (lA x a ob sz)) 0 0 (lA x a ob sz) := by
  refine va_MetW (cc := cL_offendedOf) (maxL := 4) (ret := (some .int)) (hh := [(0, 9, 12, 21)]) (by decide) rfl ?_
  intro pp ee s m args below meth c s₁ B9 hml hv
  obtain ⟨rfl, hsz, hP, hK, hD0⟩ := hv
  subst hsz
  have hD := xo_lA (sz := s.heap.size) hD0
  have hS : va_S (lA x a ob s.heap.size) s.heap s.heap [] := va_S.rf
  have hx := B9.exec
  have hb := B9.bytes
  have hr := B9.returns
  have hts := atoms_spec (ws := wsL_offendedOf) B9.pre
  have hown : s.vm.findClass RL = some m.cls := findClass_of_methodNamed B9.named
  have hlocks := B9.notSynchronized
  have hl := lv_entry ([.ref x, .int (iI (k : Int)), .ref ob]) (n := 4) (Nat.le_of_ble_eq_true rfl)
  rw [lg_entry_eq]
  generalize (lg_sl ([.ref x, .int (iI (k : Int)), .ref ob]) ++ List.replicate (4 - (lg_sl ([.ref x, .int (iI (k : Int)), .ref ob])).length) Slot.unset).toArray = ls at hl ⊢
  have hl : lv_has ls 4 [(0, .ref x), (1, .int (iI (k : Int))), (2, .ref ob)] := hl
  have hIn := hI.n
  refine lv_aload_n hx hb dL_offendedOf_0 rfl (lv_at hl 2 rfl) ?_
  refine lv_iconst (v := iI 0) hx hb dL_offendedOf_1 rfl ?_
  refine lv_aload_n hx hb dL_offendedOf_2 rfl (lv_at hl 0 rfl) ?_
  refine lv_iload_n hx hb dL_offendedOf_3 rfl (lv_at hl 1 rfl) ?_
  refine zc_i (va_runV (As := [.int (iI (k : Int))]) (rest := [.int (iI 0), .ref ob]) ⟨hx, hb, hml, hown, hts⟩ (c_X0_offendedOf l G x a B σ k hI hk) (cwV 1 hts gL_offendedOf_X0_offendedOf rfl rfl rfl (by decide +kernel) ⟨Nat.le_of_ble_eq_true rfl, Nat.le_of_ble_eq_true rfl⟩) (preVX hK (va_Pl hP)) rfl rfl hl.1 rfl (lv_room (Nat.le_of_ble_eq_true rfl)) dL_offendedOf_4 ⟨Nat.le_of_ble_eq_true rfl, Nat.le_of_ble_eq_true rfl⟩) ?_
  refine lv_i2l (v := (iI (σ.2 3 k)).toInt64) hx hb dL_offendedOf_7 rfl ?_
  refine z_last (v' := (iI (σ.2 3 k)).toInt64) hx hb hK hP hD hS dL_offendedOf_8 (fun H locs hP hD hS => ?_)
  refine lv_goto (tgt := 15) hx hb dL_offendedOf_9 (by decide) ?_
  refine lv_iconst (v := iI 0) hx hb dL_offendedOf_15 rfl ?_
  exact W.iret hx hb hr (fun t ht hW => ⟨⟨_, (), rfl, rfl, by show va_P _ _ _ t.heap; rw [ht]; exact hP⟩, hS.F ht⟩) hS.2.2 dL_offendedOf_16
set_option maxHeartbeats 4000000 in
set_option maxRecDepth 100000 in
theorem w_L_weightOf (l : Launch) (G : zG) (x : Nat) (a : Nat → Nat) (ob : Nat) (sz : Nat) (v : Int64) (B : Nat) (σ : zS) (k : Nat) (hI : zI B σ) (hk : k < σ.1 1) : Met l yL_weightOf wsL_weightOf ({ frames := 2, cells := 0, slots := 0, locals := 42 } : Room) (va_Pc [.ref x, .int (iI (k : Int)), .ref ob] (wL G x a ob σ v sz)) (va_Qi (fun r (_ : Unit) => r = iI 0) (fun _ t9 => va_P G.1 vwCl (xW G x a σ ++ [oW G ob (iI (σ.2 4 k)).toInt64]) t9.heap) (lA x a ob sz)) 0 0 (lA x a ob sz) := by
  refine va_MetW (cc := cL_weightOf) (maxL := 4) (ret := (some .int)) (hh := [(0, 9, 12, 21)]) (by decide) rfl ?_
  intro pp ee s m args below meth c s₁ B9 hml hv
  obtain ⟨rfl, hsz, hP, hK, hD0⟩ := hv
  subst hsz
  have hD := xo_lA (sz := s.heap.size) hD0
  have hS : va_S (lA x a ob s.heap.size) s.heap s.heap [] := va_S.rf
  have hx := B9.exec
  have hb := B9.bytes
  have hr := B9.returns
  have hts := atoms_spec (ws := wsL_weightOf) B9.pre
  have hown : s.vm.findClass RL = some m.cls := findClass_of_methodNamed B9.named
  have hlocks := B9.notSynchronized
  have hl := lv_entry ([.ref x, .int (iI (k : Int)), .ref ob]) (n := 4) (Nat.le_of_ble_eq_true rfl)
  rw [lg_entry_eq]
  generalize (lg_sl ([.ref x, .int (iI (k : Int)), .ref ob]) ++ List.replicate (4 - (lg_sl ([.ref x, .int (iI (k : Int)), .ref ob])).length) Slot.unset).toArray = ls at hl ⊢
  have hl : lv_has ls 4 [(0, .ref x), (1, .int (iI (k : Int))), (2, .ref ob)] := hl
  have hIn := hI.n
  refine lv_aload_n hx hb dL_weightOf_0 rfl (lv_at hl 2 rfl) ?_
  refine lv_iconst (v := iI 0) hx hb dL_weightOf_1 rfl ?_
  refine lv_aload_n hx hb dL_weightOf_2 rfl (lv_at hl 0 rfl) ?_
  refine lv_iload_n hx hb dL_weightOf_3 rfl (lv_at hl 1 rfl) ?_
  refine zc_i (va_runV (As := [.int (iI (k : Int))]) (rest := [.int (iI 0), .ref ob]) ⟨hx, hb, hml, hown, hts⟩ (c_X0_weightOf l G x a B σ k hI hk) (cwV 1 hts gL_weightOf_X0_weightOf rfl rfl rfl (by decide +kernel) ⟨Nat.le_of_ble_eq_true rfl, Nat.le_of_ble_eq_true rfl⟩) (preVX hK (va_Pl hP)) rfl rfl hl.1 rfl (lv_room (Nat.le_of_ble_eq_true rfl)) dL_weightOf_4 ⟨Nat.le_of_ble_eq_true rfl, Nat.le_of_ble_eq_true rfl⟩) ?_
  refine lv_i2l (v := (iI (σ.2 4 k)).toInt64) hx hb dL_weightOf_7 rfl ?_
  refine z_last (v' := (iI (σ.2 4 k)).toInt64) hx hb hK hP hD hS dL_weightOf_8 (fun H locs hP hD hS => ?_)
  refine lv_goto (tgt := 15) hx hb dL_weightOf_9 (by decide) ?_
  refine lv_iconst (v := iI 0) hx hb dL_weightOf_15 rfl ?_
  exact W.iret hx hb hr (fun t ht hW => ⟨⟨_, (), rfl, rfl, by show va_P _ _ _ t.heap; rw [ht]; exact hP⟩, hS.F ht⟩) hS.2.2 dL_weightOf_16
set_option maxHeartbeats 4000000 in
set_option maxRecDepth 100000 in
theorem w_L_stateOf (l : Launch) (G : zG) (x : Nat) (a : Nat → Nat) (ob : Nat) (sz : Nat) (v : Int64) (B : Nat) (σ : zS) (k : Nat) (hI : zI B σ) (hk : k < σ.1 1) : Met l yL_stateOf wsL_stateOf ({ frames := 2, cells := 0, slots := 0, locals := 42 } : Room) (va_Pc [.ref x, .int (iI (k : Int)), .ref ob] (wL G x a ob σ v sz)) (va_Qi (fun r (_ : Unit) => r = iI 0) (fun _ t9 => va_P G.1 vwCl (xW G x a σ ++ [oW G ob (iI (σ.2 5 k)).toInt64]) t9.heap) (lA x a ob sz)) 0 0 (lA x a ob sz) := by
  refine va_MetW (cc := cL_stateOf) (maxL := 4) (ret := (some .int)) (hh := [(0, 9, 12, 21)]) (by decide) rfl ?_
  intro pp ee s m args below meth c s₁ B9 hml hv
  obtain ⟨rfl, hsz, hP, hK, hD0⟩ := hv
  subst hsz
  have hD := xo_lA (sz := s.heap.size) hD0
  have hS : va_S (lA x a ob s.heap.size) s.heap s.heap [] := va_S.rf
  have hx := B9.exec
  have hb := B9.bytes
  have hr := B9.returns
  have hts := atoms_spec (ws := wsL_stateOf) B9.pre
  have hown : s.vm.findClass RL = some m.cls := findClass_of_methodNamed B9.named
  have hlocks := B9.notSynchronized
  have hl := lv_entry ([.ref x, .int (iI (k : Int)), .ref ob]) (n := 4) (Nat.le_of_ble_eq_true rfl)
  rw [lg_entry_eq]
  generalize (lg_sl ([.ref x, .int (iI (k : Int)), .ref ob]) ++ List.replicate (4 - (lg_sl ([.ref x, .int (iI (k : Int)), .ref ob])).length) Slot.unset).toArray = ls at hl ⊢
  have hl : lv_has ls 4 [(0, .ref x), (1, .int (iI (k : Int))), (2, .ref ob)] := hl
  have hIn := hI.n
  refine lv_aload_n hx hb dL_stateOf_0 rfl (lv_at hl 2 rfl) ?_
  refine lv_iconst (v := iI 0) hx hb dL_stateOf_1 rfl ?_
  refine lv_aload_n hx hb dL_stateOf_2 rfl (lv_at hl 0 rfl) ?_
  refine lv_iload_n hx hb dL_stateOf_3 rfl (lv_at hl 1 rfl) ?_
  refine zc_i (va_runV (As := [.int (iI (k : Int))]) (rest := [.int (iI 0), .ref ob]) ⟨hx, hb, hml, hown, hts⟩ (c_X0_stateOf l G x a B σ k hI hk) (cwV 1 hts gL_stateOf_X0_stateOf rfl rfl rfl (by decide +kernel) ⟨Nat.le_of_ble_eq_true rfl, Nat.le_of_ble_eq_true rfl⟩) (preVX hK (va_Pl hP)) rfl rfl hl.1 rfl (lv_room (Nat.le_of_ble_eq_true rfl)) dL_stateOf_4 ⟨Nat.le_of_ble_eq_true rfl, Nat.le_of_ble_eq_true rfl⟩) ?_
  refine lv_i2l (v := (iI (σ.2 5 k)).toInt64) hx hb dL_stateOf_7 rfl ?_
  refine z_last (v' := (iI (σ.2 5 k)).toInt64) hx hb hK hP hD hS dL_stateOf_8 (fun H locs hP hD hS => ?_)
  refine lv_goto (tgt := 15) hx hb dL_stateOf_9 (by decide) ?_
  refine lv_iconst (v := iI 0) hx hb dL_stateOf_15 rfl ?_
  exact W.iret hx hb hr (fun t ht hW => ⟨⟨_, (), rfl, rfl, by show va_P _ _ _ t.heap; rw [ht]; exact hP⟩, hS.F ht⟩) hS.2.2 dL_stateOf_16
set_option maxHeartbeats 4000000 in
set_option maxRecDepth 100000 in
theorem w_L_borneFor (l : Launch) (G : zG) (x : Nat) (a : Nat → Nat) (ob : Nat) (sz : Nat) (v : Int64) (B : Nat) (σ : zS) (k : Nat) (hI : zI B σ) (hk : k < σ.1 1) : Met l yL_borneFor wsL_borneFor ({ frames := 2, cells := 0, slots := 0, locals := 42 } : Room) (va_Pc [.ref x, .int (iI (k : Int)), .ref ob] (wL G x a ob σ v sz)) (va_Qi (fun r (_ : Unit) => r = iI 0) (fun _ t9 => va_P G.1 vwCl (xW G x a σ ++ [oW G ob (iI (σ.2 6 k)).toInt64]) t9.heap) (lA x a ob sz)) 0 0 (lA x a ob sz) := by
  refine va_MetW (cc := cL_borneFor) (maxL := 4) (ret := (some .int)) (hh := [(0, 9, 12, 21)]) (by decide) rfl ?_
  intro pp ee s m args below meth c s₁ B9 hml hv
  obtain ⟨rfl, hsz, hP, hK, hD0⟩ := hv
  subst hsz
  have hD := xo_lA (sz := s.heap.size) hD0
  have hS : va_S (lA x a ob s.heap.size) s.heap s.heap [] := va_S.rf
  have hx := B9.exec
  have hb := B9.bytes
  have hr := B9.returns
  have hts := atoms_spec (ws := wsL_borneFor) B9.pre
  have hown : s.vm.findClass RL = some m.cls := findClass_of_methodNamed B9.named
  have hlocks := B9.notSynchronized
  have hl := lv_entry ([.ref x, .int (iI (k : Int)), .ref ob]) (n := 4) (Nat.le_of_ble_eq_true rfl)
  rw [lg_entry_eq]
  generalize (lg_sl ([.ref x, .int (iI (k : Int)), .ref ob]) ++ List.replicate (4 - (lg_sl ([.ref x, .int (iI (k : Int)), .ref ob])).length) Slot.unset).toArray = ls at hl ⊢
  have hl : lv_has ls 4 [(0, .ref x), (1, .int (iI (k : Int))), (2, .ref ob)] := hl
  have hIn := hI.n
  refine lv_aload_n hx hb dL_borneFor_0 rfl (lv_at hl 2 rfl) ?_
  refine lv_iconst (v := iI 0) hx hb dL_borneFor_1 rfl ?_
  refine lv_aload_n hx hb dL_borneFor_2 rfl (lv_at hl 0 rfl) ?_
  refine lv_iload_n hx hb dL_borneFor_3 rfl (lv_at hl 1 rfl) ?_
  refine zc_i (va_runV (As := [.int (iI (k : Int))]) (rest := [.int (iI 0), .ref ob]) ⟨hx, hb, hml, hown, hts⟩ (c_X0_borneFor l G x a B σ k hI hk) (cwV 1 hts gL_borneFor_X0_borneFor rfl rfl rfl (by decide +kernel) ⟨Nat.le_of_ble_eq_true rfl, Nat.le_of_ble_eq_true rfl⟩) (preVX hK (va_Pl hP)) rfl rfl hl.1 rfl (lv_room (Nat.le_of_ble_eq_true rfl)) dL_borneFor_4 ⟨Nat.le_of_ble_eq_true rfl, Nat.le_of_ble_eq_true rfl⟩) ?_
  refine lv_i2l (v := (iI (σ.2 6 k)).toInt64) hx hb dL_borneFor_7 rfl ?_
  refine z_last (v' := (iI (σ.2 6 k)).toInt64) hx hb hK hP hD hS dL_borneFor_8 (fun H locs hP hD hS => ?_)
  refine lv_goto (tgt := 15) hx hb dL_borneFor_9 (by decide) ?_
  refine lv_iconst (v := iI 0) hx hb dL_borneFor_15 rfl ?_
  exact W.iret hx hb hr (fun t ht hW => ⟨⟨_, (), rfl, rfl, by show va_P _ _ _ t.heap; rw [ht]; exact hP⟩, hS.F ht⟩) hS.2.2 dL_borneFor_16
set_option maxHeartbeats 4000000 in
set_option maxRecDepth 100000 in
theorem w_L_quietFor (l : Launch) (G : zG) (x : Nat) (a : Nat → Nat) (ob : Nat) (sz : Nat) (v : Int64) (B : Nat) (σ : zS) (k : Nat) (hI : zI B σ) (hk : k < σ.1 1) : Met l yL_quietFor wsL_quietFor ({ frames := 2, cells := 0, slots := 0, locals := 42 } : Room) (va_Pc [.ref x, .int (iI (k : Int)), .ref ob] (wL G x a ob σ v sz)) (va_Qi (fun r (_ : Unit) => r = iI 0) (fun _ t9 => va_P G.1 vwCl (xW G x a σ ++ [oW G ob (iI (σ.2 7 k)).toInt64]) t9.heap) (lA x a ob sz)) 0 0 (lA x a ob sz) := by
  refine va_MetW (cc := cL_quietFor) (maxL := 4) (ret := (some .int)) (hh := [(0, 9, 12, 21)]) (by decide) rfl ?_
  intro pp ee s m args below meth c s₁ B9 hml hv
  obtain ⟨rfl, hsz, hP, hK, hD0⟩ := hv
  subst hsz
  have hD := xo_lA (sz := s.heap.size) hD0
  have hS : va_S (lA x a ob s.heap.size) s.heap s.heap [] := va_S.rf
  have hx := B9.exec
  have hb := B9.bytes
  have hr := B9.returns
  have hts := atoms_spec (ws := wsL_quietFor) B9.pre
  have hown : s.vm.findClass RL = some m.cls := findClass_of_methodNamed B9.named
  have hlocks := B9.notSynchronized
  have hl := lv_entry ([.ref x, .int (iI (k : Int)), .ref ob]) (n := 4) (Nat.le_of_ble_eq_true rfl)
  rw [lg_entry_eq]
  generalize (lg_sl ([.ref x, .int (iI (k : Int)), .ref ob]) ++ List.replicate (4 - (lg_sl ([.ref x, .int (iI (k : Int)), .ref ob])).length) Slot.unset).toArray = ls at hl ⊢
  have hl : lv_has ls 4 [(0, .ref x), (1, .int (iI (k : Int))), (2, .ref ob)] := hl
  have hIn := hI.n
  refine lv_aload_n hx hb dL_quietFor_0 rfl (lv_at hl 2 rfl) ?_
  refine lv_iconst (v := iI 0) hx hb dL_quietFor_1 rfl ?_
  refine lv_aload_n hx hb dL_quietFor_2 rfl (lv_at hl 0 rfl) ?_
  refine lv_iload_n hx hb dL_quietFor_3 rfl (lv_at hl 1 rfl) ?_
  refine zc_i (va_runV (As := [.int (iI (k : Int))]) (rest := [.int (iI 0), .ref ob]) ⟨hx, hb, hml, hown, hts⟩ (c_X0_quietFor l G x a B σ k hI hk) (cwV 1 hts gL_quietFor_X0_quietFor rfl rfl rfl (by decide +kernel) ⟨Nat.le_of_ble_eq_true rfl, Nat.le_of_ble_eq_true rfl⟩) (preVX hK (va_Pl hP)) rfl rfl hl.1 rfl (lv_room (Nat.le_of_ble_eq_true rfl)) dL_quietFor_4 ⟨Nat.le_of_ble_eq_true rfl, Nat.le_of_ble_eq_true rfl⟩) ?_
  refine lv_i2l (v := (iI (σ.2 7 k)).toInt64) hx hb dL_quietFor_7 rfl ?_
  refine z_last (v' := (iI (σ.2 7 k)).toInt64) hx hb hK hP hD hS dL_quietFor_8 (fun H locs hP hD hS => ?_)
  refine lv_goto (tgt := 15) hx hb dL_quietFor_9 (by decide) ?_
  refine lv_iconst (v := iI 0) hx hb dL_quietFor_15 rfl ?_
  exact W.iret hx hb hr (fun t ht hW => ⟨⟨_, (), rfl, rfl, by show va_P _ _ _ t.heap; rw [ht]; exact hP⟩, hS.F ht⟩) hS.2.2 dL_quietFor_16
set_option maxHeartbeats 4000000 in
set_option maxRecDepth 100000 in
theorem w_L_witnessesFor (l : Launch) (G : zG) (x : Nat) (a : Nat → Nat) (ob : Nat) (sz : Nat) (v : Int64) (B : Nat) (σ : zS) (k : Nat) (hI : zI B σ) (hk : k < σ.1 1) : Met l yL_witnessesFor wsL_witnessesFor ({ frames := 2, cells := 0, slots := 0, locals := 44 } : Room) (va_Pc [.ref x, .int (iI (k : Int)), .ref ob] (wL G x a ob σ v sz)) (va_Qi (fun r (_ : Unit) => r = iI 0) (fun _ t9 => va_P G.1 vwCl (xW G x a σ ++ [oW G ob (iI (wit σ k)).toInt64]) t9.heap) (lA x a ob sz)) 0 0 (lA x a ob sz) := by
  refine va_MetW (cc := cL_witnessesFor) (maxL := 4) (ret := (some .int)) (hh := [(0, 9, 12, 21)]) (by decide) rfl ?_
  intro pp ee s m args below meth c s₁ B9 hml hv
  obtain ⟨rfl, hsz, hP, hK, hD0⟩ := hv
  subst hsz
  have hD := xo_lA (sz := s.heap.size) hD0
  have hS : va_S (lA x a ob s.heap.size) s.heap s.heap [] := va_S.rf
  have hx := B9.exec
  have hb := B9.bytes
  have hr := B9.returns
  have hts := atoms_spec (ws := wsL_witnessesFor) B9.pre
  have hown : s.vm.findClass RL = some m.cls := findClass_of_methodNamed B9.named
  have hlocks := B9.notSynchronized
  have hl := lv_entry ([.ref x, .int (iI (k : Int)), .ref ob]) (n := 4) (Nat.le_of_ble_eq_true rfl)
  rw [lg_entry_eq]
  generalize (lg_sl ([.ref x, .int (iI (k : Int)), .ref ob]) ++ List.replicate (4 - (lg_sl ([.ref x, .int (iI (k : Int)), .ref ob])).length) Slot.unset).toArray = ls at hl ⊢
  have hl : lv_has ls 4 [(0, .ref x), (1, .int (iI (k : Int))), (2, .ref ob)] := hl
  have hIn := hI.n
  refine lv_aload_n hx hb dL_witnessesFor_0 rfl (lv_at hl 2 rfl) ?_
  refine lv_iconst (v := iI 0) hx hb dL_witnessesFor_1 rfl ?_
  refine lv_aload_n hx hb dL_witnessesFor_2 rfl (lv_at hl 0 rfl) ?_
  refine lv_iload_n hx hb dL_witnessesFor_3 rfl (lv_at hl 1 rfl) ?_
  refine zc_i (va_runV (As := [.int (iI (k : Int))]) (rest := [.int (iI 0), .ref ob]) ⟨hx, hb, hml, hown, hts⟩ (c_X0_witnessesFor l G x a B σ k hI hk) (cwV 1 hts gL_witnessesFor_X0_witnessesFor rfl rfl rfl (by decide +kernel) ⟨Nat.le_of_ble_eq_true rfl, Nat.le_of_ble_eq_true rfl⟩) (preVX hK (va_Pl hP)) rfl rfl hl.1 rfl (lv_room (Nat.le_of_ble_eq_true rfl)) dL_witnessesFor_4 ⟨Nat.le_of_ble_eq_true rfl, Nat.le_of_ble_eq_true rfl⟩) ?_
  refine lv_i2l (v := (iI (wit σ k)).toInt64) hx hb dL_witnessesFor_7 rfl ?_
  refine z_last (v' := (iI (wit σ k)).toInt64) hx hb hK hP hD hS dL_witnessesFor_8 (fun H locs hP hD hS => ?_)
  refine lv_goto (tgt := 15) hx hb dL_witnessesFor_9 (by decide) ?_
  refine lv_iconst (v := iI 0) hx hb dL_witnessesFor_15 rfl ?_
  exact W.iret hx hb hr (fun t ht hW => ⟨⟨_, (), rfl, rfl, by show va_P _ _ _ t.heap; rw [ht]; exact hP⟩, hS.F ht⟩) hS.2.2 dL_witnessesFor_16
set_option maxHeartbeats 4000000 in
set_option maxRecDepth 100000 in
theorem w_L_inState (l : Launch) (G : zG) (x : Nat) (a : Nat → Nat) (ob : Nat) (sz : Nat) (v : Int64) (B : Nat) (σ : zS) (z : Int) (hI : zI B σ) (hz : 0 ≤ z ∧ z ≤ 3) : Met l yL_inState wsL_inState ({ frames := 1, cells := 0, slots := 0, locals := 23 } : Room) (va_Pc [.ref x, .int (iI z), .ref ob] (wL G x a ob σ v sz)) (va_Qi (fun r (_ : Unit) => r = iI 0) (fun _ t9 => va_P G.1 vwCl (xW G x a σ ++ [oW G ob (iI (cnt σ z)).toInt64]) t9.heap) (lA x a ob sz)) 0 0 (lA x a ob sz) := by
  refine va_MetW (cc := cL_inState) (maxL := 4) (ret := (some .int)) (hh := [(0, 9, 12, 13)]) (by decide) rfl ?_
  intro pp ee s m args below meth c s₁ B9 hml hv
  obtain ⟨rfl, hsz, hP, hK, hD0⟩ := hv
  subst hsz
  have hD := xo_lA (sz := s.heap.size) hD0
  have hS : va_S (lA x a ob s.heap.size) s.heap s.heap [] := va_S.rf
  have hx := B9.exec
  have hb := B9.bytes
  have hr := B9.returns
  have hts := atoms_spec (ws := wsL_inState) B9.pre
  have hown : s.vm.findClass RL = some m.cls := findClass_of_methodNamed B9.named
  have hlocks := B9.notSynchronized
  have hl := lv_entry ([.ref x, .int (iI z), .ref ob]) (n := 4) (Nat.le_of_ble_eq_true rfl)
  rw [lg_entry_eq]
  generalize (lg_sl ([.ref x, .int (iI z), .ref ob]) ++ List.replicate (4 - (lg_sl ([.ref x, .int (iI z), .ref ob])).length) Slot.unset).toArray = ls at hl ⊢
  have hl : lv_has ls 4 [(0, .ref x), (1, .int (iI z)), (2, .ref ob)] := hl
  have hIn := hI.n
  refine lv_aload_n hx hb dL_inState_0 rfl (lv_at hl 2 rfl) ?_
  refine lv_iconst (v := iI 0) hx hb dL_inState_1 rfl ?_
  refine lv_aload_n hx hb dL_inState_2 rfl (lv_at hl 0 rfl) ?_
  refine lv_iload_n hx hb dL_inState_3 rfl (lv_at hl 1 rfl) ?_
  refine zc_i (va_runV (As := [.int (iI z)]) (rest := [.int (iI 0), .ref ob]) ⟨hx, hb, hml, hown, hts⟩ (c_X0_inState l G x a B σ z hI hz) (cwV 1 hts gL_inState_X0_inState rfl rfl rfl (by decide +kernel) ⟨Nat.le_of_ble_eq_true rfl, Nat.le_of_ble_eq_true rfl⟩) (preVX hK (va_Pl hP)) rfl rfl hl.1 rfl (lv_room (Nat.le_of_ble_eq_true rfl)) dL_inState_4 ⟨Nat.le_of_ble_eq_true rfl, Nat.le_of_ble_eq_true rfl⟩) ?_
  refine lv_i2l (v := (iI (cnt σ z)).toInt64) hx hb dL_inState_7 rfl ?_
  refine z_last (v' := (iI (cnt σ z)).toInt64) hx hb hK hP hD hS dL_inState_8 (fun H locs hP hD hS => ?_)
  refine lv_goto (tgt := 15) hx hb dL_inState_9 (by decide) ?_
  refine lv_iconst (v := iI 0) hx hb dL_inState_15 rfl ?_
  exact W.iret hx hb hr (fun t ht hW => ⟨⟨_, (), rfl, rfl, by show va_P _ _ _ t.heap; rw [ht]; exact hP⟩, hS.F ht⟩) hS.2.2 dL_inState_16
set_option maxHeartbeats 4000000 in
set_option maxRecDepth 100000 in
theorem w_L_wordsWanted (l : Launch) (G : zG) (x : Nat) (a : Nat → Nat) (ob : Nat) (sz : Nat) (v : Int64) (B : Nat) (σ : zS) (k : Nat) (hI : zI B σ) (hk : k < σ.1 1) : Met l yL_wordsWanted wsL_wordsWanted ({ frames := 4, cells := 0, slots := 0, locals := 89 } : Room) (va_Pc [.ref x, .int (iI (k : Int)), .ref ob] (wL G x a ob σ v sz)) (va_Qi (fun r (_ : Unit) => r = iI 0) (fun _ t9 => va_P G.1 vwCl (xW G x a σ ++ [oW G ob (iI (wan σ k)).toInt64]) t9.heap) (lA x a ob sz)) 0 0 (lA x a ob sz) := by
  refine va_MetW (cc := cL_wordsWanted) (maxL := 4) (ret := (some .int)) (hh := [(0, 9, 12, 21)]) (by decide) rfl ?_
  intro pp ee s m args below meth c s₁ B9 hml hv
  obtain ⟨rfl, hsz, hP, hK, hD0⟩ := hv
  subst hsz
  have hD := xo_lA (sz := s.heap.size) hD0
  have hS : va_S (lA x a ob s.heap.size) s.heap s.heap [] := va_S.rf
  have hx := B9.exec
  have hb := B9.bytes
  have hr := B9.returns
  have hts := atoms_spec (ws := wsL_wordsWanted) B9.pre
  have hown : s.vm.findClass RL = some m.cls := findClass_of_methodNamed B9.named
  have hlocks := B9.notSynchronized
  have hl := lv_entry ([.ref x, .int (iI (k : Int)), .ref ob]) (n := 4) (Nat.le_of_ble_eq_true rfl)
  rw [lg_entry_eq]
  generalize (lg_sl ([.ref x, .int (iI (k : Int)), .ref ob]) ++ List.replicate (4 - (lg_sl ([.ref x, .int (iI (k : Int)), .ref ob])).length) Slot.unset).toArray = ls at hl ⊢
  have hl : lv_has ls 4 [(0, .ref x), (1, .int (iI (k : Int))), (2, .ref ob)] := hl
  have hIn := hI.n
  refine lv_aload_n hx hb dL_wordsWanted_0 rfl (lv_at hl 2 rfl) ?_
  refine lv_iconst (v := iI 0) hx hb dL_wordsWanted_1 rfl ?_
  refine lv_aload_n hx hb dL_wordsWanted_2 rfl (lv_at hl 0 rfl) ?_
  refine lv_iload_n hx hb dL_wordsWanted_3 rfl (lv_at hl 1 rfl) ?_
  refine zc_i (va_runV (As := [.int (iI (k : Int))]) (rest := [.int (iI 0), .ref ob]) ⟨hx, hb, hml, hown, hts⟩ (c_X0_wordsWanted l G x a B σ k hI hk) (cwV 1 hts gL_wordsWanted_X0_wordsWanted rfl rfl rfl (by decide +kernel) ⟨Nat.le_of_ble_eq_true rfl, Nat.le_of_ble_eq_true rfl⟩) (preVX hK (va_Pl hP)) rfl rfl hl.1 rfl (lv_room (Nat.le_of_ble_eq_true rfl)) dL_wordsWanted_4 ⟨Nat.le_of_ble_eq_true rfl, Nat.le_of_ble_eq_true rfl⟩) ?_
  refine lv_i2l (v := (iI (wan σ k)).toInt64) hx hb dL_wordsWanted_7 rfl ?_
  refine z_last (v' := (iI (wan σ k)).toInt64) hx hb hK hP hD hS dL_wordsWanted_8 (fun H locs hP hD hS => ?_)
  refine lv_goto (tgt := 15) hx hb dL_wordsWanted_9 (by decide) ?_
  refine lv_iconst (v := iI 0) hx hb dL_wordsWanted_15 rfl ?_
  exact W.iret hx hb hr (fun t ht hW => ⟨⟨_, (), rfl, rfl, by show va_P _ _ _ t.heap; rw [ht]; exact hP⟩, hS.F ht⟩) hS.2.2 dL_wordsWanted_16
set_option maxHeartbeats 4000000 in
set_option maxRecDepth 100000 in
theorem w_L_wouldBeScorned (l : Launch) (G : zG) (x : Nat) (a : Nat → Nat) (ob : Nat) (sz : Nat) (v : Int64) (B : Nat) (σ : zS) (k : Nat) (w : Int) (hI : zI B σ) (hk : k < σ.1 1) (hw : 1 ≤ w ∧ w ≤ 20) : Met l yL_wouldBeScorned wsL_wouldBeScorned ({ frames := 4, cells := 0, slots := 0, locals := 88 } : Room) (va_Pc [.ref x, .int (iI (k : Int)), .int (iI w), .ref ob] (wL G x a ob σ v sz)) (va_Qi (fun r (_ : Unit) => r = iI 0) (fun _ t9 => va_P G.1 vwCl (xW G x a σ ++ [oW G ob (iI (wbs σ k w)).toInt64]) t9.heap) (lA x a ob sz)) 0 0 (lA x a ob sz) := by
  refine va_MetW (cc := cL_wouldBeScorned) (maxL := 5) (ret := (some .int)) (hh := [(0, 17, 20, 21), (0, 17, 24, 13)]) (by decide) rfl ?_
  intro pp ee s m args below meth c s₁ B9 hml hv
  obtain ⟨rfl, hsz, hP, hK, hD0⟩ := hv
  subst hsz
  have hD := xo_lA (sz := s.heap.size) hD0
  have hS : va_S (lA x a ob s.heap.size) s.heap s.heap [] := va_S.rf
  have hx := B9.exec
  have hb := B9.bytes
  have hr := B9.returns
  have hts := atoms_spec (ws := wsL_wouldBeScorned) B9.pre
  have hown : s.vm.findClass RL = some m.cls := findClass_of_methodNamed B9.named
  have hlocks := B9.notSynchronized
  have hl := lv_entry ([.ref x, .int (iI (k : Int)), .int (iI w), .ref ob]) (n := 5) (Nat.le_of_ble_eq_true rfl)
  rw [lg_entry_eq]
  generalize (lg_sl ([.ref x, .int (iI (k : Int)), .int (iI w), .ref ob]) ++ List.replicate (5 - (lg_sl ([.ref x, .int (iI (k : Int)), .int (iI w), .ref ob])).length) Slot.unset).toArray = ls at hl ⊢
  have hl : lv_has ls 5 [(0, .ref x), (1, .int (iI (k : Int))), (2, .int (iI w)), (3, .ref ob)] := hl
  have hIn := hI.n
  refine lv_aload_n hx hb dL_wouldBeScorned_0 rfl (lv_at hl 3 rfl) ?_
  refine lv_iconst (v := iI 0) hx hb dL_wouldBeScorned_1 rfl ?_
  refine lv_aload_n hx hb dL_wouldBeScorned_2 rfl (lv_at hl 0 rfl) ?_
  refine lv_iload_n hx hb dL_wouldBeScorned_3 rfl (lv_at hl 1 rfl) ?_
  refine lv_iload_n hx hb dL_wouldBeScorned_4 rfl (lv_at hl 2 rfl) ?_
  refine zc_i (va_runV (As := [.int (iI (k : Int)), .int (iI w)]) (rest := [.int (iI 0), .ref ob]) ⟨hx, hb, hml, hown, hts⟩ (c_X0_wouldBeScorned l G x a B σ k w hI hk hw) (cwV 2 hts gL_wouldBeScorned_X0_wouldBeScorned rfl rfl rfl (by decide +kernel) ⟨Nat.le_of_ble_eq_true rfl, Nat.le_of_ble_eq_true rfl⟩) (preVX hK (va_Pl hP)) rfl rfl hl.1 rfl (lv_room (Nat.le_of_ble_eq_true rfl)) dL_wouldBeScorned_5 ⟨Nat.le_of_ble_eq_true rfl, Nat.le_of_ble_eq_true rfl⟩) ?_
  have hbd : (wbs σ k w) = 0 ∨ (wbs σ k w) = 1 := by exact wbs_or σ k w
  refine z_if_eq (tgt := 15) hx hb dL_wouldBeScorned_8 (by decide) (by omega) (fun c_1 => ?_) (fun c_1 => ?_)
  ·
    refine lv_lconst (v := 0) hx hb dL_wouldBeScorned_15 rfl ?_
    refine z_last (v' := 0) hx hb hK hP hD hS dL_wouldBeScorned_16 (fun H locs hP hD hS => ?_)
    refine lv_goto (tgt := 28) hx hb dL_wouldBeScorned_17 (by decide) ?_
    refine lv_iconst (v := iI 0) hx hb dL_wouldBeScorned_28 rfl ?_
    rw [show (0 : Int64) = (iI (wbs σ k w)).toInt64 from by rw [c_1]; rfl] at hP
    exact W.iret hx hb hr (fun t ht hW => ⟨⟨_, (), rfl, rfl, by show va_P _ _ _ t.heap; rw [ht]; exact hP⟩, hS.F ht⟩) hS.2.2 dL_wouldBeScorned_29
  ·
    refine lv_lconst (v := 1) hx hb dL_wouldBeScorned_11 rfl ?_
    refine lv_goto (tgt := 16) hx hb dL_wouldBeScorned_12 (by decide) ?_
    refine z_last (v' := 1) hx hb hK hP hD hS dL_wouldBeScorned_16 (fun H locs hP hD hS => ?_)
    refine lv_goto (tgt := 28) hx hb dL_wouldBeScorned_17 (by decide) ?_
    refine lv_iconst (v := iI 0) hx hb dL_wouldBeScorned_28 rfl ?_
    rw [show (1 : Int64) = (iI (wbs σ k w)).toInt64 from by rw [show (wbs σ k w) = 1 from by omega]; rfl] at hP
    exact W.iret hx hb hr (fun t ht hW => ⟨⟨_, (), rfl, rfl, by show va_P _ _ _ t.heap; rw [ht]; exact hP⟩, hS.F ht⟩) hS.2.2 dL_wouldBeScorned_29
set_option maxHeartbeats 4000000 in
set_option maxRecDepth 100000 in
theorem w_L_weightIn (l : Launch) (G : zG) (x : Nat) (a : Nat → Nat) (ob : Nat) (sz : Nat) (v : Int64) (B : Nat) (σ : zS) (k : Nat) (d : Int) (hI : zI B σ) (hk : k < σ.1 1) (hd : 1 ≤ d ∧ d ≤ 60) : Met l yL_weightIn wsL_weightIn ({ frames := 3, cells := 0, slots := 0, locals := 69 } : Room) (va_Pc [.ref x, .int (iI (k : Int)), .int (iI d), .ref ob] (wL G x a ob σ v sz)) (va_Qi (fun r (_ : Unit) => r = iI 0) (fun _ t9 => va_P G.1 vwCl (xW G x a σ ++ [oW G ob (iI (lat σ k d)).toInt64]) t9.heap) (lA x a ob sz)) 0 0 (lA x a ob sz) := by
  refine va_MetW (cc := cL_weightIn) (maxL := 5) (ret := (some .int)) (hh := [(0, 10, 13, 21), (0, 10, 17, 13)]) (by decide) rfl ?_
  intro pp ee s m args below meth c s₁ B9 hml hv
  obtain ⟨rfl, hsz, hP, hK, hD0⟩ := hv
  subst hsz
  have hD := xo_lA (sz := s.heap.size) hD0
  have hS : va_S (lA x a ob s.heap.size) s.heap s.heap [] := va_S.rf
  have hx := B9.exec
  have hb := B9.bytes
  have hr := B9.returns
  have hts := atoms_spec (ws := wsL_weightIn) B9.pre
  have hown : s.vm.findClass RL = some m.cls := findClass_of_methodNamed B9.named
  have hlocks := B9.notSynchronized
  have hl := lv_entry ([.ref x, .int (iI (k : Int)), .int (iI d), .ref ob]) (n := 5) (Nat.le_of_ble_eq_true rfl)
  rw [lg_entry_eq]
  generalize (lg_sl ([.ref x, .int (iI (k : Int)), .int (iI d), .ref ob]) ++ List.replicate (5 - (lg_sl ([.ref x, .int (iI (k : Int)), .int (iI d), .ref ob])).length) Slot.unset).toArray = ls at hl ⊢
  have hl : lv_has ls 5 [(0, .ref x), (1, .int (iI (k : Int))), (2, .int (iI d)), (3, .ref ob)] := hl
  have hIn := hI.n
  refine lv_aload_n hx hb dL_weightIn_0 rfl (lv_at hl 3 rfl) ?_
  refine lv_iconst (v := iI 0) hx hb dL_weightIn_1 rfl ?_
  refine lv_aload_n hx hb dL_weightIn_2 rfl (lv_at hl 0 rfl) ?_
  refine lv_iload_n hx hb dL_weightIn_3 rfl (lv_at hl 1 rfl) ?_
  refine lv_iload_n hx hb dL_weightIn_4 rfl (lv_at hl 2 rfl) ?_
  refine zc_i (va_runV (As := [.int (iI (k : Int)), .int (iI d)]) (rest := [.int (iI 0), .ref ob]) ⟨hx, hb, hml, hown, hts⟩ (c_X0_weightIn l G x a B σ k d hI hk hd) (cwV 2 hts gL_weightIn_X0_weightIn rfl rfl rfl (by decide +kernel) ⟨Nat.le_of_ble_eq_true rfl, Nat.le_of_ble_eq_true rfl⟩) (preVX hK (va_Pl hP)) rfl rfl hl.1 rfl (lv_room (Nat.le_of_ble_eq_true rfl)) dL_weightIn_5 ⟨Nat.le_of_ble_eq_true rfl, Nat.le_of_ble_eq_true rfl⟩) ?_
  refine lv_i2l (v := (iI (lat σ k d)).toInt64) hx hb dL_weightIn_8 rfl ?_
  refine z_last (v' := (iI (lat σ k d)).toInt64) hx hb hK hP hD hS dL_weightIn_9 (fun H locs hP hD hS => ?_)
  refine lv_goto (tgt := 21) hx hb dL_weightIn_10 (by decide) ?_
  refine lv_iconst (v := iI 0) hx hb dL_weightIn_21 rfl ?_
  exact W.iret hx hb hr (fun t ht hW => ⟨⟨_, (), rfl, rfl, by show va_P _ _ _ t.heap; rw [ht]; exact hP⟩, hS.F ht⟩) hS.2.2 dL_weightIn_22
set_option maxHeartbeats 4000000 in
set_option maxRecDepth 100000 in
theorem w_L_daysUntilForgotten (l : Launch) (G : zG) (x : Nat) (a : Nat → Nat) (ob : Nat) (sz : Nat) (v : Int64) (B : Nat) (σ : zS) (k : Nat) (hI : zI B σ) (hk : k < σ.1 1) : Met l yL_daysUntilForgotten wsL_daysUntilForgotten ({ frames := 2, cells := 0, slots := 0, locals := 42 } : Room) (va_Pc [.ref x, .int (iI (k : Int)), .ref ob] (wL G x a ob σ v sz)) (va_Qi (fun r (_ : Unit) => r = iI 0) (fun _ t9 => va_P G.1 vwCl (xW G x a σ ++ [oW G ob (iI (unt σ k)).toInt64]) t9.heap) (lA x a ob sz)) 0 0 (lA x a ob sz) := by
  refine va_MetW (cc := cL_daysUntilForgotten) (maxL := 4) (ret := (some .int)) (hh := [(0, 9, 12, 21)]) (by decide) rfl ?_
  intro pp ee s m args below meth c s₁ B9 hml hv
  obtain ⟨rfl, hsz, hP, hK, hD0⟩ := hv
  subst hsz
  have hD := xo_lA (sz := s.heap.size) hD0
  have hS : va_S (lA x a ob s.heap.size) s.heap s.heap [] := va_S.rf
  have hx := B9.exec
  have hb := B9.bytes
  have hr := B9.returns
  have hts := atoms_spec (ws := wsL_daysUntilForgotten) B9.pre
  have hown : s.vm.findClass RL = some m.cls := findClass_of_methodNamed B9.named
  have hlocks := B9.notSynchronized
  have hl := lv_entry ([.ref x, .int (iI (k : Int)), .ref ob]) (n := 4) (Nat.le_of_ble_eq_true rfl)
  rw [lg_entry_eq]
  generalize (lg_sl ([.ref x, .int (iI (k : Int)), .ref ob]) ++ List.replicate (4 - (lg_sl ([.ref x, .int (iI (k : Int)), .ref ob])).length) Slot.unset).toArray = ls at hl ⊢
  have hl : lv_has ls 4 [(0, .ref x), (1, .int (iI (k : Int))), (2, .ref ob)] := hl
  have hIn := hI.n
  refine lv_aload_n hx hb dL_daysUntilForgotten_0 rfl (lv_at hl 2 rfl) ?_
  refine lv_iconst (v := iI 0) hx hb dL_daysUntilForgotten_1 rfl ?_
  refine lv_aload_n hx hb dL_daysUntilForgotten_2 rfl (lv_at hl 0 rfl) ?_
  refine lv_iload_n hx hb dL_daysUntilForgotten_3 rfl (lv_at hl 1 rfl) ?_
  refine zc_i (va_runV (As := [.int (iI (k : Int))]) (rest := [.int (iI 0), .ref ob]) ⟨hx, hb, hml, hown, hts⟩ (c_X0_daysUntilForgotten l G x a B σ k hI hk) (cwV 1 hts gL_daysUntilForgotten_X0_daysUntilForgotten rfl rfl rfl (by decide +kernel) ⟨Nat.le_of_ble_eq_true rfl, Nat.le_of_ble_eq_true rfl⟩) (preVX hK (va_Pl hP)) rfl rfl hl.1 rfl (lv_room (Nat.le_of_ble_eq_true rfl)) dL_daysUntilForgotten_4 ⟨Nat.le_of_ble_eq_true rfl, Nat.le_of_ble_eq_true rfl⟩) ?_
  refine lv_i2l (v := (iI (unt σ k)).toInt64) hx hb dL_daysUntilForgotten_7 rfl ?_
  refine z_last (v' := (iI (unt σ k)).toInt64) hx hb hK hP hD hS dL_daysUntilForgotten_8 (fun H locs hP hD hS => ?_)
  refine lv_goto (tgt := 15) hx hb dL_daysUntilForgotten_9 (by decide) ?_
  refine lv_iconst (v := iI 0) hx hb dL_daysUntilForgotten_15 rfl ?_
  exact W.iret hx hb hr (fun t ht hW => ⟨⟨_, (), rfl, rfl, by show va_P _ _ _ t.heap; rw [ht]; exact hP⟩, hS.F ht⟩) hS.2.2 dL_daysUntilForgotten_16
set_option maxHeartbeats 4000000 in
set_option maxRecDepth 100000 in
theorem w_L_borneIn (l : Launch) (G : zG) (x : Nat) (a : Nat → Nat) (ob : Nat) (sz : Nat) (v : Int64) (B : Nat) (σ : zS) (p : Nat) (d : Int) (hI : zI B σ) (hp : p < σ.1 0) (hd : 1 ≤ d ∧ d ≤ 60) : Met l yL_borneIn wsL_borneIn ({ frames := 4, cells := 0, slots := 0, locals := 93 } : Room) (va_Pc [.ref x, .int (iI (p : Int)), .int (iI d), .ref ob] (wL G x a ob σ v sz)) (va_Qi (fun r (_ : Unit) => r = iI 0) (fun _ t9 => va_P G.1 vwCl (xW G x a σ ++ [oW G ob (iI (bth σ (p : Int) d)).toInt64]) t9.heap) (lA x a ob sz)) 0 0 (lA x a ob sz) := by
  refine va_MetW (cc := cL_borneIn) (maxL := 5) (ret := (some .int)) (hh := [(0, 10, 13, 21), (0, 10, 17, 13)]) (by decide) rfl ?_
  intro pp ee s m args below meth c s₁ B9 hml hv
  obtain ⟨rfl, hsz, hP, hK, hD0⟩ := hv
  subst hsz
  have hD := xo_lA (sz := s.heap.size) hD0
  have hS : va_S (lA x a ob s.heap.size) s.heap s.heap [] := va_S.rf
  have hx := B9.exec
  have hb := B9.bytes
  have hr := B9.returns
  have hts := atoms_spec (ws := wsL_borneIn) B9.pre
  have hown : s.vm.findClass RL = some m.cls := findClass_of_methodNamed B9.named
  have hlocks := B9.notSynchronized
  have hl := lv_entry ([.ref x, .int (iI (p : Int)), .int (iI d), .ref ob]) (n := 5) (Nat.le_of_ble_eq_true rfl)
  rw [lg_entry_eq]
  generalize (lg_sl ([.ref x, .int (iI (p : Int)), .int (iI d), .ref ob]) ++ List.replicate (5 - (lg_sl ([.ref x, .int (iI (p : Int)), .int (iI d), .ref ob])).length) Slot.unset).toArray = ls at hl ⊢
  have hl : lv_has ls 5 [(0, .ref x), (1, .int (iI (p : Int))), (2, .int (iI d)), (3, .ref ob)] := hl
  have hIn := hI.n
  refine lv_aload_n hx hb dL_borneIn_0 rfl (lv_at hl 3 rfl) ?_
  refine lv_iconst (v := iI 0) hx hb dL_borneIn_1 rfl ?_
  refine lv_aload_n hx hb dL_borneIn_2 rfl (lv_at hl 0 rfl) ?_
  refine lv_iload_n hx hb dL_borneIn_3 rfl (lv_at hl 1 rfl) ?_
  refine lv_iload_n hx hb dL_borneIn_4 rfl (lv_at hl 2 rfl) ?_
  refine zc_i (va_runV (As := [.int (iI (p : Int)), .int (iI d)]) (rest := [.int (iI 0), .ref ob]) ⟨hx, hb, hml, hown, hts⟩ (c_X0_borneIn l G x a B σ p d hI hp hd) (cwV 2 hts gL_borneIn_X0_borneIn rfl rfl rfl (by decide +kernel) ⟨Nat.le_of_ble_eq_true rfl, Nat.le_of_ble_eq_true rfl⟩) (preVX hK (va_Pl hP)) rfl rfl hl.1 rfl (lv_room (Nat.le_of_ble_eq_true rfl)) dL_borneIn_5 ⟨Nat.le_of_ble_eq_true rfl, Nat.le_of_ble_eq_true rfl⟩) ?_
  refine lv_i2l (v := (iI (bth σ (p : Int) d)).toInt64) hx hb dL_borneIn_8 rfl ?_
  refine z_last (v' := (iI (bth σ (p : Int) d)).toInt64) hx hb hK hP hD hS dL_borneIn_9 (fun H locs hP hD hS => ?_)
  refine lv_goto (tgt := 21) hx hb dL_borneIn_10 (by decide) ?_
  refine lv_iconst (v := iI 0) hx hb dL_borneIn_21 rfl ?_
  exact W.iret hx hb hr (fun t ht hW => ⟨⟨_, (), rfl, rfl, by show va_P _ _ _ t.heap; rw [ht]; exact hP⟩, hS.F ht⟩) hS.2.2 dL_borneIn_22
set_option maxHeartbeats 4000000 in
set_option maxRecDepth 100000 in
theorem w_L_worstToKeep (l : Launch) (G : zG) (x : Nat) (a : Nat → Nat) (ob : Nat) (sz : Nat) (v : Int64) (B : Nat) (σ : zS) (p : Nat) (hI : zI B σ) (hp : p < σ.1 0) : Met l yL_worstToKeep wsL_worstToKeep ({ frames := 4, cells := 0, slots := 0, locals := 94 } : Room) (va_Pc [.ref x, .int (iI (p : Int)), .ref ob] (wL G x a ob σ v sz)) (va_Qi (fun r (_ : Unit) => r = iI 0) (fun _ t9 => va_P G.1 vwCl (xW G x a σ ++ [oW G ob (iI (wor σ (p : Int))).toInt64]) t9.heap) (lA x a ob sz)) 0 0 (lA x a ob sz) := by
  refine va_MetW (cc := cL_worstToKeep) (maxL := 4) (ret := (some .int)) (hh := [(0, 9, 12, 21)]) (by decide) rfl ?_
  intro pp ee s m args below meth c s₁ B9 hml hv
  obtain ⟨rfl, hsz, hP, hK, hD0⟩ := hv
  subst hsz
  have hD := xo_lA (sz := s.heap.size) hD0
  have hS : va_S (lA x a ob s.heap.size) s.heap s.heap [] := va_S.rf
  have hx := B9.exec
  have hb := B9.bytes
  have hr := B9.returns
  have hts := atoms_spec (ws := wsL_worstToKeep) B9.pre
  have hown : s.vm.findClass RL = some m.cls := findClass_of_methodNamed B9.named
  have hlocks := B9.notSynchronized
  have hl := lv_entry ([.ref x, .int (iI (p : Int)), .ref ob]) (n := 4) (Nat.le_of_ble_eq_true rfl)
  rw [lg_entry_eq]
  generalize (lg_sl ([.ref x, .int (iI (p : Int)), .ref ob]) ++ List.replicate (4 - (lg_sl ([.ref x, .int (iI (p : Int)), .ref ob])).length) Slot.unset).toArray = ls at hl ⊢
  have hl : lv_has ls 4 [(0, .ref x), (1, .int (iI (p : Int))), (2, .ref ob)] := hl
  have hIn := hI.n
  refine lv_aload_n hx hb dL_worstToKeep_0 rfl (lv_at hl 2 rfl) ?_
  refine lv_iconst (v := iI 0) hx hb dL_worstToKeep_1 rfl ?_
  refine lv_aload_n hx hb dL_worstToKeep_2 rfl (lv_at hl 0 rfl) ?_
  refine lv_iload_n hx hb dL_worstToKeep_3 rfl (lv_at hl 1 rfl) ?_
  refine zc_i (va_runV (As := [.int (iI (p : Int))]) (rest := [.int (iI 0), .ref ob]) ⟨hx, hb, hml, hown, hts⟩ (c_X0_worstToKeep l G x a B σ p hI hp) (cwV 1 hts gL_worstToKeep_X0_worstToKeep rfl rfl rfl (by decide +kernel) ⟨Nat.le_of_ble_eq_true rfl, Nat.le_of_ble_eq_true rfl⟩) (preVX hK (va_Pl hP)) rfl rfl hl.1 rfl (lv_room (Nat.le_of_ble_eq_true rfl)) dL_worstToKeep_4 ⟨Nat.le_of_ble_eq_true rfl, Nat.le_of_ble_eq_true rfl⟩) ?_
  refine lv_i2l (v := (iI (wor σ (p : Int))).toInt64) hx hb dL_worstToKeep_7 rfl ?_
  refine z_last (v' := (iI (wor σ (p : Int))).toInt64) hx hb hK hP hD hS dL_worstToKeep_8 (fun H locs hP hD hS => ?_)
  refine lv_goto (tgt := 15) hx hb dL_worstToKeep_9 (by decide) ?_
  refine lv_iconst (v := iI 0) hx hb dL_worstToKeep_15 rfl ?_
  exact W.iret hx hb hr (fun t ht hW => ⟨⟨_, (), rfl, rfl, by show va_P _ _ _ t.heap; rw [ht]; exact hP⟩, hS.F ht⟩) hS.2.2 dL_worstToKeep_16
