/-! THE LAW'S HELPERS: a call that is refused. -/
set_option maxHeartbeats 4000000 in
set_option maxRecDepth 100000 in
theorem f1_L_enter (l : Launch) (hfl : l.stackTraces = false) (G : zG) (x : Nat) (a : Nat → Nat) (ob : Nat) (sz : Nat) (B : Nat) (σ : zS) (z : Int) (hI : zI B σ) (hzb : -2147483648 ≤ z ∧ z < 2147483648) (hbad : z < 0 ∨ (σ.1 0 : Int) ≤ z) : Met l yL_enter wsL_enter ({ frames := 8, cells := 1, slots := 6, locals := 132 } : Room) (va_Pc [.ref x, .int (iI z), .ref ob] (wF G x a σ sz)) (va_Qi (fun r (_ : Unit) => r = iI 1) (fun _ _ => True) (nA sz)) 1 6 (nA sz) := by
  refine va_MetW (cc := cL_enter) (maxL := 4) (ret := (some .int)) (hh := [(0, 16, 19, 21)]) (by decide) rfl ?_
  intro pp ee s m args below meth c s₁ B9 hml hv
  obtain ⟨rfl, hsz, hP, hK, hE, hN⟩ := hv
  subst hsz
  have hx := B9.exec
  have hb := B9.bytes
  have hr := B9.returns
  have hts := atoms_spec (ws := wsL_enter) B9.pre
  have hown : s.vm.findClass RL = some m.cls := findClass_of_methodNamed B9.named
  have hlocks := B9.notSynchronized
  have htab : c.exceptionTable.toList = tableOf [(0, 16, 19, 21)] := vx_table (x := yL_enter) B9 (hts (.codeWith yL_enter cL_enter 4 (some .int) [(0, 16, 19, 21)]) List.mem_cons_self)
  have w_0 := hts (.classLink RL 21 zIOE) (by decide +kernel)
  have hl := lv_entry ([.ref x, .int (iI z), .ref ob]) (n := 4) (Nat.le_of_ble_eq_true rfl)
  rw [lg_entry_eq]
  generalize (lg_sl ([.ref x, .int (iI z), .ref ob]) ++ List.replicate (4 - (lg_sl ([.ref x, .int (iI z), .ref ob])).length) Slot.unset).toArray = ls at hl ⊢
  have hl : lv_has ls 4 [(0, .ref x), (1, .int (iI z)), (2, .ref ob)] := hl
  have hIn := hI.n
  refine lv_aload_n hx hb dL_enter_0 rfl (lv_at hl 2 rfl) ?_
  refine lv_iconst (v := iI 0) hx hb dL_enter_1 rfl ?_
  refine lv_aload_n hx hb dL_enter_2 rfl (lv_at hl 0 rfl) ?_
  refine lv_iload_n hx hb dL_enter_3 rfl (lv_at hl 1 rfl) ?_
  refine vx_calli (vx_runV (As := [.int (iI z)]) (rest := [.int (iI 0), .ref ob]) ⟨hx, hb, hml, hown, hts⟩ (t1_X0_enter l hfl G x a s.heap.size B σ z hI hzb hbad) (cwV 1 hts gL_enter_X0_enter rfl rfl rfl (by decide +kernel) ⟨Nat.le_of_ble_eq_true rfl, Nat.le_of_ble_eq_true rfl⟩) (preTX hK hP hE) rfl rfl hl.1 rfl (lv_room (Nat.le_of_ble_eq_true rfl)) dL_enter_4 ⟨Nat.le_of_ble_eq_true rfl, Nat.le_of_ble_eq_true rfl⟩) va_S.rf (fun q _ h => h) (fun q h => h) (fun q _ h => h) (fun E ce q9 u t H locs9 _ _ _ hE1 hz hk hS hce hcv hcl => ?_) (fun r u t H1 locs1 _ _ hf => hf.elim)
  subst hE1
  refine vx_catch (name := zIOE) hown [] ⟨0, 16, 19, 21⟩ [] htab (fun z hz => by cases hz) (by decide) (by decide) w_0 (va_tabs rfl rfl (hE.2.2.1 _ (List.mem_of_getElem? (i := 2) rfl))) hce hcv hcl ?_
  refine lv_astore_n (lv' := [(3, .ref q9), (0, .ref x), (1, .int (iI z)), (2, .ref ob)]) hx hb dL_enter_19 rfl hl (by decide) rfl (fun ls hl => ?_)
  refine lv_iconst (v := iI 1) hx hb dL_enter_20 rfl ?_
  exact W.iret hx hb hr (fun t ht hW => ⟨⟨_, (), rfl, rfl, trivial⟩, hS.F ht⟩) hS.2.2 dL_enter_21
set_option maxHeartbeats 4000000 in
set_option maxRecDepth 100000 in
theorem f1_L_isInHall (l : Launch) (hfl : l.stackTraces = false) (G : zG) (x : Nat) (a : Nat → Nat) (ob : Nat) (sz : Nat) (B : Nat) (σ : zS) (z : Int) (hI : zI B σ) (hzb : -2147483648 ≤ z ∧ z < 2147483648) (hbad : z < 0 ∨ (σ.1 0 : Int) ≤ z) : Met l yL_isInHall wsL_isInHall ({ frames := 8, cells := 1, slots := 6, locals := 132 } : Room) (va_Pc [.ref x, .int (iI z), .ref ob] (wF G x a σ sz)) (va_Qi (fun r (_ : Unit) => r = iI 1) (fun _ _ => True) (nA sz)) 1 6 (nA sz) := by
  refine va_MetW (cc := cL_isInHall) (maxL := 4) (ret := (some .int)) (hh := [(0, 16, 19, 21)]) (by decide) rfl ?_
  intro pp ee s m args below meth c s₁ B9 hml hv
  obtain ⟨rfl, hsz, hP, hK, hE, hN⟩ := hv
  subst hsz
  have hx := B9.exec
  have hb := B9.bytes
  have hr := B9.returns
  have hts := atoms_spec (ws := wsL_isInHall) B9.pre
  have hown : s.vm.findClass RL = some m.cls := findClass_of_methodNamed B9.named
  have hlocks := B9.notSynchronized
  have htab : c.exceptionTable.toList = tableOf [(0, 16, 19, 21)] := vx_table (x := yL_isInHall) B9 (hts (.codeWith yL_isInHall cL_isInHall 4 (some .int) [(0, 16, 19, 21)]) List.mem_cons_self)
  have w_0 := hts (.classLink RL 21 zIOE) (by decide +kernel)
  have hl := lv_entry ([.ref x, .int (iI z), .ref ob]) (n := 4) (Nat.le_of_ble_eq_true rfl)
  rw [lg_entry_eq]
  generalize (lg_sl ([.ref x, .int (iI z), .ref ob]) ++ List.replicate (4 - (lg_sl ([.ref x, .int (iI z), .ref ob])).length) Slot.unset).toArray = ls at hl ⊢
  have hl : lv_has ls 4 [(0, .ref x), (1, .int (iI z)), (2, .ref ob)] := hl
  have hIn := hI.n
  refine lv_aload_n hx hb dL_isInHall_0 rfl (lv_at hl 2 rfl) ?_
  refine lv_iconst (v := iI 0) hx hb dL_isInHall_1 rfl ?_
  refine lv_aload_n hx hb dL_isInHall_2 rfl (lv_at hl 0 rfl) ?_
  refine lv_iload_n hx hb dL_isInHall_3 rfl (lv_at hl 1 rfl) ?_
  refine vx_calli (vx_runV (As := [.int (iI z)]) (rest := [.int (iI 0), .ref ob]) ⟨hx, hb, hml, hown, hts⟩ (t1_X0_isInHall l hfl G x a s.heap.size B σ z hI hzb hbad) (cwV 1 hts gL_isInHall_X0_isInHall rfl rfl rfl (by decide +kernel) ⟨Nat.le_of_ble_eq_true rfl, Nat.le_of_ble_eq_true rfl⟩) (preTX hK hP hE) rfl rfl hl.1 rfl (lv_room (Nat.le_of_ble_eq_true rfl)) dL_isInHall_4 ⟨Nat.le_of_ble_eq_true rfl, Nat.le_of_ble_eq_true rfl⟩) va_S.rf (fun q _ h => h) (fun q h => h) (fun q _ h => h) (fun E ce q9 u t H locs9 _ _ _ hE1 hz hk hS hce hcv hcl => ?_) (fun r u t H1 locs1 _ _ hf => hf.elim)
  subst hE1
  refine vx_catch (name := zIOE) hown [] ⟨0, 16, 19, 21⟩ [] htab (fun z hz => by cases hz) (by decide) (by decide) w_0 (va_tabs rfl rfl (hE.2.2.1 _ (List.mem_of_getElem? (i := 2) rfl))) hce hcv hcl ?_
  refine lv_astore_n (lv' := [(3, .ref q9), (0, .ref x), (1, .int (iI z)), (2, .ref ob)]) hx hb dL_isInHall_19 rfl hl (by decide) rfl (fun ls hl => ?_)
  refine lv_iconst (v := iI 1) hx hb dL_isInHall_20 rfl ?_
  exact W.iret hx hb hr (fun t ht hW => ⟨⟨_, (), rfl, rfl, trivial⟩, hS.F ht⟩) hS.2.2 dL_isInHall_21
set_option maxHeartbeats 4000000 in
set_option maxRecDepth 100000 in
theorem f1_L_prideOf (l : Launch) (hfl : l.stackTraces = false) (G : zG) (x : Nat) (a : Nat → Nat) (ob : Nat) (sz : Nat) (B : Nat) (σ : zS) (z : Int) (hI : zI B σ) (hzb : -2147483648 ≤ z ∧ z < 2147483648) (hbad : z < 0 ∨ (σ.1 0 : Int) ≤ z) : Met l yL_prideOf wsL_prideOf ({ frames := 8, cells := 1, slots := 6, locals := 132 } : Room) (va_Pc [.ref x, .int (iI z), .ref ob] (wF G x a σ sz)) (va_Qi (fun r (_ : Unit) => r = iI 1) (fun _ _ => True) (nA sz)) 1 6 (nA sz) := by
  refine va_MetW (cc := cL_prideOf) (maxL := 4) (ret := (some .int)) (hh := [(0, 9, 12, 21)]) (by decide) rfl ?_
  intro pp ee s m args below meth c s₁ B9 hml hv
  obtain ⟨rfl, hsz, hP, hK, hE, hN⟩ := hv
  subst hsz
  have hx := B9.exec
  have hb := B9.bytes
  have hr := B9.returns
  have hts := atoms_spec (ws := wsL_prideOf) B9.pre
  have hown : s.vm.findClass RL = some m.cls := findClass_of_methodNamed B9.named
  have hlocks := B9.notSynchronized
  have htab : c.exceptionTable.toList = tableOf [(0, 9, 12, 21)] := vx_table (x := yL_prideOf) B9 (hts (.codeWith yL_prideOf cL_prideOf 4 (some .int) [(0, 9, 12, 21)]) List.mem_cons_self)
  have w_0 := hts (.classLink RL 21 zIOE) (by decide +kernel)
  have hl := lv_entry ([.ref x, .int (iI z), .ref ob]) (n := 4) (Nat.le_of_ble_eq_true rfl)
  rw [lg_entry_eq]
  generalize (lg_sl ([.ref x, .int (iI z), .ref ob]) ++ List.replicate (4 - (lg_sl ([.ref x, .int (iI z), .ref ob])).length) Slot.unset).toArray = ls at hl ⊢
  have hl : lv_has ls 4 [(0, .ref x), (1, .int (iI z)), (2, .ref ob)] := hl
  have hIn := hI.n
  refine lv_aload_n hx hb dL_prideOf_0 rfl (lv_at hl 2 rfl) ?_
  refine lv_iconst (v := iI 0) hx hb dL_prideOf_1 rfl ?_
  refine lv_aload_n hx hb dL_prideOf_2 rfl (lv_at hl 0 rfl) ?_
  refine lv_iload_n hx hb dL_prideOf_3 rfl (lv_at hl 1 rfl) ?_
  refine vx_calli (vx_runV (As := [.int (iI z)]) (rest := [.int (iI 0), .ref ob]) ⟨hx, hb, hml, hown, hts⟩ (t1_X0_prideOf l hfl G x a s.heap.size B σ z hI hzb hbad) (cwV 1 hts gL_prideOf_X0_prideOf rfl rfl rfl (by decide +kernel) ⟨Nat.le_of_ble_eq_true rfl, Nat.le_of_ble_eq_true rfl⟩) (preTX hK hP hE) rfl rfl hl.1 rfl (lv_room (Nat.le_of_ble_eq_true rfl)) dL_prideOf_4 ⟨Nat.le_of_ble_eq_true rfl, Nat.le_of_ble_eq_true rfl⟩) va_S.rf (fun q _ h => h) (fun q h => h) (fun q _ h => h) (fun E ce q9 u t H locs9 _ _ _ hE1 hz hk hS hce hcv hcl => ?_) (fun r u t H1 locs1 _ _ hf => hf.elim)
  subst hE1
  refine vx_catch (name := zIOE) hown [] ⟨0, 9, 12, 21⟩ [] htab (fun z hz => by cases hz) (by decide) (by decide) w_0 (va_tabs rfl rfl (hE.2.2.1 _ (List.mem_of_getElem? (i := 2) rfl))) hce hcv hcl ?_
  refine lv_astore_n (lv' := [(3, .ref q9), (0, .ref x), (1, .int (iI z)), (2, .ref ob)]) hx hb dL_prideOf_12 rfl hl (by decide) rfl (fun ls hl => ?_)
  refine lv_iconst (v := iI 1) hx hb dL_prideOf_13 rfl ?_
  exact W.iret hx hb hr (fun t ht hW => ⟨⟨_, (), rfl, rfl, trivial⟩, hS.F ht⟩) hS.2.2 dL_prideOf_14
set_option maxHeartbeats 4000000 in
set_option maxRecDepth 100000 in
theorem f1_L_borneBy (l : Launch) (hfl : l.stackTraces = false) (G : zG) (x : Nat) (a : Nat → Nat) (ob : Nat) (sz : Nat) (B : Nat) (σ : zS) (z : Int) (hI : zI B σ) (hzb : -2147483648 ≤ z ∧ z < 2147483648) (hbad : z < 0 ∨ (σ.1 0 : Int) ≤ z) : Met l yL_borneBy wsL_borneBy ({ frames := 8, cells := 1, slots := 6, locals := 134 } : Room) (va_Pc [.ref x, .int (iI z), .ref ob] (wF G x a σ sz)) (va_Qi (fun r (_ : Unit) => r = iI 1) (fun _ _ => True) (nA sz)) 1 6 (nA sz) := by
  refine va_MetW (cc := cL_borneBy) (maxL := 4) (ret := (some .int)) (hh := [(0, 9, 12, 21)]) (by decide) rfl ?_
  intro pp ee s m args below meth c s₁ B9 hml hv
  obtain ⟨rfl, hsz, hP, hK, hE, hN⟩ := hv
  subst hsz
  have hx := B9.exec
  have hb := B9.bytes
  have hr := B9.returns
  have hts := atoms_spec (ws := wsL_borneBy) B9.pre
  have hown : s.vm.findClass RL = some m.cls := findClass_of_methodNamed B9.named
  have hlocks := B9.notSynchronized
  have htab : c.exceptionTable.toList = tableOf [(0, 9, 12, 21)] := vx_table (x := yL_borneBy) B9 (hts (.codeWith yL_borneBy cL_borneBy 4 (some .int) [(0, 9, 12, 21)]) List.mem_cons_self)
  have w_0 := hts (.classLink RL 21 zIOE) (by decide +kernel)
  have hl := lv_entry ([.ref x, .int (iI z), .ref ob]) (n := 4) (Nat.le_of_ble_eq_true rfl)
  rw [lg_entry_eq]
  generalize (lg_sl ([.ref x, .int (iI z), .ref ob]) ++ List.replicate (4 - (lg_sl ([.ref x, .int (iI z), .ref ob])).length) Slot.unset).toArray = ls at hl ⊢
  have hl : lv_has ls 4 [(0, .ref x), (1, .int (iI z)), (2, .ref ob)] := hl
  have hIn := hI.n
  refine lv_aload_n hx hb dL_borneBy_0 rfl (lv_at hl 2 rfl) ?_
  refine lv_iconst (v := iI 0) hx hb dL_borneBy_1 rfl ?_
  refine lv_aload_n hx hb dL_borneBy_2 rfl (lv_at hl 0 rfl) ?_
  refine lv_iload_n hx hb dL_borneBy_3 rfl (lv_at hl 1 rfl) ?_
  refine vx_calli (vx_runV (As := [.int (iI z)]) (rest := [.int (iI 0), .ref ob]) ⟨hx, hb, hml, hown, hts⟩ (t1_X0_borneBy l hfl G x a s.heap.size B σ z hI hzb hbad) (cwV 1 hts gL_borneBy_X0_borneBy rfl rfl rfl (by decide +kernel) ⟨Nat.le_of_ble_eq_true rfl, Nat.le_of_ble_eq_true rfl⟩) (preTX hK hP hE) rfl rfl hl.1 rfl (lv_room (Nat.le_of_ble_eq_true rfl)) dL_borneBy_4 ⟨Nat.le_of_ble_eq_true rfl, Nat.le_of_ble_eq_true rfl⟩) va_S.rf (fun q _ h => h) (fun q h => h) (fun q _ h => h) (fun E ce q9 u t H locs9 _ _ _ hE1 hz hk hS hce hcv hcl => ?_) (fun r u t H1 locs1 _ _ hf => hf.elim)
  subst hE1
  refine vx_catch (name := zIOE) hown [] ⟨0, 9, 12, 21⟩ [] htab (fun z hz => by cases hz) (by decide) (by decide) w_0 (va_tabs rfl rfl (hE.2.2.1 _ (List.mem_of_getElem? (i := 2) rfl))) hce hcv hcl ?_
  refine lv_astore_n (lv' := [(3, .ref q9), (0, .ref x), (1, .int (iI z)), (2, .ref ob)]) hx hb dL_borneBy_12 rfl hl (by decide) rfl (fun ls hl => ?_)
  refine lv_iconst (v := iI 1) hx hb dL_borneBy_13 rfl ?_
  exact W.iret hx hb hr (fun t ht hW => ⟨⟨_, (), rfl, rfl, trivial⟩, hS.F ht⟩) hS.2.2 dL_borneBy_14
set_option maxHeartbeats 4000000 in
set_option maxRecDepth 100000 in
theorem f1_L_owedBy (l : Launch) (hfl : l.stackTraces = false) (G : zG) (x : Nat) (a : Nat → Nat) (ob : Nat) (sz : Nat) (B : Nat) (σ : zS) (z : Int) (hI : zI B σ) (hzb : -2147483648 ≤ z ∧ z < 2147483648) (hbad : z < 0 ∨ (σ.1 0 : Int) ≤ z) : Met l yL_owedBy wsL_owedBy ({ frames := 8, cells := 1, slots := 6, locals := 134 } : Room) (va_Pc [.ref x, .int (iI z), .ref ob] (wF G x a σ sz)) (va_Qi (fun r (_ : Unit) => r = iI 1) (fun _ _ => True) (nA sz)) 1 6 (nA sz) := by
  refine va_MetW (cc := cL_owedBy) (maxL := 4) (ret := (some .int)) (hh := [(0, 9, 12, 21)]) (by decide) rfl ?_
  intro pp ee s m args below meth c s₁ B9 hml hv
  obtain ⟨rfl, hsz, hP, hK, hE, hN⟩ := hv
  subst hsz
  have hx := B9.exec
  have hb := B9.bytes
  have hr := B9.returns
  have hts := atoms_spec (ws := wsL_owedBy) B9.pre
  have hown : s.vm.findClass RL = some m.cls := findClass_of_methodNamed B9.named
  have hlocks := B9.notSynchronized
  have htab : c.exceptionTable.toList = tableOf [(0, 9, 12, 21)] := vx_table (x := yL_owedBy) B9 (hts (.codeWith yL_owedBy cL_owedBy 4 (some .int) [(0, 9, 12, 21)]) List.mem_cons_self)
  have w_0 := hts (.classLink RL 21 zIOE) (by decide +kernel)
  have hl := lv_entry ([.ref x, .int (iI z), .ref ob]) (n := 4) (Nat.le_of_ble_eq_true rfl)
  rw [lg_entry_eq]
  generalize (lg_sl ([.ref x, .int (iI z), .ref ob]) ++ List.replicate (4 - (lg_sl ([.ref x, .int (iI z), .ref ob])).length) Slot.unset).toArray = ls at hl ⊢
  have hl : lv_has ls 4 [(0, .ref x), (1, .int (iI z)), (2, .ref ob)] := hl
  have hIn := hI.n
  refine lv_aload_n hx hb dL_owedBy_0 rfl (lv_at hl 2 rfl) ?_
  refine lv_iconst (v := iI 0) hx hb dL_owedBy_1 rfl ?_
  refine lv_aload_n hx hb dL_owedBy_2 rfl (lv_at hl 0 rfl) ?_
  refine lv_iload_n hx hb dL_owedBy_3 rfl (lv_at hl 1 rfl) ?_
  refine vx_calli (vx_runV (As := [.int (iI z)]) (rest := [.int (iI 0), .ref ob]) ⟨hx, hb, hml, hown, hts⟩ (t1_X0_owedBy l hfl G x a s.heap.size B σ z hI hzb hbad) (cwV 1 hts gL_owedBy_X0_owedBy rfl rfl rfl (by decide +kernel) ⟨Nat.le_of_ble_eq_true rfl, Nat.le_of_ble_eq_true rfl⟩) (preTX hK hP hE) rfl rfl hl.1 rfl (lv_room (Nat.le_of_ble_eq_true rfl)) dL_owedBy_4 ⟨Nat.le_of_ble_eq_true rfl, Nat.le_of_ble_eq_true rfl⟩) va_S.rf (fun q _ h => h) (fun q h => h) (fun q _ h => h) (fun E ce q9 u t H locs9 _ _ _ hE1 hz hk hS hce hcv hcl => ?_) (fun r u t H1 locs1 _ _ hf => hf.elim)
  subst hE1
  refine vx_catch (name := zIOE) hown [] ⟨0, 9, 12, 21⟩ [] htab (fun z hz => by cases hz) (by decide) (by decide) w_0 (va_tabs rfl rfl (hE.2.2.1 _ (List.mem_of_getElem? (i := 2) rfl))) hce hcv hcl ?_
  refine lv_astore_n (lv' := [(3, .ref q9), (0, .ref x), (1, .int (iI z)), (2, .ref ob)]) hx hb dL_owedBy_12 rfl hl (by decide) rfl (fun ls hl => ?_)
  refine lv_iconst (v := iI 1) hx hb dL_owedBy_13 rfl ?_
  exact W.iret hx hb hr (fun t ht hW => ⟨⟨_, (), rfl, rfl, trivial⟩, hS.F ht⟩) hS.2.2 dL_owedBy_14
set_option maxHeartbeats 4000000 in
set_option maxRecDepth 100000 in
theorem f1_L_worstToKeep (l : Launch) (hfl : l.stackTraces = false) (G : zG) (x : Nat) (a : Nat → Nat) (ob : Nat) (sz : Nat) (B : Nat) (σ : zS) (z : Int) (hI : zI B σ) (hzb : -2147483648 ≤ z ∧ z < 2147483648) (hbad : z < 0 ∨ (σ.1 0 : Int) ≤ z) : Met l yL_worstToKeep wsL_worstToKeep ({ frames := 8, cells := 1, slots := 6, locals := 136 } : Room) (va_Pc [.ref x, .int (iI z), .ref ob] (wF G x a σ sz)) (va_Qi (fun r (_ : Unit) => r = iI 1) (fun _ _ => True) (nA sz)) 1 6 (nA sz) := by
  refine va_MetW (cc := cL_worstToKeep) (maxL := 4) (ret := (some .int)) (hh := [(0, 9, 12, 21)]) (by decide) rfl ?_
  intro pp ee s m args below meth c s₁ B9 hml hv
  obtain ⟨rfl, hsz, hP, hK, hE, hN⟩ := hv
  subst hsz
  have hx := B9.exec
  have hb := B9.bytes
  have hr := B9.returns
  have hts := atoms_spec (ws := wsL_worstToKeep) B9.pre
  have hown : s.vm.findClass RL = some m.cls := findClass_of_methodNamed B9.named
  have hlocks := B9.notSynchronized
  have htab : c.exceptionTable.toList = tableOf [(0, 9, 12, 21)] := vx_table (x := yL_worstToKeep) B9 (hts (.codeWith yL_worstToKeep cL_worstToKeep 4 (some .int) [(0, 9, 12, 21)]) List.mem_cons_self)
  have w_0 := hts (.classLink RL 21 zIOE) (by decide +kernel)
  have hl := lv_entry ([.ref x, .int (iI z), .ref ob]) (n := 4) (Nat.le_of_ble_eq_true rfl)
  rw [lg_entry_eq]
  generalize (lg_sl ([.ref x, .int (iI z), .ref ob]) ++ List.replicate (4 - (lg_sl ([.ref x, .int (iI z), .ref ob])).length) Slot.unset).toArray = ls at hl ⊢
  have hl : lv_has ls 4 [(0, .ref x), (1, .int (iI z)), (2, .ref ob)] := hl
  have hIn := hI.n
  refine lv_aload_n hx hb dL_worstToKeep_0 rfl (lv_at hl 2 rfl) ?_
  refine lv_iconst (v := iI 0) hx hb dL_worstToKeep_1 rfl ?_
  refine lv_aload_n hx hb dL_worstToKeep_2 rfl (lv_at hl 0 rfl) ?_
  refine lv_iload_n hx hb dL_worstToKeep_3 rfl (lv_at hl 1 rfl) ?_
  refine vx_calli (vx_runV (As := [.int (iI z)]) (rest := [.int (iI 0), .ref ob]) ⟨hx, hb, hml, hown, hts⟩ (t1_X0_worstToKeep l hfl G x a s.heap.size B σ z hI hzb hbad) (cwV 1 hts gL_worstToKeep_X0_worstToKeep rfl rfl rfl (by decide +kernel) ⟨Nat.le_of_ble_eq_true rfl, Nat.le_of_ble_eq_true rfl⟩) (preTX hK hP hE) rfl rfl hl.1 rfl (lv_room (Nat.le_of_ble_eq_true rfl)) dL_worstToKeep_4 ⟨Nat.le_of_ble_eq_true rfl, Nat.le_of_ble_eq_true rfl⟩) va_S.rf (fun q _ h => h) (fun q h => h) (fun q _ h => h) (fun E ce q9 u t H locs9 _ _ _ hE1 hz hk hS hce hcv hcl => ?_) (fun r u t H1 locs1 _ _ hf => hf.elim)
  subst hE1
  refine vx_catch (name := zIOE) hown [] ⟨0, 9, 12, 21⟩ [] htab (fun z hz => by cases hz) (by decide) (by decide) w_0 (va_tabs rfl rfl (hE.2.2.1 _ (List.mem_of_getElem? (i := 2) rfl))) hce hcv hcl ?_
  refine lv_astore_n (lv' := [(3, .ref q9), (0, .ref x), (1, .int (iI z)), (2, .ref ob)]) hx hb dL_worstToKeep_12 rfl hl (by decide) rfl (fun ls hl => ?_)
  refine lv_iconst (v := iI 1) hx hb dL_worstToKeep_13 rfl ?_
  exact W.iret hx hb hr (fun t ht hW => ⟨⟨_, (), rfl, rfl, trivial⟩, hS.F ht⟩) hS.2.2 dL_worstToKeep_14
set_option maxHeartbeats 4000000 in
set_option maxRecDepth 100000 in
theorem f1_L_mention (l : Launch) (hfl : l.stackTraces = false) (G : zG) (x : Nat) (a : Nat → Nat) (ob : Nat) (sz : Nat) (B : Nat) (σ : zS) (z : Int) (hI : zI B σ) (hzb : -2147483648 ≤ z ∧ z < 2147483648) (hbad : z < 0 ∨ (σ.1 1 : Int) ≤ z) : Met l yL_mention wsL_mention ({ frames := 8, cells := 1, slots := 6, locals := 132 } : Room) (va_Pc [.ref x, .int (iI z), .ref ob] (wF G x a σ sz)) (va_Qi (fun r (_ : Unit) => r = iI 1) (fun _ _ => True) (nA sz)) 1 6 (nA sz) := by
  refine va_MetW (cc := cL_mention) (maxL := 4) (ret := (some .int)) (hh := [(0, 9, 12, 21), (0, 9, 15, 15)]) (by decide) rfl ?_
  intro pp ee s m args below meth c s₁ B9 hml hv
  obtain ⟨rfl, hsz, hP, hK, hE, hN⟩ := hv
  subst hsz
  have hx := B9.exec
  have hb := B9.bytes
  have hr := B9.returns
  have hts := atoms_spec (ws := wsL_mention) B9.pre
  have hown : s.vm.findClass RL = some m.cls := findClass_of_methodNamed B9.named
  have hlocks := B9.notSynchronized
  have htab : c.exceptionTable.toList = tableOf [(0, 9, 12, 21), (0, 9, 15, 15)] := vx_table (x := yL_mention) B9 (hts (.codeWith yL_mention cL_mention 4 (some .int) [(0, 9, 12, 21), (0, 9, 15, 15)]) List.mem_cons_self)
  have w_0 := hts (.classLink RL 21 zIOE) (by decide +kernel)
  have hl := lv_entry ([.ref x, .int (iI z), .ref ob]) (n := 4) (Nat.le_of_ble_eq_true rfl)
  rw [lg_entry_eq]
  generalize (lg_sl ([.ref x, .int (iI z), .ref ob]) ++ List.replicate (4 - (lg_sl ([.ref x, .int (iI z), .ref ob])).length) Slot.unset).toArray = ls at hl ⊢
  have hl : lv_has ls 4 [(0, .ref x), (1, .int (iI z)), (2, .ref ob)] := hl
  have hIn := hI.n
  refine lv_aload_n hx hb dL_mention_0 rfl (lv_at hl 2 rfl) ?_
  refine lv_iconst (v := iI 0) hx hb dL_mention_1 rfl ?_
  refine lv_aload_n hx hb dL_mention_2 rfl (lv_at hl 0 rfl) ?_
  refine lv_iload_n hx hb dL_mention_3 rfl (lv_at hl 1 rfl) ?_
  refine vx_calli (vx_runV (As := [.int (iI z)]) (rest := [.int (iI 0), .ref ob]) ⟨hx, hb, hml, hown, hts⟩ (t1_X0_mention l hfl G x a s.heap.size B σ z hI hzb hbad) (cwV 1 hts gL_mention_X0_mention rfl rfl rfl (by decide +kernel) ⟨Nat.le_of_ble_eq_true rfl, Nat.le_of_ble_eq_true rfl⟩) (preTX hK hP hE) rfl rfl hl.1 rfl (lv_room (Nat.le_of_ble_eq_true rfl)) dL_mention_4 ⟨Nat.le_of_ble_eq_true rfl, Nat.le_of_ble_eq_true rfl⟩) va_S.rf (fun q _ h => h) (fun q h => h) (fun q _ h => h) (fun E ce q9 u t H locs9 _ _ _ hE1 hz hk hS hce hcv hcl => ?_) (fun r u t H1 locs1 _ _ hf => hf.elim)
  subst hE1
  refine vx_catch (name := zIOE) hown [] ⟨0, 9, 12, 21⟩ [⟨0, 9, 15, 15⟩] htab (fun z hz => by cases hz) (by decide) (by decide) w_0 (va_tabs rfl rfl (hE.2.2.1 _ (List.mem_of_getElem? (i := 2) rfl))) hce hcv hcl ?_
  refine lv_astore_n (lv' := [(3, .ref q9), (0, .ref x), (1, .int (iI z)), (2, .ref ob)]) hx hb dL_mention_12 rfl hl (by decide) rfl (fun ls hl => ?_)
  refine lv_iconst (v := iI 1) hx hb dL_mention_13 rfl ?_
  exact W.iret hx hb hr (fun t ht hW => ⟨⟨_, (), rfl, rfl, trivial⟩, hS.F ht⟩) hS.2.2 dL_mention_14
set_option maxHeartbeats 4000000 in
set_option maxRecDepth 100000 in
theorem f1_L_offenderOf (l : Launch) (hfl : l.stackTraces = false) (G : zG) (x : Nat) (a : Nat → Nat) (ob : Nat) (sz : Nat) (B : Nat) (σ : zS) (z : Int) (hI : zI B σ) (hzb : -2147483648 ≤ z ∧ z < 2147483648) (hbad : z < 0 ∨ (σ.1 1 : Int) ≤ z) : Met l yL_offenderOf wsL_offenderOf ({ frames := 8, cells := 1, slots := 6, locals := 132 } : Room) (va_Pc [.ref x, .int (iI z), .ref ob] (wF G x a σ sz)) (va_Qi (fun r (_ : Unit) => r = iI 1) (fun _ _ => True) (nA sz)) 1 6 (nA sz) := by
  refine va_MetW (cc := cL_offenderOf) (maxL := 4) (ret := (some .int)) (hh := [(0, 9, 12, 21)]) (by decide) rfl ?_
  intro pp ee s m args below meth c s₁ B9 hml hv
  obtain ⟨rfl, hsz, hP, hK, hE, hN⟩ := hv
  subst hsz
  have hx := B9.exec
  have hb := B9.bytes
  have hr := B9.returns
  have hts := atoms_spec (ws := wsL_offenderOf) B9.pre
  have hown : s.vm.findClass RL = some m.cls := findClass_of_methodNamed B9.named
  have hlocks := B9.notSynchronized
  have htab : c.exceptionTable.toList = tableOf [(0, 9, 12, 21)] := vx_table (x := yL_offenderOf) B9 (hts (.codeWith yL_offenderOf cL_offenderOf 4 (some .int) [(0, 9, 12, 21)]) List.mem_cons_self)
  have w_0 := hts (.classLink RL 21 zIOE) (by decide +kernel)
  have hl := lv_entry ([.ref x, .int (iI z), .ref ob]) (n := 4) (Nat.le_of_ble_eq_true rfl)
  rw [lg_entry_eq]
  generalize (lg_sl ([.ref x, .int (iI z), .ref ob]) ++ List.replicate (4 - (lg_sl ([.ref x, .int (iI z), .ref ob])).length) Slot.unset).toArray = ls at hl ⊢
  have hl : lv_has ls 4 [(0, .ref x), (1, .int (iI z)), (2, .ref ob)] := hl
  have hIn := hI.n
  refine lv_aload_n hx hb dL_offenderOf_0 rfl (lv_at hl 2 rfl) ?_
  refine lv_iconst (v := iI 0) hx hb dL_offenderOf_1 rfl ?_
  refine lv_aload_n hx hb dL_offenderOf_2 rfl (lv_at hl 0 rfl) ?_
  refine lv_iload_n hx hb dL_offenderOf_3 rfl (lv_at hl 1 rfl) ?_
  refine vx_calli (vx_runV (As := [.int (iI z)]) (rest := [.int (iI 0), .ref ob]) ⟨hx, hb, hml, hown, hts⟩ (t1_X0_offenderOf l hfl G x a s.heap.size B σ z hI hzb hbad) (cwV 1 hts gL_offenderOf_X0_offenderOf rfl rfl rfl (by decide +kernel) ⟨Nat.le_of_ble_eq_true rfl, Nat.le_of_ble_eq_true rfl⟩) (preTX hK hP hE) rfl rfl hl.1 rfl (lv_room (Nat.le_of_ble_eq_true rfl)) dL_offenderOf_4 ⟨Nat.le_of_ble_eq_true rfl, Nat.le_of_ble_eq_true rfl⟩) va_S.rf (fun q _ h => h) (fun q h => h) (fun q _ h => h) (fun E ce q9 u t H locs9 _ _ _ hE1 hz hk hS hce hcv hcl => ?_) (fun r u t H1 locs1 _ _ hf => hf.elim)
  subst hE1
  refine vx_catch (name := zIOE) hown [] ⟨0, 9, 12, 21⟩ [] htab (fun z hz => by cases hz) (by decide) (by decide) w_0 (va_tabs rfl rfl (hE.2.2.1 _ (List.mem_of_getElem? (i := 2) rfl))) hce hcv hcl ?_
  refine lv_astore_n (lv' := [(3, .ref q9), (0, .ref x), (1, .int (iI z)), (2, .ref ob)]) hx hb dL_offenderOf_12 rfl hl (by decide) rfl (fun ls hl => ?_)
  refine lv_iconst (v := iI 1) hx hb dL_offenderOf_13 rfl ?_
  exact W.iret hx hb hr (fun t ht hW => ⟨⟨_, (), rfl, rfl, trivial⟩, hS.F ht⟩) hS.2.2 dL_offenderOf_14
set_option maxHeartbeats 4000000 in
set_option maxRecDepth 100000 in
theorem f1_L_offendedOf (l : Launch) (hfl : l.stackTraces = false) (G : zG) (x : Nat) (a : Nat → Nat) (ob : Nat) (sz : Nat) (B : Nat) (σ : zS) (z : Int) (hI : zI B σ) (hzb : -2147483648 ≤ z ∧ z < 2147483648) (hbad : z < 0 ∨ (σ.1 1 : Int) ≤ z) : Met l yL_offendedOf wsL_offendedOf ({ frames := 8, cells := 1, slots := 6, locals := 132 } : Room) (va_Pc [.ref x, .int (iI z), .ref ob] (wF G x a σ sz)) (va_Qi (fun r (_ : Unit) => r = iI 1) (fun _ _ => True) (nA sz)) 1 6 (nA sz) := by
  refine va_MetW (cc := cL_offendedOf) (maxL := 4) (ret := (some .int)) (hh := [(0, 9, 12, 21)]) (by decide) rfl ?_
  intro pp ee s m args below meth c s₁ B9 hml hv
  obtain ⟨rfl, hsz, hP, hK, hE, hN⟩ := hv
  subst hsz
  have hx := B9.exec
  have hb := B9.bytes
  have hr := B9.returns
  have hts := atoms_spec (ws := wsL_offendedOf) B9.pre
  have hown : s.vm.findClass RL = some m.cls := findClass_of_methodNamed B9.named
  have hlocks := B9.notSynchronized
  have htab : c.exceptionTable.toList = tableOf [(0, 9, 12, 21)] := vx_table (x := yL_offendedOf) B9 (hts (.codeWith yL_offendedOf cL_offendedOf 4 (some .int) [(0, 9, 12, 21)]) List.mem_cons_self)
  have w_0 := hts (.classLink RL 21 zIOE) (by decide +kernel)
  have hl := lv_entry ([.ref x, .int (iI z), .ref ob]) (n := 4) (Nat.le_of_ble_eq_true rfl)
  rw [lg_entry_eq]
  generalize (lg_sl ([.ref x, .int (iI z), .ref ob]) ++ List.replicate (4 - (lg_sl ([.ref x, .int (iI z), .ref ob])).length) Slot.unset).toArray = ls at hl ⊢
  have hl : lv_has ls 4 [(0, .ref x), (1, .int (iI z)), (2, .ref ob)] := hl
  have hIn := hI.n
  refine lv_aload_n hx hb dL_offendedOf_0 rfl (lv_at hl 2 rfl) ?_
  refine lv_iconst (v := iI 0) hx hb dL_offendedOf_1 rfl ?_
  refine lv_aload_n hx hb dL_offendedOf_2 rfl (lv_at hl 0 rfl) ?_
  refine lv_iload_n hx hb dL_offendedOf_3 rfl (lv_at hl 1 rfl) ?_
  refine vx_calli (vx_runV (As := [.int (iI z)]) (rest := [.int (iI 0), .ref ob]) ⟨hx, hb, hml, hown, hts⟩ (t1_X0_offendedOf l hfl G x a s.heap.size B σ z hI hzb hbad) (cwV 1 hts gL_offendedOf_X0_offendedOf rfl rfl rfl (by decide +kernel) ⟨Nat.le_of_ble_eq_true rfl, Nat.le_of_ble_eq_true rfl⟩) (preTX hK hP hE) rfl rfl hl.1 rfl (lv_room (Nat.le_of_ble_eq_true rfl)) dL_offendedOf_4 ⟨Nat.le_of_ble_eq_true rfl, Nat.le_of_ble_eq_true rfl⟩) va_S.rf (fun q _ h => h) (fun q h => h) (fun q _ h => h) (fun E ce q9 u t H locs9 _ _ _ hE1 hz hk hS hce hcv hcl => ?_) (fun r u t H1 locs1 _ _ hf => hf.elim)
  subst hE1
  refine vx_catch (name := zIOE) hown [] ⟨0, 9, 12, 21⟩ [] htab (fun z hz => by cases hz) (by decide) (by decide) w_0 (va_tabs rfl rfl (hE.2.2.1 _ (List.mem_of_getElem? (i := 2) rfl))) hce hcv hcl ?_
  refine lv_astore_n (lv' := [(3, .ref q9), (0, .ref x), (1, .int (iI z)), (2, .ref ob)]) hx hb dL_offendedOf_12 rfl hl (by decide) rfl (fun ls hl => ?_)
  refine lv_iconst (v := iI 1) hx hb dL_offendedOf_13 rfl ?_
  exact W.iret hx hb hr (fun t ht hW => ⟨⟨_, (), rfl, rfl, trivial⟩, hS.F ht⟩) hS.2.2 dL_offendedOf_14
set_option maxHeartbeats 4000000 in
set_option maxRecDepth 100000 in
theorem f1_L_weightOf (l : Launch) (hfl : l.stackTraces = false) (G : zG) (x : Nat) (a : Nat → Nat) (ob : Nat) (sz : Nat) (B : Nat) (σ : zS) (z : Int) (hI : zI B σ) (hzb : -2147483648 ≤ z ∧ z < 2147483648) (hbad : z < 0 ∨ (σ.1 1 : Int) ≤ z) : Met l yL_weightOf wsL_weightOf ({ frames := 8, cells := 1, slots := 6, locals := 132 } : Room) (va_Pc [.ref x, .int (iI z), .ref ob] (wF G x a σ sz)) (va_Qi (fun r (_ : Unit) => r = iI 1) (fun _ _ => True) (nA sz)) 1 6 (nA sz) := by
  refine va_MetW (cc := cL_weightOf) (maxL := 4) (ret := (some .int)) (hh := [(0, 9, 12, 21)]) (by decide) rfl ?_
  intro pp ee s m args below meth c s₁ B9 hml hv
  obtain ⟨rfl, hsz, hP, hK, hE, hN⟩ := hv
  subst hsz
  have hx := B9.exec
  have hb := B9.bytes
  have hr := B9.returns
  have hts := atoms_spec (ws := wsL_weightOf) B9.pre
  have hown : s.vm.findClass RL = some m.cls := findClass_of_methodNamed B9.named
  have hlocks := B9.notSynchronized
  have htab : c.exceptionTable.toList = tableOf [(0, 9, 12, 21)] := vx_table (x := yL_weightOf) B9 (hts (.codeWith yL_weightOf cL_weightOf 4 (some .int) [(0, 9, 12, 21)]) List.mem_cons_self)
  have w_0 := hts (.classLink RL 21 zIOE) (by decide +kernel)
  have hl := lv_entry ([.ref x, .int (iI z), .ref ob]) (n := 4) (Nat.le_of_ble_eq_true rfl)
  rw [lg_entry_eq]
  generalize (lg_sl ([.ref x, .int (iI z), .ref ob]) ++ List.replicate (4 - (lg_sl ([.ref x, .int (iI z), .ref ob])).length) Slot.unset).toArray = ls at hl ⊢
  have hl : lv_has ls 4 [(0, .ref x), (1, .int (iI z)), (2, .ref ob)] := hl
  have hIn := hI.n
  refine lv_aload_n hx hb dL_weightOf_0 rfl (lv_at hl 2 rfl) ?_
  refine lv_iconst (v := iI 0) hx hb dL_weightOf_1 rfl ?_
  refine lv_aload_n hx hb dL_weightOf_2 rfl (lv_at hl 0 rfl) ?_
  refine lv_iload_n hx hb dL_weightOf_3 rfl (lv_at hl 1 rfl) ?_
  refine vx_calli (vx_runV (As := [.int (iI z)]) (rest := [.int (iI 0), .ref ob]) ⟨hx, hb, hml, hown, hts⟩ (t1_X0_weightOf l hfl G x a s.heap.size B σ z hI hzb hbad) (cwV 1 hts gL_weightOf_X0_weightOf rfl rfl rfl (by decide +kernel) ⟨Nat.le_of_ble_eq_true rfl, Nat.le_of_ble_eq_true rfl⟩) (preTX hK hP hE) rfl rfl hl.1 rfl (lv_room (Nat.le_of_ble_eq_true rfl)) dL_weightOf_4 ⟨Nat.le_of_ble_eq_true rfl, Nat.le_of_ble_eq_true rfl⟩) va_S.rf (fun q _ h => h) (fun q h => h) (fun q _ h => h) (fun E ce q9 u t H locs9 _ _ _ hE1 hz hk hS hce hcv hcl => ?_) (fun r u t H1 locs1 _ _ hf => hf.elim)
  subst hE1
  refine vx_catch (name := zIOE) hown [] ⟨0, 9, 12, 21⟩ [] htab (fun z hz => by cases hz) (by decide) (by decide) w_0 (va_tabs rfl rfl (hE.2.2.1 _ (List.mem_of_getElem? (i := 2) rfl))) hce hcv hcl ?_
  refine lv_astore_n (lv' := [(3, .ref q9), (0, .ref x), (1, .int (iI z)), (2, .ref ob)]) hx hb dL_weightOf_12 rfl hl (by decide) rfl (fun ls hl => ?_)
  refine lv_iconst (v := iI 1) hx hb dL_weightOf_13 rfl ?_
  exact W.iret hx hb hr (fun t ht hW => ⟨⟨_, (), rfl, rfl, trivial⟩, hS.F ht⟩) hS.2.2 dL_weightOf_14
set_option maxHeartbeats 4000000 in
set_option maxRecDepth 100000 in
theorem f1_L_stateOf (l : Launch) (hfl : l.stackTraces = false) (G : zG) (x : Nat) (a : Nat → Nat) (ob : Nat) (sz : Nat) (B : Nat) (σ : zS) (z : Int) (hI : zI B σ) (hzb : -2147483648 ≤ z ∧ z < 2147483648) (hbad : z < 0 ∨ (σ.1 1 : Int) ≤ z) : Met l yL_stateOf wsL_stateOf ({ frames := 8, cells := 1, slots := 6, locals := 132 } : Room) (va_Pc [.ref x, .int (iI z), .ref ob] (wF G x a σ sz)) (va_Qi (fun r (_ : Unit) => r = iI 1) (fun _ _ => True) (nA sz)) 1 6 (nA sz) := by
  refine va_MetW (cc := cL_stateOf) (maxL := 4) (ret := (some .int)) (hh := [(0, 9, 12, 21)]) (by decide) rfl ?_
  intro pp ee s m args below meth c s₁ B9 hml hv
  obtain ⟨rfl, hsz, hP, hK, hE, hN⟩ := hv
  subst hsz
  have hx := B9.exec
  have hb := B9.bytes
  have hr := B9.returns
  have hts := atoms_spec (ws := wsL_stateOf) B9.pre
  have hown : s.vm.findClass RL = some m.cls := findClass_of_methodNamed B9.named
  have hlocks := B9.notSynchronized
  have htab : c.exceptionTable.toList = tableOf [(0, 9, 12, 21)] := vx_table (x := yL_stateOf) B9 (hts (.codeWith yL_stateOf cL_stateOf 4 (some .int) [(0, 9, 12, 21)]) List.mem_cons_self)
  have w_0 := hts (.classLink RL 21 zIOE) (by decide +kernel)
  have hl := lv_entry ([.ref x, .int (iI z), .ref ob]) (n := 4) (Nat.le_of_ble_eq_true rfl)
  rw [lg_entry_eq]
  generalize (lg_sl ([.ref x, .int (iI z), .ref ob]) ++ List.replicate (4 - (lg_sl ([.ref x, .int (iI z), .ref ob])).length) Slot.unset).toArray = ls at hl ⊢
  have hl : lv_has ls 4 [(0, .ref x), (1, .int (iI z)), (2, .ref ob)] := hl
  have hIn := hI.n
  refine lv_aload_n hx hb dL_stateOf_0 rfl (lv_at hl 2 rfl) ?_
  refine lv_iconst (v := iI 0) hx hb dL_stateOf_1 rfl ?_
  refine lv_aload_n hx hb dL_stateOf_2 rfl (lv_at hl 0 rfl) ?_
  refine lv_iload_n hx hb dL_stateOf_3 rfl (lv_at hl 1 rfl) ?_
  refine vx_calli (vx_runV (As := [.int (iI z)]) (rest := [.int (iI 0), .ref ob]) ⟨hx, hb, hml, hown, hts⟩ (t1_X0_stateOf l hfl G x a s.heap.size B σ z hI hzb hbad) (cwV 1 hts gL_stateOf_X0_stateOf rfl rfl rfl (by decide +kernel) ⟨Nat.le_of_ble_eq_true rfl, Nat.le_of_ble_eq_true rfl⟩) (preTX hK hP hE) rfl rfl hl.1 rfl (lv_room (Nat.le_of_ble_eq_true rfl)) dL_stateOf_4 ⟨Nat.le_of_ble_eq_true rfl, Nat.le_of_ble_eq_true rfl⟩) va_S.rf (fun q _ h => h) (fun q h => h) (fun q _ h => h) (fun E ce q9 u t H locs9 _ _ _ hE1 hz hk hS hce hcv hcl => ?_) (fun r u t H1 locs1 _ _ hf => hf.elim)
  subst hE1
  refine vx_catch (name := zIOE) hown [] ⟨0, 9, 12, 21⟩ [] htab (fun z hz => by cases hz) (by decide) (by decide) w_0 (va_tabs rfl rfl (hE.2.2.1 _ (List.mem_of_getElem? (i := 2) rfl))) hce hcv hcl ?_
  refine lv_astore_n (lv' := [(3, .ref q9), (0, .ref x), (1, .int (iI z)), (2, .ref ob)]) hx hb dL_stateOf_12 rfl hl (by decide) rfl (fun ls hl => ?_)
  refine lv_iconst (v := iI 1) hx hb dL_stateOf_13 rfl ?_
  exact W.iret hx hb hr (fun t ht hW => ⟨⟨_, (), rfl, rfl, trivial⟩, hS.F ht⟩) hS.2.2 dL_stateOf_14
set_option maxHeartbeats 4000000 in
set_option maxRecDepth 100000 in
theorem f1_L_borneFor (l : Launch) (hfl : l.stackTraces = false) (G : zG) (x : Nat) (a : Nat → Nat) (ob : Nat) (sz : Nat) (B : Nat) (σ : zS) (z : Int) (hI : zI B σ) (hzb : -2147483648 ≤ z ∧ z < 2147483648) (hbad : z < 0 ∨ (σ.1 1 : Int) ≤ z) : Met l yL_borneFor wsL_borneFor ({ frames := 8, cells := 1, slots := 6, locals := 132 } : Room) (va_Pc [.ref x, .int (iI z), .ref ob] (wF G x a σ sz)) (va_Qi (fun r (_ : Unit) => r = iI 1) (fun _ _ => True) (nA sz)) 1 6 (nA sz) := by
  refine va_MetW (cc := cL_borneFor) (maxL := 4) (ret := (some .int)) (hh := [(0, 9, 12, 21)]) (by decide) rfl ?_
  intro pp ee s m args below meth c s₁ B9 hml hv
  obtain ⟨rfl, hsz, hP, hK, hE, hN⟩ := hv
  subst hsz
  have hx := B9.exec
  have hb := B9.bytes
  have hr := B9.returns
  have hts := atoms_spec (ws := wsL_borneFor) B9.pre
  have hown : s.vm.findClass RL = some m.cls := findClass_of_methodNamed B9.named
  have hlocks := B9.notSynchronized
  have htab : c.exceptionTable.toList = tableOf [(0, 9, 12, 21)] := vx_table (x := yL_borneFor) B9 (hts (.codeWith yL_borneFor cL_borneFor 4 (some .int) [(0, 9, 12, 21)]) List.mem_cons_self)
  have w_0 := hts (.classLink RL 21 zIOE) (by decide +kernel)
  have hl := lv_entry ([.ref x, .int (iI z), .ref ob]) (n := 4) (Nat.le_of_ble_eq_true rfl)
  rw [lg_entry_eq]
  generalize (lg_sl ([.ref x, .int (iI z), .ref ob]) ++ List.replicate (4 - (lg_sl ([.ref x, .int (iI z), .ref ob])).length) Slot.unset).toArray = ls at hl ⊢
  have hl : lv_has ls 4 [(0, .ref x), (1, .int (iI z)), (2, .ref ob)] := hl
  have hIn := hI.n
  refine lv_aload_n hx hb dL_borneFor_0 rfl (lv_at hl 2 rfl) ?_
  refine lv_iconst (v := iI 0) hx hb dL_borneFor_1 rfl ?_
  refine lv_aload_n hx hb dL_borneFor_2 rfl (lv_at hl 0 rfl) ?_
  refine lv_iload_n hx hb dL_borneFor_3 rfl (lv_at hl 1 rfl) ?_
  refine vx_calli (vx_runV (As := [.int (iI z)]) (rest := [.int (iI 0), .ref ob]) ⟨hx, hb, hml, hown, hts⟩ (t1_X0_borneFor l hfl G x a s.heap.size B σ z hI hzb hbad) (cwV 1 hts gL_borneFor_X0_borneFor rfl rfl rfl (by decide +kernel) ⟨Nat.le_of_ble_eq_true rfl, Nat.le_of_ble_eq_true rfl⟩) (preTX hK hP hE) rfl rfl hl.1 rfl (lv_room (Nat.le_of_ble_eq_true rfl)) dL_borneFor_4 ⟨Nat.le_of_ble_eq_true rfl, Nat.le_of_ble_eq_true rfl⟩) va_S.rf (fun q _ h => h) (fun q h => h) (fun q _ h => h) (fun E ce q9 u t H locs9 _ _ _ hE1 hz hk hS hce hcv hcl => ?_) (fun r u t H1 locs1 _ _ hf => hf.elim)
  subst hE1
  refine vx_catch (name := zIOE) hown [] ⟨0, 9, 12, 21⟩ [] htab (fun z hz => by cases hz) (by decide) (by decide) w_0 (va_tabs rfl rfl (hE.2.2.1 _ (List.mem_of_getElem? (i := 2) rfl))) hce hcv hcl ?_
  refine lv_astore_n (lv' := [(3, .ref q9), (0, .ref x), (1, .int (iI z)), (2, .ref ob)]) hx hb dL_borneFor_12 rfl hl (by decide) rfl (fun ls hl => ?_)
  refine lv_iconst (v := iI 1) hx hb dL_borneFor_13 rfl ?_
  exact W.iret hx hb hr (fun t ht hW => ⟨⟨_, (), rfl, rfl, trivial⟩, hS.F ht⟩) hS.2.2 dL_borneFor_14
set_option maxHeartbeats 4000000 in
set_option maxRecDepth 100000 in
theorem f1_L_quietFor (l : Launch) (hfl : l.stackTraces = false) (G : zG) (x : Nat) (a : Nat → Nat) (ob : Nat) (sz : Nat) (B : Nat) (σ : zS) (z : Int) (hI : zI B σ) (hzb : -2147483648 ≤ z ∧ z < 2147483648) (hbad : z < 0 ∨ (σ.1 1 : Int) ≤ z) : Met l yL_quietFor wsL_quietFor ({ frames := 8, cells := 1, slots := 6, locals := 132 } : Room) (va_Pc [.ref x, .int (iI z), .ref ob] (wF G x a σ sz)) (va_Qi (fun r (_ : Unit) => r = iI 1) (fun _ _ => True) (nA sz)) 1 6 (nA sz) := by
  refine va_MetW (cc := cL_quietFor) (maxL := 4) (ret := (some .int)) (hh := [(0, 9, 12, 21)]) (by decide) rfl ?_
  intro pp ee s m args below meth c s₁ B9 hml hv
  obtain ⟨rfl, hsz, hP, hK, hE, hN⟩ := hv
  subst hsz
  have hx := B9.exec
  have hb := B9.bytes
  have hr := B9.returns
  have hts := atoms_spec (ws := wsL_quietFor) B9.pre
  have hown : s.vm.findClass RL = some m.cls := findClass_of_methodNamed B9.named
  have hlocks := B9.notSynchronized
  have htab : c.exceptionTable.toList = tableOf [(0, 9, 12, 21)] := vx_table (x := yL_quietFor) B9 (hts (.codeWith yL_quietFor cL_quietFor 4 (some .int) [(0, 9, 12, 21)]) List.mem_cons_self)
  have w_0 := hts (.classLink RL 21 zIOE) (by decide +kernel)
  have hl := lv_entry ([.ref x, .int (iI z), .ref ob]) (n := 4) (Nat.le_of_ble_eq_true rfl)
  rw [lg_entry_eq]
  generalize (lg_sl ([.ref x, .int (iI z), .ref ob]) ++ List.replicate (4 - (lg_sl ([.ref x, .int (iI z), .ref ob])).length) Slot.unset).toArray = ls at hl ⊢
  have hl : lv_has ls 4 [(0, .ref x), (1, .int (iI z)), (2, .ref ob)] := hl
  have hIn := hI.n
  refine lv_aload_n hx hb dL_quietFor_0 rfl (lv_at hl 2 rfl) ?_
  refine lv_iconst (v := iI 0) hx hb dL_quietFor_1 rfl ?_
  refine lv_aload_n hx hb dL_quietFor_2 rfl (lv_at hl 0 rfl) ?_
  refine lv_iload_n hx hb dL_quietFor_3 rfl (lv_at hl 1 rfl) ?_
  refine vx_calli (vx_runV (As := [.int (iI z)]) (rest := [.int (iI 0), .ref ob]) ⟨hx, hb, hml, hown, hts⟩ (t1_X0_quietFor l hfl G x a s.heap.size B σ z hI hzb hbad) (cwV 1 hts gL_quietFor_X0_quietFor rfl rfl rfl (by decide +kernel) ⟨Nat.le_of_ble_eq_true rfl, Nat.le_of_ble_eq_true rfl⟩) (preTX hK hP hE) rfl rfl hl.1 rfl (lv_room (Nat.le_of_ble_eq_true rfl)) dL_quietFor_4 ⟨Nat.le_of_ble_eq_true rfl, Nat.le_of_ble_eq_true rfl⟩) va_S.rf (fun q _ h => h) (fun q h => h) (fun q _ h => h) (fun E ce q9 u t H locs9 _ _ _ hE1 hz hk hS hce hcv hcl => ?_) (fun r u t H1 locs1 _ _ hf => hf.elim)
  subst hE1
  refine vx_catch (name := zIOE) hown [] ⟨0, 9, 12, 21⟩ [] htab (fun z hz => by cases hz) (by decide) (by decide) w_0 (va_tabs rfl rfl (hE.2.2.1 _ (List.mem_of_getElem? (i := 2) rfl))) hce hcv hcl ?_
  refine lv_astore_n (lv' := [(3, .ref q9), (0, .ref x), (1, .int (iI z)), (2, .ref ob)]) hx hb dL_quietFor_12 rfl hl (by decide) rfl (fun ls hl => ?_)
  refine lv_iconst (v := iI 1) hx hb dL_quietFor_13 rfl ?_
  exact W.iret hx hb hr (fun t ht hW => ⟨⟨_, (), rfl, rfl, trivial⟩, hS.F ht⟩) hS.2.2 dL_quietFor_14
set_option maxHeartbeats 4000000 in
set_option maxRecDepth 100000 in
theorem f1_L_witnessesFor (l : Launch) (hfl : l.stackTraces = false) (G : zG) (x : Nat) (a : Nat → Nat) (ob : Nat) (sz : Nat) (B : Nat) (σ : zS) (z : Int) (hI : zI B σ) (hzb : -2147483648 ≤ z ∧ z < 2147483648) (hbad : z < 0 ∨ (σ.1 1 : Int) ≤ z) : Met l yL_witnessesFor wsL_witnessesFor ({ frames := 8, cells := 1, slots := 6, locals := 134 } : Room) (va_Pc [.ref x, .int (iI z), .ref ob] (wF G x a σ sz)) (va_Qi (fun r (_ : Unit) => r = iI 1) (fun _ _ => True) (nA sz)) 1 6 (nA sz) := by
  refine va_MetW (cc := cL_witnessesFor) (maxL := 4) (ret := (some .int)) (hh := [(0, 9, 12, 21)]) (by decide) rfl ?_
  intro pp ee s m args below meth c s₁ B9 hml hv
  obtain ⟨rfl, hsz, hP, hK, hE, hN⟩ := hv
  subst hsz
  have hx := B9.exec
  have hb := B9.bytes
  have hr := B9.returns
  have hts := atoms_spec (ws := wsL_witnessesFor) B9.pre
  have hown : s.vm.findClass RL = some m.cls := findClass_of_methodNamed B9.named
  have hlocks := B9.notSynchronized
  have htab : c.exceptionTable.toList = tableOf [(0, 9, 12, 21)] := vx_table (x := yL_witnessesFor) B9 (hts (.codeWith yL_witnessesFor cL_witnessesFor 4 (some .int) [(0, 9, 12, 21)]) List.mem_cons_self)
  have w_0 := hts (.classLink RL 21 zIOE) (by decide +kernel)
  have hl := lv_entry ([.ref x, .int (iI z), .ref ob]) (n := 4) (Nat.le_of_ble_eq_true rfl)
  rw [lg_entry_eq]
  generalize (lg_sl ([.ref x, .int (iI z), .ref ob]) ++ List.replicate (4 - (lg_sl ([.ref x, .int (iI z), .ref ob])).length) Slot.unset).toArray = ls at hl ⊢
  have hl : lv_has ls 4 [(0, .ref x), (1, .int (iI z)), (2, .ref ob)] := hl
  have hIn := hI.n
  refine lv_aload_n hx hb dL_witnessesFor_0 rfl (lv_at hl 2 rfl) ?_
  refine lv_iconst (v := iI 0) hx hb dL_witnessesFor_1 rfl ?_
  refine lv_aload_n hx hb dL_witnessesFor_2 rfl (lv_at hl 0 rfl) ?_
  refine lv_iload_n hx hb dL_witnessesFor_3 rfl (lv_at hl 1 rfl) ?_
  refine vx_calli (vx_runV (As := [.int (iI z)]) (rest := [.int (iI 0), .ref ob]) ⟨hx, hb, hml, hown, hts⟩ (t1_X0_witnessesFor l hfl G x a s.heap.size B σ z hI hzb hbad) (cwV 1 hts gL_witnessesFor_X0_witnessesFor rfl rfl rfl (by decide +kernel) ⟨Nat.le_of_ble_eq_true rfl, Nat.le_of_ble_eq_true rfl⟩) (preTX hK hP hE) rfl rfl hl.1 rfl (lv_room (Nat.le_of_ble_eq_true rfl)) dL_witnessesFor_4 ⟨Nat.le_of_ble_eq_true rfl, Nat.le_of_ble_eq_true rfl⟩) va_S.rf (fun q _ h => h) (fun q h => h) (fun q _ h => h) (fun E ce q9 u t H locs9 _ _ _ hE1 hz hk hS hce hcv hcl => ?_) (fun r u t H1 locs1 _ _ hf => hf.elim)
  subst hE1
  refine vx_catch (name := zIOE) hown [] ⟨0, 9, 12, 21⟩ [] htab (fun z hz => by cases hz) (by decide) (by decide) w_0 (va_tabs rfl rfl (hE.2.2.1 _ (List.mem_of_getElem? (i := 2) rfl))) hce hcv hcl ?_
  refine lv_astore_n (lv' := [(3, .ref q9), (0, .ref x), (1, .int (iI z)), (2, .ref ob)]) hx hb dL_witnessesFor_12 rfl hl (by decide) rfl (fun ls hl => ?_)
  refine lv_iconst (v := iI 1) hx hb dL_witnessesFor_13 rfl ?_
  exact W.iret hx hb hr (fun t ht hW => ⟨⟨_, (), rfl, rfl, trivial⟩, hS.F ht⟩) hS.2.2 dL_witnessesFor_14
set_option maxHeartbeats 4000000 in
set_option maxRecDepth 100000 in
theorem f1_L_wordsWanted (l : Launch) (hfl : l.stackTraces = false) (G : zG) (x : Nat) (a : Nat → Nat) (ob : Nat) (sz : Nat) (B : Nat) (σ : zS) (z : Int) (hI : zI B σ) (hzb : -2147483648 ≤ z ∧ z < 2147483648) (hbad : z < 0 ∨ (σ.1 1 : Int) ≤ z) : Met l yL_wordsWanted wsL_wordsWanted ({ frames := 8, cells := 1, slots := 6, locals := 134 } : Room) (va_Pc [.ref x, .int (iI z), .ref ob] (wF G x a σ sz)) (va_Qi (fun r (_ : Unit) => r = iI 1) (fun _ _ => True) (nA sz)) 1 6 (nA sz) := by
  refine va_MetW (cc := cL_wordsWanted) (maxL := 4) (ret := (some .int)) (hh := [(0, 9, 12, 21)]) (by decide) rfl ?_
  intro pp ee s m args below meth c s₁ B9 hml hv
  obtain ⟨rfl, hsz, hP, hK, hE, hN⟩ := hv
  subst hsz
  have hx := B9.exec
  have hb := B9.bytes
  have hr := B9.returns
  have hts := atoms_spec (ws := wsL_wordsWanted) B9.pre
  have hown : s.vm.findClass RL = some m.cls := findClass_of_methodNamed B9.named
  have hlocks := B9.notSynchronized
  have htab : c.exceptionTable.toList = tableOf [(0, 9, 12, 21)] := vx_table (x := yL_wordsWanted) B9 (hts (.codeWith yL_wordsWanted cL_wordsWanted 4 (some .int) [(0, 9, 12, 21)]) List.mem_cons_self)
  have w_0 := hts (.classLink RL 21 zIOE) (by decide +kernel)
  have hl := lv_entry ([.ref x, .int (iI z), .ref ob]) (n := 4) (Nat.le_of_ble_eq_true rfl)
  rw [lg_entry_eq]
  generalize (lg_sl ([.ref x, .int (iI z), .ref ob]) ++ List.replicate (4 - (lg_sl ([.ref x, .int (iI z), .ref ob])).length) Slot.unset).toArray = ls at hl ⊢
  have hl : lv_has ls 4 [(0, .ref x), (1, .int (iI z)), (2, .ref ob)] := hl
  have hIn := hI.n
  refine lv_aload_n hx hb dL_wordsWanted_0 rfl (lv_at hl 2 rfl) ?_
  refine lv_iconst (v := iI 0) hx hb dL_wordsWanted_1 rfl ?_
  refine lv_aload_n hx hb dL_wordsWanted_2 rfl (lv_at hl 0 rfl) ?_
  refine lv_iload_n hx hb dL_wordsWanted_3 rfl (lv_at hl 1 rfl) ?_
  refine vx_calli (vx_runV (As := [.int (iI z)]) (rest := [.int (iI 0), .ref ob]) ⟨hx, hb, hml, hown, hts⟩ (t1_X0_wordsWanted l hfl G x a s.heap.size B σ z hI hzb hbad) (cwV 1 hts gL_wordsWanted_X0_wordsWanted rfl rfl rfl (by decide +kernel) ⟨Nat.le_of_ble_eq_true rfl, Nat.le_of_ble_eq_true rfl⟩) (preTX hK hP hE) rfl rfl hl.1 rfl (lv_room (Nat.le_of_ble_eq_true rfl)) dL_wordsWanted_4 ⟨Nat.le_of_ble_eq_true rfl, Nat.le_of_ble_eq_true rfl⟩) va_S.rf (fun q _ h => h) (fun q h => h) (fun q _ h => h) (fun E ce q9 u t H locs9 _ _ _ hE1 hz hk hS hce hcv hcl => ?_) (fun r u t H1 locs1 _ _ hf => hf.elim)
  subst hE1
  refine vx_catch (name := zIOE) hown [] ⟨0, 9, 12, 21⟩ [] htab (fun z hz => by cases hz) (by decide) (by decide) w_0 (va_tabs rfl rfl (hE.2.2.1 _ (List.mem_of_getElem? (i := 2) rfl))) hce hcv hcl ?_
  refine lv_astore_n (lv' := [(3, .ref q9), (0, .ref x), (1, .int (iI z)), (2, .ref ob)]) hx hb dL_wordsWanted_12 rfl hl (by decide) rfl (fun ls hl => ?_)
  refine lv_iconst (v := iI 1) hx hb dL_wordsWanted_13 rfl ?_
  exact W.iret hx hb hr (fun t ht hW => ⟨⟨_, (), rfl, rfl, trivial⟩, hS.F ht⟩) hS.2.2 dL_wordsWanted_14
set_option maxHeartbeats 4000000 in
set_option maxRecDepth 100000 in
theorem f1_L_daysUntilForgotten (l : Launch) (hfl : l.stackTraces = false) (G : zG) (x : Nat) (a : Nat → Nat) (ob : Nat) (sz : Nat) (B : Nat) (σ : zS) (z : Int) (hI : zI B σ) (hzb : -2147483648 ≤ z ∧ z < 2147483648) (hbad : z < 0 ∨ (σ.1 1 : Int) ≤ z) : Met l yL_daysUntilForgotten wsL_daysUntilForgotten ({ frames := 8, cells := 1, slots := 6, locals := 132 } : Room) (va_Pc [.ref x, .int (iI z), .ref ob] (wF G x a σ sz)) (va_Qi (fun r (_ : Unit) => r = iI 1) (fun _ _ => True) (nA sz)) 1 6 (nA sz) := by
  refine va_MetW (cc := cL_daysUntilForgotten) (maxL := 4) (ret := (some .int)) (hh := [(0, 9, 12, 21)]) (by decide) rfl ?_
  intro pp ee s m args below meth c s₁ B9 hml hv
  obtain ⟨rfl, hsz, hP, hK, hE, hN⟩ := hv
  subst hsz
  have hx := B9.exec
  have hb := B9.bytes
  have hr := B9.returns
  have hts := atoms_spec (ws := wsL_daysUntilForgotten) B9.pre
  have hown : s.vm.findClass RL = some m.cls := findClass_of_methodNamed B9.named
  have hlocks := B9.notSynchronized
  have htab : c.exceptionTable.toList = tableOf [(0, 9, 12, 21)] := vx_table (x := yL_daysUntilForgotten) B9 (hts (.codeWith yL_daysUntilForgotten cL_daysUntilForgotten 4 (some .int) [(0, 9, 12, 21)]) List.mem_cons_self)
  have w_0 := hts (.classLink RL 21 zIOE) (by decide +kernel)
  have hl := lv_entry ([.ref x, .int (iI z), .ref ob]) (n := 4) (Nat.le_of_ble_eq_true rfl)
  rw [lg_entry_eq]
  generalize (lg_sl ([.ref x, .int (iI z), .ref ob]) ++ List.replicate (4 - (lg_sl ([.ref x, .int (iI z), .ref ob])).length) Slot.unset).toArray = ls at hl ⊢
  have hl : lv_has ls 4 [(0, .ref x), (1, .int (iI z)), (2, .ref ob)] := hl
  have hIn := hI.n
  refine lv_aload_n hx hb dL_daysUntilForgotten_0 rfl (lv_at hl 2 rfl) ?_
  refine lv_iconst (v := iI 0) hx hb dL_daysUntilForgotten_1 rfl ?_
  refine lv_aload_n hx hb dL_daysUntilForgotten_2 rfl (lv_at hl 0 rfl) ?_
  refine lv_iload_n hx hb dL_daysUntilForgotten_3 rfl (lv_at hl 1 rfl) ?_
  refine vx_calli (vx_runV (As := [.int (iI z)]) (rest := [.int (iI 0), .ref ob]) ⟨hx, hb, hml, hown, hts⟩ (t1_X0_daysUntilForgotten l hfl G x a s.heap.size B σ z hI hzb hbad) (cwV 1 hts gL_daysUntilForgotten_X0_daysUntilForgotten rfl rfl rfl (by decide +kernel) ⟨Nat.le_of_ble_eq_true rfl, Nat.le_of_ble_eq_true rfl⟩) (preTX hK hP hE) rfl rfl hl.1 rfl (lv_room (Nat.le_of_ble_eq_true rfl)) dL_daysUntilForgotten_4 ⟨Nat.le_of_ble_eq_true rfl, Nat.le_of_ble_eq_true rfl⟩) va_S.rf (fun q _ h => h) (fun q h => h) (fun q _ h => h) (fun E ce q9 u t H locs9 _ _ _ hE1 hz hk hS hce hcv hcl => ?_) (fun r u t H1 locs1 _ _ hf => hf.elim)
  subst hE1
  refine vx_catch (name := zIOE) hown [] ⟨0, 9, 12, 21⟩ [] htab (fun z hz => by cases hz) (by decide) (by decide) w_0 (va_tabs rfl rfl (hE.2.2.1 _ (List.mem_of_getElem? (i := 2) rfl))) hce hcv hcl ?_
  refine lv_astore_n (lv' := [(3, .ref q9), (0, .ref x), (1, .int (iI z)), (2, .ref ob)]) hx hb dL_daysUntilForgotten_12 rfl hl (by decide) rfl (fun ls hl => ?_)
  refine lv_iconst (v := iI 1) hx hb dL_daysUntilForgotten_13 rfl ?_
  exact W.iret hx hb hr (fun t ht hW => ⟨⟨_, (), rfl, rfl, trivial⟩, hS.F ht⟩) hS.2.2 dL_daysUntilForgotten_14
set_option maxHeartbeats 4000000 in
set_option maxRecDepth 100000 in
theorem f1_L_addPerson (l : Launch) (hfl : l.stackTraces = false) (G : zG) (x : Nat) (a : Nat → Nat) (ob : Nat) (sz : Nat) (B : Nat) (σ : zS) (z : Int) (hI : zI B σ) (hzb : -2147483648 ≤ z ∧ z < 2147483648) (hbad : z < 0 ∨ 9 < z) : Met l yL_addPerson wsL_addPerson ({ frames := 8, cells := 1, slots := 6, locals := 132 } : Room) (va_Pc [.ref x, .int (iI z), .ref ob] (wF G x a σ sz)) (va_Qi (fun r (_ : Unit) => r = iI 1) (fun _ _ => True) (nA sz)) 1 6 (nA sz) := by
  refine va_MetW (cc := cL_addPerson) (maxL := 4) (ret := (some .int)) (hh := [(0, 9, 12, 13), (0, 9, 15, 15)]) (by decide) rfl ?_
  intro pp ee s m args below meth c s₁ B9 hml hv
  obtain ⟨rfl, hsz, hP, hK, hE, hN⟩ := hv
  subst hsz
  have hx := B9.exec
  have hb := B9.bytes
  have hr := B9.returns
  have hts := atoms_spec (ws := wsL_addPerson) B9.pre
  have hown : s.vm.findClass RL = some m.cls := findClass_of_methodNamed B9.named
  have hlocks := B9.notSynchronized
  have htab : c.exceptionTable.toList = tableOf [(0, 9, 12, 13), (0, 9, 15, 15)] := vx_table (x := yL_addPerson) B9 (hts (.codeWith yL_addPerson cL_addPerson 4 (some .int) [(0, 9, 12, 13), (0, 9, 15, 15)]) List.mem_cons_self)
  have w_0 := hts (.classLink RL 13 zIAE) (by decide +kernel)
  have hl := lv_entry ([.ref x, .int (iI z), .ref ob]) (n := 4) (Nat.le_of_ble_eq_true rfl)
  rw [lg_entry_eq]
  generalize (lg_sl ([.ref x, .int (iI z), .ref ob]) ++ List.replicate (4 - (lg_sl ([.ref x, .int (iI z), .ref ob])).length) Slot.unset).toArray = ls at hl ⊢
  have hl : lv_has ls 4 [(0, .ref x), (1, .int (iI z)), (2, .ref ob)] := hl
  have hIn := hI.n
  refine lv_aload_n hx hb dL_addPerson_0 rfl (lv_at hl 2 rfl) ?_
  refine lv_iconst (v := iI 0) hx hb dL_addPerson_1 rfl ?_
  refine lv_aload_n hx hb dL_addPerson_2 rfl (lv_at hl 0 rfl) ?_
  refine lv_iload_n hx hb dL_addPerson_3 rfl (lv_at hl 1 rfl) ?_
  refine vx_calli (vx_runV (As := [.int (iI z)]) (rest := [.int (iI 0), .ref ob]) ⟨hx, hb, hml, hown, hts⟩ (t1_X0_addPerson l hfl G x a s.heap.size B σ z hI hzb hbad) (cwV 1 hts gL_addPerson_X0_addPerson rfl rfl rfl (by decide +kernel) ⟨Nat.le_of_ble_eq_true rfl, Nat.le_of_ble_eq_true rfl⟩) (preTX hK hP hE) rfl rfl hl.1 rfl (lv_room (Nat.le_of_ble_eq_true rfl)) dL_addPerson_4 ⟨Nat.le_of_ble_eq_true rfl, Nat.le_of_ble_eq_true rfl⟩) va_S.rf (fun q _ h => h) (fun q h => h) (fun q _ h => h) (fun E ce q9 u t H locs9 _ _ _ hE1 hz hk hS hce hcv hcl => ?_) (fun r u t H1 locs1 _ _ hf => hf.elim)
  subst hE1
  refine vx_catch (name := zIAE) hown [] ⟨0, 9, 12, 13⟩ [⟨0, 9, 15, 15⟩] htab (fun z hz => by cases hz) (by decide) (by decide) w_0 (va_tabs rfl rfl (hE.2.2.1 _ (List.mem_of_getElem? (i := 0) rfl))) hce hcv hcl ?_
  refine lv_astore_n (lv' := [(3, .ref q9), (0, .ref x), (1, .int (iI z)), (2, .ref ob)]) hx hb dL_addPerson_12 rfl hl (by decide) rfl (fun ls hl => ?_)
  refine lv_iconst (v := iI 1) hx hb dL_addPerson_13 rfl ?_
  exact W.iret hx hb hr (fun t ht hW => ⟨⟨_, (), rfl, rfl, trivial⟩, hS.F ht⟩) hS.2.2 dL_addPerson_14
set_option maxHeartbeats 4000000 in
set_option maxRecDepth 100000 in
theorem f2_L_addPerson (l : Launch) (hfl : l.stackTraces = false) (G : zG) (x : Nat) (a : Nat → Nat) (ob : Nat) (sz : Nat) (B : Nat) (σ : zS) (z : Int) (hI : zI B σ) (hz : 0 ≤ z ∧ z ≤ 9) (hfull : σ.1 0 = 6) : Met l yL_addPerson wsL_addPerson ({ frames := 7, cells := 1, slots := 6, locals := 112 } : Room) (va_Pc [.ref x, .int (iI z), .ref ob] (wF G x a σ sz)) (va_Qi (fun r (_ : Unit) => r = iI 2) (fun _ _ => True) (nA sz)) 1 6 (nA sz) := by
  refine va_MetW (cc := cL_addPerson) (maxL := 4) (ret := (some .int)) (hh := [(0, 9, 12, 13), (0, 9, 15, 15)]) (by decide) rfl ?_
  intro pp ee s m args below meth c s₁ B9 hml hv
  obtain ⟨rfl, hsz, hP, hK, hE, hN⟩ := hv
  subst hsz
  have hx := B9.exec
  have hb := B9.bytes
  have hr := B9.returns
  have hts := atoms_spec (ws := wsL_addPerson) B9.pre
  have hown : s.vm.findClass RL = some m.cls := findClass_of_methodNamed B9.named
  have hlocks := B9.notSynchronized
  have htab : c.exceptionTable.toList = tableOf [(0, 9, 12, 13), (0, 9, 15, 15)] := vx_table (x := yL_addPerson) B9 (hts (.codeWith yL_addPerson cL_addPerson 4 (some .int) [(0, 9, 12, 13), (0, 9, 15, 15)]) List.mem_cons_self)
  have w_0 := hts (.classLink RL 13 zIAE) (by decide +kernel)
  have w_1 := hts (.classLink RL 15 zISE) (by decide +kernel)
  have hl := lv_entry ([.ref x, .int (iI z), .ref ob]) (n := 4) (Nat.le_of_ble_eq_true rfl)
  rw [lg_entry_eq]
  generalize (lg_sl ([.ref x, .int (iI z), .ref ob]) ++ List.replicate (4 - (lg_sl ([.ref x, .int (iI z), .ref ob])).length) Slot.unset).toArray = ls at hl ⊢
  have hl : lv_has ls 4 [(0, .ref x), (1, .int (iI z)), (2, .ref ob)] := hl
  have hIn := hI.n
  refine lv_aload_n hx hb dL_addPerson_0 rfl (lv_at hl 2 rfl) ?_
  refine lv_iconst (v := iI 0) hx hb dL_addPerson_1 rfl ?_
  refine lv_aload_n hx hb dL_addPerson_2 rfl (lv_at hl 0 rfl) ?_
  refine lv_iload_n hx hb dL_addPerson_3 rfl (lv_at hl 1 rfl) ?_
  refine vx_calli (vx_runV (As := [.int (iI z)]) (rest := [.int (iI 0), .ref ob]) ⟨hx, hb, hml, hown, hts⟩ (t2_X0_addPerson l hfl G x a s.heap.size B σ z hI hz hfull) (cwV 1 hts gL_addPerson_X0_addPerson rfl rfl rfl (by decide +kernel) ⟨Nat.le_of_ble_eq_true rfl, Nat.le_of_ble_eq_true rfl⟩) (preTX hK hP hE) rfl rfl hl.1 rfl (lv_room (Nat.le_of_ble_eq_true rfl)) dL_addPerson_4 ⟨Nat.le_of_ble_eq_true rfl, Nat.le_of_ble_eq_true rfl⟩) va_S.rf (fun q _ h => h) (fun q h => h) (fun q _ h => h) (fun E ce q9 u t H locs9 _ _ _ hE1 hz hk hS hce hcv hcl => ?_) (fun r u t H1 locs1 _ _ hf => hf.elim)
  subst hE1
  refine vx_catch (name := zISE) hown [⟨0, 9, 12, 13⟩] ⟨0, 9, 15, 15⟩ [] htab (fun z hz => by
      rcases (by simpa using hz : z = (⟨0, 9, 12, 13⟩ : ExceptionTableEntry)) with h <;> subst h
      · exact Or.inr ⟨by decide, zIAE, w_0, hN.1⟩) (by decide) (by decide) w_1 (va_tabs rfl rfl (hE.2.2.1 _ (List.mem_of_getElem? (i := 1) rfl))) hce hcv hcl ?_
  refine lv_astore_n (lv' := [(3, .ref q9), (0, .ref x), (1, .int (iI z)), (2, .ref ob)]) hx hb dL_addPerson_15 rfl hl (by decide) rfl (fun ls hl => ?_)
  refine lv_iconst (v := iI 2) hx hb dL_addPerson_16 rfl ?_
  exact W.iret hx hb hr (fun t ht hW => ⟨⟨_, (), rfl, rfl, trivial⟩, hS.F ht⟩) hS.2.2 dL_addPerson_17
set_option maxHeartbeats 4000000 in
set_option maxRecDepth 100000 in
theorem f1_L_slight (l : Launch) (hfl : l.stackTraces = false) (G : zG) (x : Nat) (a : Nat → Nat) (ob : Nat) (sz : Nat) (B : Nat) (σ : zS) (z : Int) (y : Int) (w : Int) (hI : zI B σ) (hzb : -2147483648 ≤ z ∧ z < 2147483648) (hbad : z < 0 ∨ (σ.1 0 : Int) ≤ z) : Met l yL_slight wsL_slight ({ frames := 8, cells := 1, slots := 6, locals := 135 } : Room) (va_Pc [.ref x, .int (iI z), .int (iI y), .int (iI w), .ref ob] (wF G x a σ sz)) (va_Qi (fun r (_ : Unit) => r = iI 1) (fun _ _ => True) (nA sz)) 1 6 (nA sz) := by
  refine va_MetW (cc := cL_slight) (maxL := 6) (ret := (some .int)) (hh := [(0, 12, 15, 21), (0, 12, 19, 13), (0, 12, 23, 15)]) (by decide) rfl ?_
  intro pp ee s m args below meth c s₁ B9 hml hv
  obtain ⟨rfl, hsz, hP, hK, hE, hN⟩ := hv
  subst hsz
  have hx := B9.exec
  have hb := B9.bytes
  have hr := B9.returns
  have hts := atoms_spec (ws := wsL_slight) B9.pre
  have hown : s.vm.findClass RL = some m.cls := findClass_of_methodNamed B9.named
  have hlocks := B9.notSynchronized
  have htab : c.exceptionTable.toList = tableOf [(0, 12, 15, 21), (0, 12, 19, 13), (0, 12, 23, 15)] := vx_table (x := yL_slight) B9 (hts (.codeWith yL_slight cL_slight 6 (some .int) [(0, 12, 15, 21), (0, 12, 19, 13), (0, 12, 23, 15)]) List.mem_cons_self)
  have w_0 := hts (.classLink RL 21 zIOE) (by decide +kernel)
  have hl := lv_entry ([.ref x, .int (iI z), .int (iI y), .int (iI w), .ref ob]) (n := 6) (Nat.le_of_ble_eq_true rfl)
  rw [lg_entry_eq]
  generalize (lg_sl ([.ref x, .int (iI z), .int (iI y), .int (iI w), .ref ob]) ++ List.replicate (6 - (lg_sl ([.ref x, .int (iI z), .int (iI y), .int (iI w), .ref ob])).length) Slot.unset).toArray = ls at hl ⊢
  have hl : lv_has ls 6 [(0, .ref x), (1, .int (iI z)), (2, .int (iI y)), (3, .int (iI w)), (4, .ref ob)] := hl
  have hIn := hI.n
  refine lv_aload hx hb dL_slight_0 (lv_at hl 4 rfl) ?_
  refine lv_iconst (v := iI 0) hx hb dL_slight_2 rfl ?_
  refine lv_aload_n hx hb dL_slight_3 rfl (lv_at hl 0 rfl) ?_
  refine lv_iload_n hx hb dL_slight_4 rfl (lv_at hl 1 rfl) ?_
  refine lv_iload_n hx hb dL_slight_5 rfl (lv_at hl 2 rfl) ?_
  refine lv_iload_n hx hb dL_slight_6 rfl (lv_at hl 3 rfl) ?_
  refine vx_calli (vx_runV (As := [.int (iI z), .int (iI y), .int (iI w)]) (rest := [.int (iI 0), .ref ob]) ⟨hx, hb, hml, hown, hts⟩ (t1_X0_slight l hfl G x a s.heap.size B σ z y w hI hzb hbad) (cwV 3 hts gL_slight_X0_slight rfl rfl rfl (by decide +kernel) ⟨Nat.le_of_ble_eq_true rfl, Nat.le_of_ble_eq_true rfl⟩) (preTX hK hP hE) rfl rfl hl.1 rfl (lv_room (Nat.le_of_ble_eq_true rfl)) dL_slight_7 ⟨Nat.le_of_ble_eq_true rfl, Nat.le_of_ble_eq_true rfl⟩) va_S.rf (fun q _ h => h) (fun q h => h) (fun q _ h => h) (fun E ce q9 u t H locs9 _ _ _ hE1 hz hk hS hce hcv hcl => ?_) (fun r u t H1 locs1 _ _ hf => hf.elim)
  subst hE1
  refine vx_catch (name := zIOE) hown [] ⟨0, 12, 15, 21⟩ [⟨0, 12, 19, 13⟩, ⟨0, 12, 23, 15⟩] htab (fun z hz => by cases hz) (by decide) (by decide) w_0 (va_tabs rfl rfl (hE.2.2.1 _ (List.mem_of_getElem? (i := 2) rfl))) hce hcv hcl ?_
  refine lv_astore (lv' := [(5, .ref q9), (0, .ref x), (1, .int (iI z)), (2, .int (iI y)), (3, .int (iI w)), (4, .ref ob)]) hx hb dL_slight_15 hl (by decide) rfl (fun ls hl => ?_)
  refine lv_iconst (v := iI 1) hx hb dL_slight_17 rfl ?_
  exact W.iret hx hb hr (fun t ht hW => ⟨⟨_, (), rfl, rfl, trivial⟩, hS.F ht⟩) hS.2.2 dL_slight_18
set_option maxHeartbeats 4000000 in
set_option maxRecDepth 100000 in
theorem f2_L_slight (l : Launch) (hfl : l.stackTraces = false) (G : zG) (x : Nat) (a : Nat → Nat) (ob : Nat) (sz : Nat) (B : Nat) (σ : zS) (i : Nat) (z : Int) (w : Int) (hI : zI B σ) (hi : i < σ.1 0) (hzb : -2147483648 ≤ z ∧ z < 2147483648) (hbad : z < 0 ∨ (σ.1 0 : Int) ≤ z) : Met l yL_slight wsL_slight ({ frames := 8, cells := 1, slots := 6, locals := 135 } : Room) (va_Pc [.ref x, .int (iI (i : Int)), .int (iI z), .int (iI w), .ref ob] (wF G x a σ sz)) (va_Qi (fun r (_ : Unit) => r = iI 1) (fun _ _ => True) (nA sz)) 1 6 (nA sz) := by
  refine va_MetW (cc := cL_slight) (maxL := 6) (ret := (some .int)) (hh := [(0, 12, 15, 21), (0, 12, 19, 13), (0, 12, 23, 15)]) (by decide) rfl ?_
  intro pp ee s m args below meth c s₁ B9 hml hv
  obtain ⟨rfl, hsz, hP, hK, hE, hN⟩ := hv
  subst hsz
  have hx := B9.exec
  have hb := B9.bytes
  have hr := B9.returns
  have hts := atoms_spec (ws := wsL_slight) B9.pre
  have hown : s.vm.findClass RL = some m.cls := findClass_of_methodNamed B9.named
  have hlocks := B9.notSynchronized
  have htab : c.exceptionTable.toList = tableOf [(0, 12, 15, 21), (0, 12, 19, 13), (0, 12, 23, 15)] := vx_table (x := yL_slight) B9 (hts (.codeWith yL_slight cL_slight 6 (some .int) [(0, 12, 15, 21), (0, 12, 19, 13), (0, 12, 23, 15)]) List.mem_cons_self)
  have w_0 := hts (.classLink RL 21 zIOE) (by decide +kernel)
  have hl := lv_entry ([.ref x, .int (iI (i : Int)), .int (iI z), .int (iI w), .ref ob]) (n := 6) (Nat.le_of_ble_eq_true rfl)
  rw [lg_entry_eq]
  generalize (lg_sl ([.ref x, .int (iI (i : Int)), .int (iI z), .int (iI w), .ref ob]) ++ List.replicate (6 - (lg_sl ([.ref x, .int (iI (i : Int)), .int (iI z), .int (iI w), .ref ob])).length) Slot.unset).toArray = ls at hl ⊢
  have hl : lv_has ls 6 [(0, .ref x), (1, .int (iI (i : Int))), (2, .int (iI z)), (3, .int (iI w)), (4, .ref ob)] := hl
  have hIn := hI.n
  refine lv_aload hx hb dL_slight_0 (lv_at hl 4 rfl) ?_
  refine lv_iconst (v := iI 0) hx hb dL_slight_2 rfl ?_
  refine lv_aload_n hx hb dL_slight_3 rfl (lv_at hl 0 rfl) ?_
  refine lv_iload_n hx hb dL_slight_4 rfl (lv_at hl 1 rfl) ?_
  refine lv_iload_n hx hb dL_slight_5 rfl (lv_at hl 2 rfl) ?_
  refine lv_iload_n hx hb dL_slight_6 rfl (lv_at hl 3 rfl) ?_
  refine vx_calli (vx_runV (As := [.int (iI (i : Int)), .int (iI z), .int (iI w)]) (rest := [.int (iI 0), .ref ob]) ⟨hx, hb, hml, hown, hts⟩ (t2_X0_slight l hfl G x a s.heap.size B σ i z w hI hi hzb hbad) (cwV 3 hts gL_slight_X0_slight rfl rfl rfl (by decide +kernel) ⟨Nat.le_of_ble_eq_true rfl, Nat.le_of_ble_eq_true rfl⟩) (preTX hK hP hE) rfl rfl hl.1 rfl (lv_room (Nat.le_of_ble_eq_true rfl)) dL_slight_7 ⟨Nat.le_of_ble_eq_true rfl, Nat.le_of_ble_eq_true rfl⟩) va_S.rf (fun q _ h => h) (fun q h => h) (fun q _ h => h) (fun E ce q9 u t H locs9 _ _ _ hE1 hz hk hS hce hcv hcl => ?_) (fun r u t H1 locs1 _ _ hf => hf.elim)
  subst hE1
  refine vx_catch (name := zIOE) hown [] ⟨0, 12, 15, 21⟩ [⟨0, 12, 19, 13⟩, ⟨0, 12, 23, 15⟩] htab (fun z hz => by cases hz) (by decide) (by decide) w_0 (va_tabs rfl rfl (hE.2.2.1 _ (List.mem_of_getElem? (i := 2) rfl))) hce hcv hcl ?_
  refine lv_astore (lv' := [(5, .ref q9), (0, .ref x), (1, .int (iI (i : Int))), (2, .int (iI z)), (3, .int (iI w)), (4, .ref ob)]) hx hb dL_slight_15 hl (by decide) rfl (fun ls hl => ?_)
  refine lv_iconst (v := iI 1) hx hb dL_slight_17 rfl ?_
  exact W.iret hx hb hr (fun t ht hW => ⟨⟨_, (), rfl, rfl, trivial⟩, hS.F ht⟩) hS.2.2 dL_slight_18
set_option maxHeartbeats 4000000 in
set_option maxRecDepth 100000 in
theorem f3_L_slight (l : Launch) (hfl : l.stackTraces = false) (G : zG) (x : Nat) (a : Nat → Nat) (ob : Nat) (sz : Nat) (B : Nat) (σ : zS) (i : Nat) (o : Nat) (w : Int) (hI : zI B σ) (hi : i < σ.1 0) (ho : o < σ.1 0) (hwb : -2147483648 ≤ w ∧ w < 2147483648) (hbad : i = o ∨ w < 1 ∨ 20 < w) : Met l yL_slight wsL_slight ({ frames := 7, cells := 1, slots := 6, locals := 114 } : Room) (va_Pc [.ref x, .int (iI (i : Int)), .int (iI (o : Int)), .int (iI w), .ref ob] (wF G x a σ sz)) (va_Qi (fun r (_ : Unit) => r = iI 2) (fun _ _ => True) (nA sz)) 1 6 (nA sz) := by
  refine va_MetW (cc := cL_slight) (maxL := 6) (ret := (some .int)) (hh := [(0, 12, 15, 21), (0, 12, 19, 13), (0, 12, 23, 15)]) (by decide) rfl ?_
  intro pp ee s m args below meth c s₁ B9 hml hv
  obtain ⟨rfl, hsz, hP, hK, hE, hN⟩ := hv
  subst hsz
  have hx := B9.exec
  have hb := B9.bytes
  have hr := B9.returns
  have hts := atoms_spec (ws := wsL_slight) B9.pre
  have hown : s.vm.findClass RL = some m.cls := findClass_of_methodNamed B9.named
  have hlocks := B9.notSynchronized
  have htab : c.exceptionTable.toList = tableOf [(0, 12, 15, 21), (0, 12, 19, 13), (0, 12, 23, 15)] := vx_table (x := yL_slight) B9 (hts (.codeWith yL_slight cL_slight 6 (some .int) [(0, 12, 15, 21), (0, 12, 19, 13), (0, 12, 23, 15)]) List.mem_cons_self)
  have w_0 := hts (.classLink RL 21 zIOE) (by decide +kernel)
  have w_1 := hts (.classLink RL 13 zIAE) (by decide +kernel)
  have hl := lv_entry ([.ref x, .int (iI (i : Int)), .int (iI (o : Int)), .int (iI w), .ref ob]) (n := 6) (Nat.le_of_ble_eq_true rfl)
  rw [lg_entry_eq]
  generalize (lg_sl ([.ref x, .int (iI (i : Int)), .int (iI (o : Int)), .int (iI w), .ref ob]) ++ List.replicate (6 - (lg_sl ([.ref x, .int (iI (i : Int)), .int (iI (o : Int)), .int (iI w), .ref ob])).length) Slot.unset).toArray = ls at hl ⊢
  have hl : lv_has ls 6 [(0, .ref x), (1, .int (iI (i : Int))), (2, .int (iI (o : Int))), (3, .int (iI w)), (4, .ref ob)] := hl
  have hIn := hI.n
  refine lv_aload hx hb dL_slight_0 (lv_at hl 4 rfl) ?_
  refine lv_iconst (v := iI 0) hx hb dL_slight_2 rfl ?_
  refine lv_aload_n hx hb dL_slight_3 rfl (lv_at hl 0 rfl) ?_
  refine lv_iload_n hx hb dL_slight_4 rfl (lv_at hl 1 rfl) ?_
  refine lv_iload_n hx hb dL_slight_5 rfl (lv_at hl 2 rfl) ?_
  refine lv_iload_n hx hb dL_slight_6 rfl (lv_at hl 3 rfl) ?_
  refine vx_calli (vx_runV (As := [.int (iI (i : Int)), .int (iI (o : Int)), .int (iI w)]) (rest := [.int (iI 0), .ref ob]) ⟨hx, hb, hml, hown, hts⟩ (t3_X0_slight l hfl G x a s.heap.size B σ i o w hI hi ho hwb hbad) (cwV 3 hts gL_slight_X0_slight rfl rfl rfl (by decide +kernel) ⟨Nat.le_of_ble_eq_true rfl, Nat.le_of_ble_eq_true rfl⟩) (preTX hK hP hE) rfl rfl hl.1 rfl (lv_room (Nat.le_of_ble_eq_true rfl)) dL_slight_7 ⟨Nat.le_of_ble_eq_true rfl, Nat.le_of_ble_eq_true rfl⟩) va_S.rf (fun q _ h => h) (fun q h => h) (fun q _ h => h) (fun E ce q9 u t H locs9 _ _ _ hE1 hz hk hS hce hcv hcl => ?_) (fun r u t H1 locs1 _ _ hf => hf.elim)
  subst hE1
  refine vx_catch (name := zIAE) hown [⟨0, 12, 15, 21⟩] ⟨0, 12, 19, 13⟩ [⟨0, 12, 23, 15⟩] htab (fun z hz => by
      rcases (by simpa using hz : z = (⟨0, 12, 15, 21⟩ : ExceptionTableEntry)) with h <;> subst h
      · exact Or.inr ⟨by decide, zIOE, w_0, hN.2.1⟩) (by decide) (by decide) w_1 (va_tabs rfl rfl (hE.2.2.1 _ (List.mem_of_getElem? (i := 0) rfl))) hce hcv hcl ?_
  refine lv_astore (lv' := [(5, .ref q9), (0, .ref x), (1, .int (iI (i : Int))), (2, .int (iI (o : Int))), (3, .int (iI w)), (4, .ref ob)]) hx hb dL_slight_19 hl (by decide) rfl (fun ls hl => ?_)
  refine lv_iconst (v := iI 2) hx hb dL_slight_21 rfl ?_
  exact W.iret hx hb hr (fun t ht hW => ⟨⟨_, (), rfl, rfl, trivial⟩, hS.F ht⟩) hS.2.2 dL_slight_22
set_option maxHeartbeats 4000000 in
set_option maxRecDepth 100000 in
theorem f4_L_slight (l : Launch) (hfl : l.stackTraces = false) (G : zG) (x : Nat) (a : Nat → Nat) (ob : Nat) (sz : Nat) (B : Nat) (σ : zS) (i : Nat) (o : Nat) (w : Int) (hI : zI B σ) (hi : i < σ.1 0) (ho : o < σ.1 0) (hw : 1 ≤ w ∧ w ≤ 20) (hne : i ≠ o) (hfull : σ.1 1 = 20) : Met l yL_slight wsL_slight ({ frames := 7, cells := 1, slots := 6, locals := 114 } : Room) (va_Pc [.ref x, .int (iI (i : Int)), .int (iI (o : Int)), .int (iI w), .ref ob] (wF G x a σ sz)) (va_Qi (fun r (_ : Unit) => r = iI 3) (fun _ _ => True) (nA sz)) 1 6 (nA sz) := by
  refine va_MetW (cc := cL_slight) (maxL := 6) (ret := (some .int)) (hh := [(0, 12, 15, 21), (0, 12, 19, 13), (0, 12, 23, 15)]) (by decide) rfl ?_
  intro pp ee s m args below meth c s₁ B9 hml hv
  obtain ⟨rfl, hsz, hP, hK, hE, hN⟩ := hv
  subst hsz
  have hx := B9.exec
  have hb := B9.bytes
  have hr := B9.returns
  have hts := atoms_spec (ws := wsL_slight) B9.pre
  have hown : s.vm.findClass RL = some m.cls := findClass_of_methodNamed B9.named
  have hlocks := B9.notSynchronized
  have htab : c.exceptionTable.toList = tableOf [(0, 12, 15, 21), (0, 12, 19, 13), (0, 12, 23, 15)] := vx_table (x := yL_slight) B9 (hts (.codeWith yL_slight cL_slight 6 (some .int) [(0, 12, 15, 21), (0, 12, 19, 13), (0, 12, 23, 15)]) List.mem_cons_self)
  have w_0 := hts (.classLink RL 21 zIOE) (by decide +kernel)
  have w_1 := hts (.classLink RL 13 zIAE) (by decide +kernel)
  have w_2 := hts (.classLink RL 15 zISE) (by decide +kernel)
  have hl := lv_entry ([.ref x, .int (iI (i : Int)), .int (iI (o : Int)), .int (iI w), .ref ob]) (n := 6) (Nat.le_of_ble_eq_true rfl)
  rw [lg_entry_eq]
  generalize (lg_sl ([.ref x, .int (iI (i : Int)), .int (iI (o : Int)), .int (iI w), .ref ob]) ++ List.replicate (6 - (lg_sl ([.ref x, .int (iI (i : Int)), .int (iI (o : Int)), .int (iI w), .ref ob])).length) Slot.unset).toArray = ls at hl ⊢
  have hl : lv_has ls 6 [(0, .ref x), (1, .int (iI (i : Int))), (2, .int (iI (o : Int))), (3, .int (iI w)), (4, .ref ob)] := hl
  have hIn := hI.n
  refine lv_aload hx hb dL_slight_0 (lv_at hl 4 rfl) ?_
  refine lv_iconst (v := iI 0) hx hb dL_slight_2 rfl ?_
  refine lv_aload_n hx hb dL_slight_3 rfl (lv_at hl 0 rfl) ?_
  refine lv_iload_n hx hb dL_slight_4 rfl (lv_at hl 1 rfl) ?_
  refine lv_iload_n hx hb dL_slight_5 rfl (lv_at hl 2 rfl) ?_
  refine lv_iload_n hx hb dL_slight_6 rfl (lv_at hl 3 rfl) ?_
  refine vx_calli (vx_runV (As := [.int (iI (i : Int)), .int (iI (o : Int)), .int (iI w)]) (rest := [.int (iI 0), .ref ob]) ⟨hx, hb, hml, hown, hts⟩ (t4_X0_slight l hfl G x a s.heap.size B σ i o w hI hi ho hw hne hfull) (cwV 3 hts gL_slight_X0_slight rfl rfl rfl (by decide +kernel) ⟨Nat.le_of_ble_eq_true rfl, Nat.le_of_ble_eq_true rfl⟩) (preTX hK hP hE) rfl rfl hl.1 rfl (lv_room (Nat.le_of_ble_eq_true rfl)) dL_slight_7 ⟨Nat.le_of_ble_eq_true rfl, Nat.le_of_ble_eq_true rfl⟩) va_S.rf (fun q _ h => h) (fun q h => h) (fun q _ h => h) (fun E ce q9 u t H locs9 _ _ _ hE1 hz hk hS hce hcv hcl => ?_) (fun r u t H1 locs1 _ _ hf => hf.elim)
  subst hE1
  refine vx_catch (name := zISE) hown [⟨0, 12, 15, 21⟩, ⟨0, 12, 19, 13⟩] ⟨0, 12, 23, 15⟩ [] htab (fun z hz => by
      rcases (by simpa using hz : z = (⟨0, 12, 15, 21⟩ : ExceptionTableEntry) ∨ z = (⟨0, 12, 19, 13⟩ : ExceptionTableEntry)) with h | h <;> subst h
      · exact Or.inr ⟨by decide, zIOE, w_0, hN.2.2⟩
      · exact Or.inr ⟨by decide, zIAE, w_1, hN.1⟩) (by decide) (by decide) w_2 (va_tabs rfl rfl (hE.2.2.1 _ (List.mem_of_getElem? (i := 1) rfl))) hce hcv hcl ?_
  refine lv_astore (lv' := [(5, .ref q9), (0, .ref x), (1, .int (iI (i : Int))), (2, .int (iI (o : Int))), (3, .int (iI w)), (4, .ref ob)]) hx hb dL_slight_23 hl (by decide) rfl (fun ls hl => ?_)
  refine lv_iconst (v := iI 3) hx hb dL_slight_25 rfl ?_
  exact W.iret hx hb hr (fun t ht hW => ⟨⟨_, (), rfl, rfl, trivial⟩, hS.F ht⟩) hS.2.2 dL_slight_26
set_option maxHeartbeats 4000000 in
set_option maxRecDepth 100000 in
theorem f2_L_mention (l : Launch) (hfl : l.stackTraces = false) (G : zG) (x : Nat) (a : Nat → Nat) (ob : Nat) (sz : Nat) (B : Nat) (σ : zS) (k : Nat) (hI : zI B σ) (hk : k < σ.1 1) (ho : σ.2 5 k ≠ 0) : Met l yL_mention wsL_mention ({ frames := 8, cells := 1, slots := 6, locals := 132 } : Room) (va_Pc [.ref x, .int (iI (k : Int)), .ref ob] (wF G x a σ sz)) (va_Qi (fun r (_ : Unit) => r = iI 2) (fun _ _ => True) (nA sz)) 1 6 (nA sz) := by
  refine va_MetW (cc := cL_mention) (maxL := 4) (ret := (some .int)) (hh := [(0, 9, 12, 21), (0, 9, 15, 15)]) (by decide) rfl ?_
  intro pp ee s m args below meth c s₁ B9 hml hv
  obtain ⟨rfl, hsz, hP, hK, hE, hN⟩ := hv
  subst hsz
  have hx := B9.exec
  have hb := B9.bytes
  have hr := B9.returns
  have hts := atoms_spec (ws := wsL_mention) B9.pre
  have hown : s.vm.findClass RL = some m.cls := findClass_of_methodNamed B9.named
  have hlocks := B9.notSynchronized
  have htab : c.exceptionTable.toList = tableOf [(0, 9, 12, 21), (0, 9, 15, 15)] := vx_table (x := yL_mention) B9 (hts (.codeWith yL_mention cL_mention 4 (some .int) [(0, 9, 12, 21), (0, 9, 15, 15)]) List.mem_cons_self)
  have w_0 := hts (.classLink RL 21 zIOE) (by decide +kernel)
  have w_1 := hts (.classLink RL 15 zISE) (by decide +kernel)
  have hl := lv_entry ([.ref x, .int (iI (k : Int)), .ref ob]) (n := 4) (Nat.le_of_ble_eq_true rfl)
  rw [lg_entry_eq]
  generalize (lg_sl ([.ref x, .int (iI (k : Int)), .ref ob]) ++ List.replicate (4 - (lg_sl ([.ref x, .int (iI (k : Int)), .ref ob])).length) Slot.unset).toArray = ls at hl ⊢
  have hl : lv_has ls 4 [(0, .ref x), (1, .int (iI (k : Int))), (2, .ref ob)] := hl
  have hIn := hI.n
  refine lv_aload_n hx hb dL_mention_0 rfl (lv_at hl 2 rfl) ?_
  refine lv_iconst (v := iI 0) hx hb dL_mention_1 rfl ?_
  refine lv_aload_n hx hb dL_mention_2 rfl (lv_at hl 0 rfl) ?_
  refine lv_iload_n hx hb dL_mention_3 rfl (lv_at hl 1 rfl) ?_
  refine vx_calli (vx_runV (As := [.int (iI (k : Int))]) (rest := [.int (iI 0), .ref ob]) ⟨hx, hb, hml, hown, hts⟩ (t2_X0_mention l hfl G x a s.heap.size B σ k hI hk ho) (cwV 1 hts gL_mention_X0_mention rfl rfl rfl (by decide +kernel) ⟨Nat.le_of_ble_eq_true rfl, Nat.le_of_ble_eq_true rfl⟩) (preTX hK hP hE) rfl rfl hl.1 rfl (lv_room (Nat.le_of_ble_eq_true rfl)) dL_mention_4 ⟨Nat.le_of_ble_eq_true rfl, Nat.le_of_ble_eq_true rfl⟩) va_S.rf (fun q _ h => h) (fun q h => h) (fun q _ h => h) (fun E ce q9 u t H locs9 _ _ _ hE1 hz hk hS hce hcv hcl => ?_) (fun r u t H1 locs1 _ _ hf => hf.elim)
  subst hE1
  refine vx_catch (name := zISE) hown [⟨0, 9, 12, 21⟩] ⟨0, 9, 15, 15⟩ [] htab (fun z hz => by
      rcases (by simpa using hz : z = (⟨0, 9, 12, 21⟩ : ExceptionTableEntry)) with h <;> subst h
      · exact Or.inr ⟨by decide, zIOE, w_0, hN.2.2⟩) (by decide) (by decide) w_1 (va_tabs rfl rfl (hE.2.2.1 _ (List.mem_of_getElem? (i := 1) rfl))) hce hcv hcl ?_
  refine lv_astore_n (lv' := [(3, .ref q9), (0, .ref x), (1, .int (iI (k : Int))), (2, .ref ob)]) hx hb dL_mention_15 rfl hl (by decide) rfl (fun ls hl => ?_)
  refine lv_iconst (v := iI 2) hx hb dL_mention_16 rfl ?_
  exact W.iret hx hb hr (fun t ht hW => ⟨⟨_, (), rfl, rfl, trivial⟩, hS.F ht⟩) hS.2.2 dL_mention_17
set_option maxHeartbeats 4000000 in
set_option maxRecDepth 100000 in
theorem f1_L_apologize (l : Launch) (hfl : l.stackTraces = false) (G : zG) (x : Nat) (a : Nat → Nat) (ob : Nat) (sz : Nat) (B : Nat) (σ : zS) (z : Int) (w : Int) (hI : zI B σ) (hzb : -2147483648 ≤ z ∧ z < 2147483648) (hbad : z < 0 ∨ (σ.1 1 : Int) ≤ z) : Met l yL_apologize wsL_apologize ({ frames := 8, cells := 1, slots := 6, locals := 134 } : Room) (va_Pc [.ref x, .int (iI z), .int (iI w), .ref ob] (wF G x a σ sz)) (va_Qi (fun r (_ : Unit) => r = iI 1) (fun _ _ => True) (nA sz)) 1 6 (nA sz) := by
  refine va_MetW (cc := cL_apologize) (maxL := 5) (ret := (some .int)) (hh := [(0, 10, 13, 21), (0, 10, 17, 13), (0, 10, 21, 15)]) (by decide) rfl ?_
  intro pp ee s m args below meth c s₁ B9 hml hv
  obtain ⟨rfl, hsz, hP, hK, hE, hN⟩ := hv
  subst hsz
  have hx := B9.exec
  have hb := B9.bytes
  have hr := B9.returns
  have hts := atoms_spec (ws := wsL_apologize) B9.pre
  have hown : s.vm.findClass RL = some m.cls := findClass_of_methodNamed B9.named
  have hlocks := B9.notSynchronized
  have htab : c.exceptionTable.toList = tableOf [(0, 10, 13, 21), (0, 10, 17, 13), (0, 10, 21, 15)] := vx_table (x := yL_apologize) B9 (hts (.codeWith yL_apologize cL_apologize 5 (some .int) [(0, 10, 13, 21), (0, 10, 17, 13), (0, 10, 21, 15)]) List.mem_cons_self)
  have w_0 := hts (.classLink RL 21 zIOE) (by decide +kernel)
  have hl := lv_entry ([.ref x, .int (iI z), .int (iI w), .ref ob]) (n := 5) (Nat.le_of_ble_eq_true rfl)
  rw [lg_entry_eq]
  generalize (lg_sl ([.ref x, .int (iI z), .int (iI w), .ref ob]) ++ List.replicate (5 - (lg_sl ([.ref x, .int (iI z), .int (iI w), .ref ob])).length) Slot.unset).toArray = ls at hl ⊢
  have hl : lv_has ls 5 [(0, .ref x), (1, .int (iI z)), (2, .int (iI w)), (3, .ref ob)] := hl
  have hIn := hI.n
  refine lv_aload_n hx hb dL_apologize_0 rfl (lv_at hl 3 rfl) ?_
  refine lv_iconst (v := iI 0) hx hb dL_apologize_1 rfl ?_
  refine lv_aload_n hx hb dL_apologize_2 rfl (lv_at hl 0 rfl) ?_
  refine lv_iload_n hx hb dL_apologize_3 rfl (lv_at hl 1 rfl) ?_
  refine lv_iload_n hx hb dL_apologize_4 rfl (lv_at hl 2 rfl) ?_
  refine vx_calli (vx_runV (As := [.int (iI z), .int (iI w)]) (rest := [.int (iI 0), .ref ob]) ⟨hx, hb, hml, hown, hts⟩ (t1_X0_apologize l hfl G x a s.heap.size B σ z w hI hzb hbad) (cwV 2 hts gL_apologize_X0_apologize rfl rfl rfl (by decide +kernel) ⟨Nat.le_of_ble_eq_true rfl, Nat.le_of_ble_eq_true rfl⟩) (preTX hK hP hE) rfl rfl hl.1 rfl (lv_room (Nat.le_of_ble_eq_true rfl)) dL_apologize_5 ⟨Nat.le_of_ble_eq_true rfl, Nat.le_of_ble_eq_true rfl⟩) va_S.rf (fun q _ h => h) (fun q h => h) (fun q _ h => h) (fun E ce q9 u t H locs9 _ _ _ hE1 hz hk hS hce hcv hcl => ?_) (fun r u t H1 locs1 _ _ hf => hf.elim)
  subst hE1
  refine vx_catch (name := zIOE) hown [] ⟨0, 10, 13, 21⟩ [⟨0, 10, 17, 13⟩, ⟨0, 10, 21, 15⟩] htab (fun z hz => by cases hz) (by decide) (by decide) w_0 (va_tabs rfl rfl (hE.2.2.1 _ (List.mem_of_getElem? (i := 2) rfl))) hce hcv hcl ?_
  refine lv_astore (lv' := [(4, .ref q9), (0, .ref x), (1, .int (iI z)), (2, .int (iI w)), (3, .ref ob)]) hx hb dL_apologize_13 hl (by decide) rfl (fun ls hl => ?_)
  refine lv_iconst (v := iI 1) hx hb dL_apologize_15 rfl ?_
  exact W.iret hx hb hr (fun t ht hW => ⟨⟨_, (), rfl, rfl, trivial⟩, hS.F ht⟩) hS.2.2 dL_apologize_16
set_option maxHeartbeats 4000000 in
set_option maxRecDepth 100000 in
theorem f2_L_apologize (l : Launch) (hfl : l.stackTraces = false) (G : zG) (x : Nat) (a : Nat → Nat) (ob : Nat) (sz : Nat) (B : Nat) (σ : zS) (k : Nat) (z : Int) (hI : zI B σ) (hk : k < σ.1 1) (hzb : -2147483648 ≤ z ∧ z < 2147483648) (hbad : z < 1 ∨ 20 < z) : Met l yL_apologize wsL_apologize ({ frames := 8, cells := 1, slots := 6, locals := 133 } : Room) (va_Pc [.ref x, .int (iI (k : Int)), .int (iI z), .ref ob] (wF G x a σ sz)) (va_Qi (fun r (_ : Unit) => r = iI 2) (fun _ _ => True) (nA sz)) 1 6 (nA sz) := by
  refine va_MetW (cc := cL_apologize) (maxL := 5) (ret := (some .int)) (hh := [(0, 10, 13, 21), (0, 10, 17, 13), (0, 10, 21, 15)]) (by decide) rfl ?_
  intro pp ee s m args below meth c s₁ B9 hml hv
  obtain ⟨rfl, hsz, hP, hK, hE, hN⟩ := hv
  subst hsz
  have hx := B9.exec
  have hb := B9.bytes
  have hr := B9.returns
  have hts := atoms_spec (ws := wsL_apologize) B9.pre
  have hown : s.vm.findClass RL = some m.cls := findClass_of_methodNamed B9.named
  have hlocks := B9.notSynchronized
  have htab : c.exceptionTable.toList = tableOf [(0, 10, 13, 21), (0, 10, 17, 13), (0, 10, 21, 15)] := vx_table (x := yL_apologize) B9 (hts (.codeWith yL_apologize cL_apologize 5 (some .int) [(0, 10, 13, 21), (0, 10, 17, 13), (0, 10, 21, 15)]) List.mem_cons_self)
  have w_0 := hts (.classLink RL 21 zIOE) (by decide +kernel)
  have w_1 := hts (.classLink RL 13 zIAE) (by decide +kernel)
  have hl := lv_entry ([.ref x, .int (iI (k : Int)), .int (iI z), .ref ob]) (n := 5) (Nat.le_of_ble_eq_true rfl)
  rw [lg_entry_eq]
  generalize (lg_sl ([.ref x, .int (iI (k : Int)), .int (iI z), .ref ob]) ++ List.replicate (5 - (lg_sl ([.ref x, .int (iI (k : Int)), .int (iI z), .ref ob])).length) Slot.unset).toArray = ls at hl ⊢
  have hl : lv_has ls 5 [(0, .ref x), (1, .int (iI (k : Int))), (2, .int (iI z)), (3, .ref ob)] := hl
  have hIn := hI.n
  refine lv_aload_n hx hb dL_apologize_0 rfl (lv_at hl 3 rfl) ?_
  refine lv_iconst (v := iI 0) hx hb dL_apologize_1 rfl ?_
  refine lv_aload_n hx hb dL_apologize_2 rfl (lv_at hl 0 rfl) ?_
  refine lv_iload_n hx hb dL_apologize_3 rfl (lv_at hl 1 rfl) ?_
  refine lv_iload_n hx hb dL_apologize_4 rfl (lv_at hl 2 rfl) ?_
  refine vx_calli (vx_runV (As := [.int (iI (k : Int)), .int (iI z)]) (rest := [.int (iI 0), .ref ob]) ⟨hx, hb, hml, hown, hts⟩ (t2_X0_apologize l hfl G x a s.heap.size B σ k z hI hk hzb hbad) (cwV 2 hts gL_apologize_X0_apologize rfl rfl rfl (by decide +kernel) ⟨Nat.le_of_ble_eq_true rfl, Nat.le_of_ble_eq_true rfl⟩) (preTX hK hP hE) rfl rfl hl.1 rfl (lv_room (Nat.le_of_ble_eq_true rfl)) dL_apologize_5 ⟨Nat.le_of_ble_eq_true rfl, Nat.le_of_ble_eq_true rfl⟩) va_S.rf (fun q _ h => h) (fun q h => h) (fun q _ h => h) (fun E ce q9 u t H locs9 _ _ _ hE1 hz hk hS hce hcv hcl => ?_) (fun r u t H1 locs1 _ _ hf => hf.elim)
  subst hE1
  refine vx_catch (name := zIAE) hown [⟨0, 10, 13, 21⟩] ⟨0, 10, 17, 13⟩ [⟨0, 10, 21, 15⟩] htab (fun z hz => by
      rcases (by simpa using hz : z = (⟨0, 10, 13, 21⟩ : ExceptionTableEntry)) with h <;> subst h
      · exact Or.inr ⟨by decide, zIOE, w_0, hN.2.1⟩) (by decide) (by decide) w_1 (va_tabs rfl rfl (hE.2.2.1 _ (List.mem_of_getElem? (i := 0) rfl))) hce hcv hcl ?_
  refine lv_astore (lv' := [(4, .ref q9), (0, .ref x), (1, .int (iI (k : Int))), (2, .int (iI z)), (3, .ref ob)]) hx hb dL_apologize_17 hl (by decide) rfl (fun ls hl => ?_)
  refine lv_iconst (v := iI 2) hx hb dL_apologize_19 rfl ?_
  exact W.iret hx hb hr (fun t ht hW => ⟨⟨_, (), rfl, rfl, trivial⟩, hS.F ht⟩) hS.2.2 dL_apologize_20
set_option maxHeartbeats 4000000 in
set_option maxRecDepth 100000 in
theorem f3_L_apologize (l : Launch) (hfl : l.stackTraces = false) (G : zG) (x : Nat) (a : Nat → Nat) (ob : Nat) (sz : Nat) (B : Nat) (σ : zS) (k : Nat) (w : Int) (hI : zI B σ) (hk : k < σ.1 1) (hw : 1 ≤ w ∧ w ≤ 20) (ho : σ.2 5 k ≠ 0) : Met l yL_apologize wsL_apologize ({ frames := 8, cells := 1, slots := 6, locals := 134 } : Room) (va_Pc [.ref x, .int (iI (k : Int)), .int (iI w), .ref ob] (wF G x a σ sz)) (va_Qi (fun r (_ : Unit) => r = iI 3) (fun _ _ => True) (nA sz)) 1 6 (nA sz) := by
  refine va_MetW (cc := cL_apologize) (maxL := 5) (ret := (some .int)) (hh := [(0, 10, 13, 21), (0, 10, 17, 13), (0, 10, 21, 15)]) (by decide) rfl ?_
  intro pp ee s m args below meth c s₁ B9 hml hv
  obtain ⟨rfl, hsz, hP, hK, hE, hN⟩ := hv
  subst hsz
  have hx := B9.exec
  have hb := B9.bytes
  have hr := B9.returns
  have hts := atoms_spec (ws := wsL_apologize) B9.pre
  have hown : s.vm.findClass RL = some m.cls := findClass_of_methodNamed B9.named
  have hlocks := B9.notSynchronized
  have htab : c.exceptionTable.toList = tableOf [(0, 10, 13, 21), (0, 10, 17, 13), (0, 10, 21, 15)] := vx_table (x := yL_apologize) B9 (hts (.codeWith yL_apologize cL_apologize 5 (some .int) [(0, 10, 13, 21), (0, 10, 17, 13), (0, 10, 21, 15)]) List.mem_cons_self)
  have w_0 := hts (.classLink RL 21 zIOE) (by decide +kernel)
  have w_1 := hts (.classLink RL 13 zIAE) (by decide +kernel)
  have w_2 := hts (.classLink RL 15 zISE) (by decide +kernel)
  have hl := lv_entry ([.ref x, .int (iI (k : Int)), .int (iI w), .ref ob]) (n := 5) (Nat.le_of_ble_eq_true rfl)
  rw [lg_entry_eq]
  generalize (lg_sl ([.ref x, .int (iI (k : Int)), .int (iI w), .ref ob]) ++ List.replicate (5 - (lg_sl ([.ref x, .int (iI (k : Int)), .int (iI w), .ref ob])).length) Slot.unset).toArray = ls at hl ⊢
  have hl : lv_has ls 5 [(0, .ref x), (1, .int (iI (k : Int))), (2, .int (iI w)), (3, .ref ob)] := hl
  have hIn := hI.n
  refine lv_aload_n hx hb dL_apologize_0 rfl (lv_at hl 3 rfl) ?_
  refine lv_iconst (v := iI 0) hx hb dL_apologize_1 rfl ?_
  refine lv_aload_n hx hb dL_apologize_2 rfl (lv_at hl 0 rfl) ?_
  refine lv_iload_n hx hb dL_apologize_3 rfl (lv_at hl 1 rfl) ?_
  refine lv_iload_n hx hb dL_apologize_4 rfl (lv_at hl 2 rfl) ?_
  refine vx_calli (vx_runV (As := [.int (iI (k : Int)), .int (iI w)]) (rest := [.int (iI 0), .ref ob]) ⟨hx, hb, hml, hown, hts⟩ (t3_X0_apologize l hfl G x a s.heap.size B σ k w hI hk hw ho) (cwV 2 hts gL_apologize_X0_apologize rfl rfl rfl (by decide +kernel) ⟨Nat.le_of_ble_eq_true rfl, Nat.le_of_ble_eq_true rfl⟩) (preTX hK hP hE) rfl rfl hl.1 rfl (lv_room (Nat.le_of_ble_eq_true rfl)) dL_apologize_5 ⟨Nat.le_of_ble_eq_true rfl, Nat.le_of_ble_eq_true rfl⟩) va_S.rf (fun q _ h => h) (fun q h => h) (fun q _ h => h) (fun E ce q9 u t H locs9 _ _ _ hE1 hz hk hS hce hcv hcl => ?_) (fun r u t H1 locs1 _ _ hf => hf.elim)
  subst hE1
  refine vx_catch (name := zISE) hown [⟨0, 10, 13, 21⟩, ⟨0, 10, 17, 13⟩] ⟨0, 10, 21, 15⟩ [] htab (fun z hz => by
      rcases (by simpa using hz : z = (⟨0, 10, 13, 21⟩ : ExceptionTableEntry) ∨ z = (⟨0, 10, 17, 13⟩ : ExceptionTableEntry)) with h | h <;> subst h
      · exact Or.inr ⟨by decide, zIOE, w_0, hN.2.2⟩
      · exact Or.inr ⟨by decide, zIAE, w_1, hN.1⟩) (by decide) (by decide) w_2 (va_tabs rfl rfl (hE.2.2.1 _ (List.mem_of_getElem? (i := 1) rfl))) hce hcv hcl ?_
  refine lv_astore (lv' := [(4, .ref q9), (0, .ref x), (1, .int (iI (k : Int))), (2, .int (iI w)), (3, .ref ob)]) hx hb dL_apologize_21 hl (by decide) rfl (fun ls hl => ?_)
  refine lv_iconst (v := iI 3) hx hb dL_apologize_23 rfl ?_
  exact W.iret hx hb hr (fun t ht hW => ⟨⟨_, (), rfl, rfl, trivial⟩, hS.F ht⟩) hS.2.2 dL_apologize_24
set_option maxHeartbeats 4000000 in
set_option maxRecDepth 100000 in
theorem f1_L_setOff (l : Launch) (hfl : l.stackTraces = false) (G : zG) (x : Nat) (a : Nat → Nat) (ob : Nat) (sz : Nat) (B : Nat) (σ : zS) (z : Int) (y : Int) (hI : zI B σ) (hzb : -2147483648 ≤ z ∧ z < 2147483648) (hbad : z < 0 ∨ (σ.1 1 : Int) ≤ z) : Met l yL_setOff wsL_setOff ({ frames := 8, cells := 1, slots := 6, locals := 134 } : Room) (va_Pc [.ref x, .int (iI z), .int (iI y), .ref ob] (wF G x a σ sz)) (va_Qi (fun r (_ : Unit) => r = iI 1) (fun _ _ => True) (nA sz)) 1 6 (nA sz) := by
  refine va_MetW (cc := cL_setOff) (maxL := 5) (ret := (some .int)) (hh := [(0, 10, 13, 21), (0, 10, 17, 15)]) (by decide) rfl ?_
  intro pp ee s m args below meth c s₁ B9 hml hv
  obtain ⟨rfl, hsz, hP, hK, hE, hN⟩ := hv
  subst hsz
  have hx := B9.exec
  have hb := B9.bytes
  have hr := B9.returns
  have hts := atoms_spec (ws := wsL_setOff) B9.pre
  have hown : s.vm.findClass RL = some m.cls := findClass_of_methodNamed B9.named
  have hlocks := B9.notSynchronized
  have htab : c.exceptionTable.toList = tableOf [(0, 10, 13, 21), (0, 10, 17, 15)] := vx_table (x := yL_setOff) B9 (hts (.codeWith yL_setOff cL_setOff 5 (some .int) [(0, 10, 13, 21), (0, 10, 17, 15)]) List.mem_cons_self)
  have w_0 := hts (.classLink RL 21 zIOE) (by decide +kernel)
  have hl := lv_entry ([.ref x, .int (iI z), .int (iI y), .ref ob]) (n := 5) (Nat.le_of_ble_eq_true rfl)
  rw [lg_entry_eq]
  generalize (lg_sl ([.ref x, .int (iI z), .int (iI y), .ref ob]) ++ List.replicate (5 - (lg_sl ([.ref x, .int (iI z), .int (iI y), .ref ob])).length) Slot.unset).toArray = ls at hl ⊢
  have hl : lv_has ls 5 [(0, .ref x), (1, .int (iI z)), (2, .int (iI y)), (3, .ref ob)] := hl
  have hIn := hI.n
  refine lv_aload_n hx hb dL_setOff_0 rfl (lv_at hl 3 rfl) ?_
  refine lv_iconst (v := iI 0) hx hb dL_setOff_1 rfl ?_
  refine lv_aload_n hx hb dL_setOff_2 rfl (lv_at hl 0 rfl) ?_
  refine lv_iload_n hx hb dL_setOff_3 rfl (lv_at hl 1 rfl) ?_
  refine lv_iload_n hx hb dL_setOff_4 rfl (lv_at hl 2 rfl) ?_
  refine vx_calli (vx_runV (As := [.int (iI z), .int (iI y)]) (rest := [.int (iI 0), .ref ob]) ⟨hx, hb, hml, hown, hts⟩ (t1_X0_setOff l hfl G x a s.heap.size B σ z y hI hzb hbad) (cwV 2 hts gL_setOff_X0_setOff rfl rfl rfl (by decide +kernel) ⟨Nat.le_of_ble_eq_true rfl, Nat.le_of_ble_eq_true rfl⟩) (preTX hK hP hE) rfl rfl hl.1 rfl (lv_room (Nat.le_of_ble_eq_true rfl)) dL_setOff_5 ⟨Nat.le_of_ble_eq_true rfl, Nat.le_of_ble_eq_true rfl⟩) va_S.rf (fun q _ h => h) (fun q h => h) (fun q _ h => h) (fun E ce q9 u t H locs9 _ _ _ hE1 hz hk hS hce hcv hcl => ?_) (fun r u t H1 locs1 _ _ hf => hf.elim)
  subst hE1
  refine vx_catch (name := zIOE) hown [] ⟨0, 10, 13, 21⟩ [⟨0, 10, 17, 15⟩] htab (fun z hz => by cases hz) (by decide) (by decide) w_0 (va_tabs rfl rfl (hE.2.2.1 _ (List.mem_of_getElem? (i := 2) rfl))) hce hcv hcl ?_
  refine lv_astore (lv' := [(4, .ref q9), (0, .ref x), (1, .int (iI z)), (2, .int (iI y)), (3, .ref ob)]) hx hb dL_setOff_13 hl (by decide) rfl (fun ls hl => ?_)
  refine lv_iconst (v := iI 1) hx hb dL_setOff_15 rfl ?_
  exact W.iret hx hb hr (fun t ht hW => ⟨⟨_, (), rfl, rfl, trivial⟩, hS.F ht⟩) hS.2.2 dL_setOff_16
set_option maxHeartbeats 4000000 in
set_option maxRecDepth 100000 in
theorem f2_L_setOff (l : Launch) (hfl : l.stackTraces = false) (G : zG) (x : Nat) (a : Nat → Nat) (ob : Nat) (sz : Nat) (B : Nat) (σ : zS) (i : Nat) (z : Int) (hI : zI B σ) (hi : i < σ.1 1) (hzb : -2147483648 ≤ z ∧ z < 2147483648) (hbad : z < 0 ∨ (σ.1 1 : Int) ≤ z) : Met l yL_setOff wsL_setOff ({ frames := 8, cells := 1, slots := 6, locals := 134 } : Room) (va_Pc [.ref x, .int (iI (i : Int)), .int (iI z), .ref ob] (wF G x a σ sz)) (va_Qi (fun r (_ : Unit) => r = iI 1) (fun _ _ => True) (nA sz)) 1 6 (nA sz) := by
  refine va_MetW (cc := cL_setOff) (maxL := 5) (ret := (some .int)) (hh := [(0, 10, 13, 21), (0, 10, 17, 15)]) (by decide) rfl ?_
  intro pp ee s m args below meth c s₁ B9 hml hv
  obtain ⟨rfl, hsz, hP, hK, hE, hN⟩ := hv
  subst hsz
  have hx := B9.exec
  have hb := B9.bytes
  have hr := B9.returns
  have hts := atoms_spec (ws := wsL_setOff) B9.pre
  have hown : s.vm.findClass RL = some m.cls := findClass_of_methodNamed B9.named
  have hlocks := B9.notSynchronized
  have htab : c.exceptionTable.toList = tableOf [(0, 10, 13, 21), (0, 10, 17, 15)] := vx_table (x := yL_setOff) B9 (hts (.codeWith yL_setOff cL_setOff 5 (some .int) [(0, 10, 13, 21), (0, 10, 17, 15)]) List.mem_cons_self)
  have w_0 := hts (.classLink RL 21 zIOE) (by decide +kernel)
  have hl := lv_entry ([.ref x, .int (iI (i : Int)), .int (iI z), .ref ob]) (n := 5) (Nat.le_of_ble_eq_true rfl)
  rw [lg_entry_eq]
  generalize (lg_sl ([.ref x, .int (iI (i : Int)), .int (iI z), .ref ob]) ++ List.replicate (5 - (lg_sl ([.ref x, .int (iI (i : Int)), .int (iI z), .ref ob])).length) Slot.unset).toArray = ls at hl ⊢
  have hl : lv_has ls 5 [(0, .ref x), (1, .int (iI (i : Int))), (2, .int (iI z)), (3, .ref ob)] := hl
  have hIn := hI.n
  refine lv_aload_n hx hb dL_setOff_0 rfl (lv_at hl 3 rfl) ?_
  refine lv_iconst (v := iI 0) hx hb dL_setOff_1 rfl ?_
  refine lv_aload_n hx hb dL_setOff_2 rfl (lv_at hl 0 rfl) ?_
  refine lv_iload_n hx hb dL_setOff_3 rfl (lv_at hl 1 rfl) ?_
  refine lv_iload_n hx hb dL_setOff_4 rfl (lv_at hl 2 rfl) ?_
  refine vx_calli (vx_runV (As := [.int (iI (i : Int)), .int (iI z)]) (rest := [.int (iI 0), .ref ob]) ⟨hx, hb, hml, hown, hts⟩ (t2_X0_setOff l hfl G x a s.heap.size B σ i z hI hi hzb hbad) (cwV 2 hts gL_setOff_X0_setOff rfl rfl rfl (by decide +kernel) ⟨Nat.le_of_ble_eq_true rfl, Nat.le_of_ble_eq_true rfl⟩) (preTX hK hP hE) rfl rfl hl.1 rfl (lv_room (Nat.le_of_ble_eq_true rfl)) dL_setOff_5 ⟨Nat.le_of_ble_eq_true rfl, Nat.le_of_ble_eq_true rfl⟩) va_S.rf (fun q _ h => h) (fun q h => h) (fun q _ h => h) (fun E ce q9 u t H locs9 _ _ _ hE1 hz hk hS hce hcv hcl => ?_) (fun r u t H1 locs1 _ _ hf => hf.elim)
  subst hE1
  refine vx_catch (name := zIOE) hown [] ⟨0, 10, 13, 21⟩ [⟨0, 10, 17, 15⟩] htab (fun z hz => by cases hz) (by decide) (by decide) w_0 (va_tabs rfl rfl (hE.2.2.1 _ (List.mem_of_getElem? (i := 2) rfl))) hce hcv hcl ?_
  refine lv_astore (lv' := [(4, .ref q9), (0, .ref x), (1, .int (iI (i : Int))), (2, .int (iI z)), (3, .ref ob)]) hx hb dL_setOff_13 hl (by decide) rfl (fun ls hl => ?_)
  refine lv_iconst (v := iI 1) hx hb dL_setOff_15 rfl ?_
  exact W.iret hx hb hr (fun t ht hW => ⟨⟨_, (), rfl, rfl, trivial⟩, hS.F ht⟩) hS.2.2 dL_setOff_16
set_option maxHeartbeats 4000000 in
set_option maxRecDepth 100000 in
theorem f3_L_setOff (l : Launch) (hfl : l.stackTraces = false) (G : zG) (x : Nat) (a : Nat → Nat) (ob : Nat) (sz : Nat) (B : Nat) (σ : zS) (i : Nat) (o : Nat) (hI : zI B σ) (hi : i < σ.1 1) (ho : o < σ.1 1) (h5 : σ.2 5 i ≠ 0) : Met l yL_setOff wsL_setOff ({ frames := 8, cells := 1, slots := 6, locals := 134 } : Room) (va_Pc [.ref x, .int (iI (i : Int)), .int (iI (o : Int)), .ref ob] (wF G x a σ sz)) (va_Qi (fun r (_ : Unit) => r = iI 2) (fun _ _ => True) (nA sz)) 1 6 (nA sz) := by
  refine va_MetW (cc := cL_setOff) (maxL := 5) (ret := (some .int)) (hh := [(0, 10, 13, 21), (0, 10, 17, 15)]) (by decide) rfl ?_
  intro pp ee s m args below meth c s₁ B9 hml hv
  obtain ⟨rfl, hsz, hP, hK, hE, hN⟩ := hv
  subst hsz
  have hx := B9.exec
  have hb := B9.bytes
  have hr := B9.returns
  have hts := atoms_spec (ws := wsL_setOff) B9.pre
  have hown : s.vm.findClass RL = some m.cls := findClass_of_methodNamed B9.named
  have hlocks := B9.notSynchronized
  have htab : c.exceptionTable.toList = tableOf [(0, 10, 13, 21), (0, 10, 17, 15)] := vx_table (x := yL_setOff) B9 (hts (.codeWith yL_setOff cL_setOff 5 (some .int) [(0, 10, 13, 21), (0, 10, 17, 15)]) List.mem_cons_self)
  have w_0 := hts (.classLink RL 21 zIOE) (by decide +kernel)
  have w_1 := hts (.classLink RL 15 zISE) (by decide +kernel)
  have hl := lv_entry ([.ref x, .int (iI (i : Int)), .int (iI (o : Int)), .ref ob]) (n := 5) (Nat.le_of_ble_eq_true rfl)
  rw [lg_entry_eq]
  generalize (lg_sl ([.ref x, .int (iI (i : Int)), .int (iI (o : Int)), .ref ob]) ++ List.replicate (5 - (lg_sl ([.ref x, .int (iI (i : Int)), .int (iI (o : Int)), .ref ob])).length) Slot.unset).toArray = ls at hl ⊢
  have hl : lv_has ls 5 [(0, .ref x), (1, .int (iI (i : Int))), (2, .int (iI (o : Int))), (3, .ref ob)] := hl
  have hIn := hI.n
  refine lv_aload_n hx hb dL_setOff_0 rfl (lv_at hl 3 rfl) ?_
  refine lv_iconst (v := iI 0) hx hb dL_setOff_1 rfl ?_
  refine lv_aload_n hx hb dL_setOff_2 rfl (lv_at hl 0 rfl) ?_
  refine lv_iload_n hx hb dL_setOff_3 rfl (lv_at hl 1 rfl) ?_
  refine lv_iload_n hx hb dL_setOff_4 rfl (lv_at hl 2 rfl) ?_
  refine vx_calli (vx_runV (As := [.int (iI (i : Int)), .int (iI (o : Int))]) (rest := [.int (iI 0), .ref ob]) ⟨hx, hb, hml, hown, hts⟩ (t3_X0_setOff l hfl G x a s.heap.size B σ i o hI hi ho h5) (cwV 2 hts gL_setOff_X0_setOff rfl rfl rfl (by decide +kernel) ⟨Nat.le_of_ble_eq_true rfl, Nat.le_of_ble_eq_true rfl⟩) (preTX hK hP hE) rfl rfl hl.1 rfl (lv_room (Nat.le_of_ble_eq_true rfl)) dL_setOff_5 ⟨Nat.le_of_ble_eq_true rfl, Nat.le_of_ble_eq_true rfl⟩) va_S.rf (fun q _ h => h) (fun q h => h) (fun q _ h => h) (fun E ce q9 u t H locs9 _ _ _ hE1 hz hk hS hce hcv hcl => ?_) (fun r u t H1 locs1 _ _ hf => hf.elim)
  subst hE1
  refine vx_catch (name := zISE) hown [⟨0, 10, 13, 21⟩] ⟨0, 10, 17, 15⟩ [] htab (fun z hz => by
      rcases (by simpa using hz : z = (⟨0, 10, 13, 21⟩ : ExceptionTableEntry)) with h <;> subst h
      · exact Or.inr ⟨by decide, zIOE, w_0, hN.2.2⟩) (by decide) (by decide) w_1 (va_tabs rfl rfl (hE.2.2.1 _ (List.mem_of_getElem? (i := 1) rfl))) hce hcv hcl ?_
  refine lv_astore (lv' := [(4, .ref q9), (0, .ref x), (1, .int (iI (i : Int))), (2, .int (iI (o : Int))), (3, .ref ob)]) hx hb dL_setOff_17 hl (by decide) rfl (fun ls hl => ?_)
  refine lv_iconst (v := iI 2) hx hb dL_setOff_19 rfl ?_
  exact W.iret hx hb hr (fun t ht hW => ⟨⟨_, (), rfl, rfl, trivial⟩, hS.F ht⟩) hS.2.2 dL_setOff_20
set_option maxHeartbeats 4000000 in
set_option maxRecDepth 100000 in
theorem f4_L_setOff (l : Launch) (hfl : l.stackTraces = false) (G : zG) (x : Nat) (a : Nat → Nat) (ob : Nat) (sz : Nat) (B : Nat) (σ : zS) (i : Nat) (o : Nat) (hI : zI B σ) (hi : i < σ.1 1) (ho : o < σ.1 1) (h4 : σ.2 5 i = 0) (h5 : σ.2 5 o ≠ 0) : Met l yL_setOff wsL_setOff ({ frames := 8, cells := 1, slots := 6, locals := 134 } : Room) (va_Pc [.ref x, .int (iI (i : Int)), .int (iI (o : Int)), .ref ob] (wF G x a σ sz)) (va_Qi (fun r (_ : Unit) => r = iI 2) (fun _ _ => True) (nA sz)) 1 6 (nA sz) := by
  refine va_MetW (cc := cL_setOff) (maxL := 5) (ret := (some .int)) (hh := [(0, 10, 13, 21), (0, 10, 17, 15)]) (by decide) rfl ?_
  intro pp ee s m args below meth c s₁ B9 hml hv
  obtain ⟨rfl, hsz, hP, hK, hE, hN⟩ := hv
  subst hsz
  have hx := B9.exec
  have hb := B9.bytes
  have hr := B9.returns
  have hts := atoms_spec (ws := wsL_setOff) B9.pre
  have hown : s.vm.findClass RL = some m.cls := findClass_of_methodNamed B9.named
  have hlocks := B9.notSynchronized
  have htab : c.exceptionTable.toList = tableOf [(0, 10, 13, 21), (0, 10, 17, 15)] := vx_table (x := yL_setOff) B9 (hts (.codeWith yL_setOff cL_setOff 5 (some .int) [(0, 10, 13, 21), (0, 10, 17, 15)]) List.mem_cons_self)
  have w_0 := hts (.classLink RL 21 zIOE) (by decide +kernel)
  have w_1 := hts (.classLink RL 15 zISE) (by decide +kernel)
  have hl := lv_entry ([.ref x, .int (iI (i : Int)), .int (iI (o : Int)), .ref ob]) (n := 5) (Nat.le_of_ble_eq_true rfl)
  rw [lg_entry_eq]
  generalize (lg_sl ([.ref x, .int (iI (i : Int)), .int (iI (o : Int)), .ref ob]) ++ List.replicate (5 - (lg_sl ([.ref x, .int (iI (i : Int)), .int (iI (o : Int)), .ref ob])).length) Slot.unset).toArray = ls at hl ⊢
  have hl : lv_has ls 5 [(0, .ref x), (1, .int (iI (i : Int))), (2, .int (iI (o : Int))), (3, .ref ob)] := hl
  have hIn := hI.n
  refine lv_aload_n hx hb dL_setOff_0 rfl (lv_at hl 3 rfl) ?_
  refine lv_iconst (v := iI 0) hx hb dL_setOff_1 rfl ?_
  refine lv_aload_n hx hb dL_setOff_2 rfl (lv_at hl 0 rfl) ?_
  refine lv_iload_n hx hb dL_setOff_3 rfl (lv_at hl 1 rfl) ?_
  refine lv_iload_n hx hb dL_setOff_4 rfl (lv_at hl 2 rfl) ?_
  refine vx_calli (vx_runV (As := [.int (iI (i : Int)), .int (iI (o : Int))]) (rest := [.int (iI 0), .ref ob]) ⟨hx, hb, hml, hown, hts⟩ (t4_X0_setOff l hfl G x a s.heap.size B σ i o hI hi ho h4 h5) (cwV 2 hts gL_setOff_X0_setOff rfl rfl rfl (by decide +kernel) ⟨Nat.le_of_ble_eq_true rfl, Nat.le_of_ble_eq_true rfl⟩) (preTX hK hP hE) rfl rfl hl.1 rfl (lv_room (Nat.le_of_ble_eq_true rfl)) dL_setOff_5 ⟨Nat.le_of_ble_eq_true rfl, Nat.le_of_ble_eq_true rfl⟩) va_S.rf (fun q _ h => h) (fun q h => h) (fun q _ h => h) (fun E ce q9 u t H locs9 _ _ _ hE1 hz hk hS hce hcv hcl => ?_) (fun r u t H1 locs1 _ _ hf => hf.elim)
  subst hE1
  refine vx_catch (name := zISE) hown [⟨0, 10, 13, 21⟩] ⟨0, 10, 17, 15⟩ [] htab (fun z hz => by
      rcases (by simpa using hz : z = (⟨0, 10, 13, 21⟩ : ExceptionTableEntry)) with h <;> subst h
      · exact Or.inr ⟨by decide, zIOE, w_0, hN.2.2⟩) (by decide) (by decide) w_1 (va_tabs rfl rfl (hE.2.2.1 _ (List.mem_of_getElem? (i := 1) rfl))) hce hcv hcl ?_
  refine lv_astore (lv' := [(4, .ref q9), (0, .ref x), (1, .int (iI (i : Int))), (2, .int (iI (o : Int))), (3, .ref ob)]) hx hb dL_setOff_17 hl (by decide) rfl (fun ls hl => ?_)
  refine lv_iconst (v := iI 2) hx hb dL_setOff_19 rfl ?_
  exact W.iret hx hb hr (fun t ht hW => ⟨⟨_, (), rfl, rfl, trivial⟩, hS.F ht⟩) hS.2.2 dL_setOff_20
set_option maxHeartbeats 4000000 in
set_option maxRecDepth 100000 in
theorem f5_L_setOff (l : Launch) (hfl : l.stackTraces = false) (G : zG) (x : Nat) (a : Nat → Nat) (ob : Nat) (sz : Nat) (B : Nat) (σ : zS) (i : Nat) (o : Nat) (hI : zI B σ) (hi : i < σ.1 1) (ho : o < σ.1 1) (h4 : σ.2 5 i = 0) (h5 : σ.2 5 o = 0) (hq : agn σ i o = 0) : Met l yL_setOff wsL_setOff ({ frames := 7, cells := 1, slots := 6, locals := 113 } : Room) (va_Pc [.ref x, .int (iI (i : Int)), .int (iI (o : Int)), .ref ob] (wF G x a σ sz)) (va_Qi (fun r (_ : Unit) => r = iI 2) (fun _ _ => True) (nA sz)) 1 6 (nA sz) := by
  refine va_MetW (cc := cL_setOff) (maxL := 5) (ret := (some .int)) (hh := [(0, 10, 13, 21), (0, 10, 17, 15)]) (by decide) rfl ?_
  intro pp ee s m args below meth c s₁ B9 hml hv
  obtain ⟨rfl, hsz, hP, hK, hE, hN⟩ := hv
  subst hsz
  have hx := B9.exec
  have hb := B9.bytes
  have hr := B9.returns
  have hts := atoms_spec (ws := wsL_setOff) B9.pre
  have hown : s.vm.findClass RL = some m.cls := findClass_of_methodNamed B9.named
  have hlocks := B9.notSynchronized
  have htab : c.exceptionTable.toList = tableOf [(0, 10, 13, 21), (0, 10, 17, 15)] := vx_table (x := yL_setOff) B9 (hts (.codeWith yL_setOff cL_setOff 5 (some .int) [(0, 10, 13, 21), (0, 10, 17, 15)]) List.mem_cons_self)
  have w_0 := hts (.classLink RL 21 zIOE) (by decide +kernel)
  have w_1 := hts (.classLink RL 15 zISE) (by decide +kernel)
  have hl := lv_entry ([.ref x, .int (iI (i : Int)), .int (iI (o : Int)), .ref ob]) (n := 5) (Nat.le_of_ble_eq_true rfl)
  rw [lg_entry_eq]
  generalize (lg_sl ([.ref x, .int (iI (i : Int)), .int (iI (o : Int)), .ref ob]) ++ List.replicate (5 - (lg_sl ([.ref x, .int (iI (i : Int)), .int (iI (o : Int)), .ref ob])).length) Slot.unset).toArray = ls at hl ⊢
  have hl : lv_has ls 5 [(0, .ref x), (1, .int (iI (i : Int))), (2, .int (iI (o : Int))), (3, .ref ob)] := hl
  have hIn := hI.n
  refine lv_aload_n hx hb dL_setOff_0 rfl (lv_at hl 3 rfl) ?_
  refine lv_iconst (v := iI 0) hx hb dL_setOff_1 rfl ?_
  refine lv_aload_n hx hb dL_setOff_2 rfl (lv_at hl 0 rfl) ?_
  refine lv_iload_n hx hb dL_setOff_3 rfl (lv_at hl 1 rfl) ?_
  refine lv_iload_n hx hb dL_setOff_4 rfl (lv_at hl 2 rfl) ?_
  refine vx_calli (vx_runV (As := [.int (iI (i : Int)), .int (iI (o : Int))]) (rest := [.int (iI 0), .ref ob]) ⟨hx, hb, hml, hown, hts⟩ (t5_X0_setOff l hfl G x a s.heap.size B σ i o hI hi ho h4 h5 hq) (cwV 2 hts gL_setOff_X0_setOff rfl rfl rfl (by decide +kernel) ⟨Nat.le_of_ble_eq_true rfl, Nat.le_of_ble_eq_true rfl⟩) (preTX hK hP hE) rfl rfl hl.1 rfl (lv_room (Nat.le_of_ble_eq_true rfl)) dL_setOff_5 ⟨Nat.le_of_ble_eq_true rfl, Nat.le_of_ble_eq_true rfl⟩) va_S.rf (fun q _ h => h) (fun q h => h) (fun q _ h => h) (fun E ce q9 u t H locs9 _ _ _ hE1 hz hk hS hce hcv hcl => ?_) (fun r u t H1 locs1 _ _ hf => hf.elim)
  subst hE1
  refine vx_catch (name := zISE) hown [⟨0, 10, 13, 21⟩] ⟨0, 10, 17, 15⟩ [] htab (fun z hz => by
      rcases (by simpa using hz : z = (⟨0, 10, 13, 21⟩ : ExceptionTableEntry)) with h <;> subst h
      · exact Or.inr ⟨by decide, zIOE, w_0, hN.2.2⟩) (by decide) (by decide) w_1 (va_tabs rfl rfl (hE.2.2.1 _ (List.mem_of_getElem? (i := 1) rfl))) hce hcv hcl ?_
  refine lv_astore (lv' := [(4, .ref q9), (0, .ref x), (1, .int (iI (i : Int))), (2, .int (iI (o : Int))), (3, .ref ob)]) hx hb dL_setOff_17 hl (by decide) rfl (fun ls hl => ?_)
  refine lv_iconst (v := iI 2) hx hb dL_setOff_19 rfl ?_
  exact W.iret hx hb hr (fun t ht hW => ⟨⟨_, (), rfl, rfl, trivial⟩, hS.F ht⟩) hS.2.2 dL_setOff_20
set_option maxHeartbeats 4000000 in
set_option maxRecDepth 100000 in
theorem f1_L_setPride (l : Launch) (hfl : l.stackTraces = false) (G : zG) (x : Nat) (a : Nat → Nat) (ob : Nat) (sz : Nat) (B : Nat) (σ : zS) (z : Int) (w : Int) (hI : zI B σ) (hzb : -2147483648 ≤ z ∧ z < 2147483648) (hbad : z < 0 ∨ (σ.1 0 : Int) ≤ z) : Met l yL_setPride wsL_setPride ({ frames := 8, cells := 1, slots := 6, locals := 134 } : Room) (va_Pc [.ref x, .int (iI z), .int (iI w), .ref ob] (wF G x a σ sz)) (va_Qi (fun r (_ : Unit) => r = iI 1) (fun _ _ => True) (nA sz)) 1 6 (nA sz) := by
  refine va_MetW (cc := cL_setPride) (maxL := 5) (ret := (some .int)) (hh := [(0, 10, 13, 21), (0, 10, 17, 13)]) (by decide) rfl ?_
  intro pp ee s m args below meth c s₁ B9 hml hv
  obtain ⟨rfl, hsz, hP, hK, hE, hN⟩ := hv
  subst hsz
  have hx := B9.exec
  have hb := B9.bytes
  have hr := B9.returns
  have hts := atoms_spec (ws := wsL_setPride) B9.pre
  have hown : s.vm.findClass RL = some m.cls := findClass_of_methodNamed B9.named
  have hlocks := B9.notSynchronized
  have htab : c.exceptionTable.toList = tableOf [(0, 10, 13, 21), (0, 10, 17, 13)] := vx_table (x := yL_setPride) B9 (hts (.codeWith yL_setPride cL_setPride 5 (some .int) [(0, 10, 13, 21), (0, 10, 17, 13)]) List.mem_cons_self)
  have w_0 := hts (.classLink RL 21 zIOE) (by decide +kernel)
  have hl := lv_entry ([.ref x, .int (iI z), .int (iI w), .ref ob]) (n := 5) (Nat.le_of_ble_eq_true rfl)
  rw [lg_entry_eq]
  generalize (lg_sl ([.ref x, .int (iI z), .int (iI w), .ref ob]) ++ List.replicate (5 - (lg_sl ([.ref x, .int (iI z), .int (iI w), .ref ob])).length) Slot.unset).toArray = ls at hl ⊢
  have hl : lv_has ls 5 [(0, .ref x), (1, .int (iI z)), (2, .int (iI w)), (3, .ref ob)] := hl
  have hIn := hI.n
  refine lv_aload_n hx hb dL_setPride_0 rfl (lv_at hl 3 rfl) ?_
  refine lv_iconst (v := iI 0) hx hb dL_setPride_1 rfl ?_
  refine lv_aload_n hx hb dL_setPride_2 rfl (lv_at hl 0 rfl) ?_
  refine lv_iload_n hx hb dL_setPride_3 rfl (lv_at hl 1 rfl) ?_
  refine lv_iload_n hx hb dL_setPride_4 rfl (lv_at hl 2 rfl) ?_
  refine vx_calli (vx_runV (As := [.int (iI z), .int (iI w)]) (rest := [.int (iI 0), .ref ob]) ⟨hx, hb, hml, hown, hts⟩ (t1_X0_setPride l hfl G x a s.heap.size B σ z w hI hzb hbad) (cwV 2 hts gL_setPride_X0_setPride rfl rfl rfl (by decide +kernel) ⟨Nat.le_of_ble_eq_true rfl, Nat.le_of_ble_eq_true rfl⟩) (preTX hK hP hE) rfl rfl hl.1 rfl (lv_room (Nat.le_of_ble_eq_true rfl)) dL_setPride_5 ⟨Nat.le_of_ble_eq_true rfl, Nat.le_of_ble_eq_true rfl⟩) va_S.rf (fun q _ h => h) (fun q h => h) (fun q _ h => h) (fun E ce q9 u t H locs9 _ _ _ hE1 hz hk hS hce hcv hcl => ?_) (fun r u t H1 locs1 _ _ hf => hf.elim)
  subst hE1
  refine vx_catch (name := zIOE) hown [] ⟨0, 10, 13, 21⟩ [⟨0, 10, 17, 13⟩] htab (fun z hz => by cases hz) (by decide) (by decide) w_0 (va_tabs rfl rfl (hE.2.2.1 _ (List.mem_of_getElem? (i := 2) rfl))) hce hcv hcl ?_
  refine lv_astore (lv' := [(4, .ref q9), (0, .ref x), (1, .int (iI z)), (2, .int (iI w)), (3, .ref ob)]) hx hb dL_setPride_13 hl (by decide) rfl (fun ls hl => ?_)
  refine lv_iconst (v := iI 1) hx hb dL_setPride_15 rfl ?_
  exact W.iret hx hb hr (fun t ht hW => ⟨⟨_, (), rfl, rfl, trivial⟩, hS.F ht⟩) hS.2.2 dL_setPride_16
set_option maxHeartbeats 4000000 in
set_option maxRecDepth 100000 in
theorem f2_L_setPride (l : Launch) (hfl : l.stackTraces = false) (G : zG) (x : Nat) (a : Nat → Nat) (ob : Nat) (sz : Nat) (B : Nat) (σ : zS) (p : Nat) (z : Int) (hI : zI B σ) (hp : p < σ.1 0) (hzb : -2147483648 ≤ z ∧ z < 2147483648) (hbad : z < 0 ∨ 9 < z) : Met l yL_setPride wsL_setPride ({ frames := 8, cells := 1, slots := 6, locals := 133 } : Room) (va_Pc [.ref x, .int (iI (p : Int)), .int (iI z), .ref ob] (wF G x a σ sz)) (va_Qi (fun r (_ : Unit) => r = iI 2) (fun _ _ => True) (nA sz)) 1 6 (nA sz) := by
  refine va_MetW (cc := cL_setPride) (maxL := 5) (ret := (some .int)) (hh := [(0, 10, 13, 21), (0, 10, 17, 13)]) (by decide) rfl ?_
  intro pp ee s m args below meth c s₁ B9 hml hv
  obtain ⟨rfl, hsz, hP, hK, hE, hN⟩ := hv
  subst hsz
  have hx := B9.exec
  have hb := B9.bytes
  have hr := B9.returns
  have hts := atoms_spec (ws := wsL_setPride) B9.pre
  have hown : s.vm.findClass RL = some m.cls := findClass_of_methodNamed B9.named
  have hlocks := B9.notSynchronized
  have htab : c.exceptionTable.toList = tableOf [(0, 10, 13, 21), (0, 10, 17, 13)] := vx_table (x := yL_setPride) B9 (hts (.codeWith yL_setPride cL_setPride 5 (some .int) [(0, 10, 13, 21), (0, 10, 17, 13)]) List.mem_cons_self)
  have w_0 := hts (.classLink RL 21 zIOE) (by decide +kernel)
  have w_1 := hts (.classLink RL 13 zIAE) (by decide +kernel)
  have hl := lv_entry ([.ref x, .int (iI (p : Int)), .int (iI z), .ref ob]) (n := 5) (Nat.le_of_ble_eq_true rfl)
  rw [lg_entry_eq]
  generalize (lg_sl ([.ref x, .int (iI (p : Int)), .int (iI z), .ref ob]) ++ List.replicate (5 - (lg_sl ([.ref x, .int (iI (p : Int)), .int (iI z), .ref ob])).length) Slot.unset).toArray = ls at hl ⊢
  have hl : lv_has ls 5 [(0, .ref x), (1, .int (iI (p : Int))), (2, .int (iI z)), (3, .ref ob)] := hl
  have hIn := hI.n
  refine lv_aload_n hx hb dL_setPride_0 rfl (lv_at hl 3 rfl) ?_
  refine lv_iconst (v := iI 0) hx hb dL_setPride_1 rfl ?_
  refine lv_aload_n hx hb dL_setPride_2 rfl (lv_at hl 0 rfl) ?_
  refine lv_iload_n hx hb dL_setPride_3 rfl (lv_at hl 1 rfl) ?_
  refine lv_iload_n hx hb dL_setPride_4 rfl (lv_at hl 2 rfl) ?_
  refine vx_calli (vx_runV (As := [.int (iI (p : Int)), .int (iI z)]) (rest := [.int (iI 0), .ref ob]) ⟨hx, hb, hml, hown, hts⟩ (t2_X0_setPride l hfl G x a s.heap.size B σ p z hI hp hzb hbad) (cwV 2 hts gL_setPride_X0_setPride rfl rfl rfl (by decide +kernel) ⟨Nat.le_of_ble_eq_true rfl, Nat.le_of_ble_eq_true rfl⟩) (preTX hK hP hE) rfl rfl hl.1 rfl (lv_room (Nat.le_of_ble_eq_true rfl)) dL_setPride_5 ⟨Nat.le_of_ble_eq_true rfl, Nat.le_of_ble_eq_true rfl⟩) va_S.rf (fun q _ h => h) (fun q h => h) (fun q _ h => h) (fun E ce q9 u t H locs9 _ _ _ hE1 hz hk hS hce hcv hcl => ?_) (fun r u t H1 locs1 _ _ hf => hf.elim)
  subst hE1
  refine vx_catch (name := zIAE) hown [⟨0, 10, 13, 21⟩] ⟨0, 10, 17, 13⟩ [] htab (fun z hz => by
      rcases (by simpa using hz : z = (⟨0, 10, 13, 21⟩ : ExceptionTableEntry)) with h <;> subst h
      · exact Or.inr ⟨by decide, zIOE, w_0, hN.2.1⟩) (by decide) (by decide) w_1 (va_tabs rfl rfl (hE.2.2.1 _ (List.mem_of_getElem? (i := 0) rfl))) hce hcv hcl ?_
  refine lv_astore (lv' := [(4, .ref q9), (0, .ref x), (1, .int (iI (p : Int))), (2, .int (iI z)), (3, .ref ob)]) hx hb dL_setPride_17 hl (by decide) rfl (fun ls hl => ?_)
  refine lv_iconst (v := iI 2) hx hb dL_setPride_19 rfl ?_
  exact W.iret hx hb hr (fun t ht hW => ⟨⟨_, (), rfl, rfl, trivial⟩, hS.F ht⟩) hS.2.2 dL_setPride_20
set_option maxHeartbeats 4000000 in
set_option maxRecDepth 100000 in
theorem f1_L_pass (l : Launch) (hfl : l.stackTraces = false) (G : zG) (x : Nat) (a : Nat → Nat) (ob : Nat) (sz : Nat) (B : Nat) (σ : zS) (z : Int) (hI : zI B σ) (hzb : -2147483648 ≤ z ∧ z < 2147483648) (hbad : z < 1 ∨ 60 < z) : Met l yL_pass wsL_pass ({ frames := 8, cells := 1, slots := 6, locals := 133 } : Room) (va_Pc [.ref x, .int (iI z), .ref ob] (wF G x a σ sz)) (va_Qi (fun r (_ : Unit) => r = iI 1) (fun _ _ => True) (nA sz)) 1 6 (nA sz) := by
  refine va_MetW (cc := cL_pass) (maxL := 4) (ret := (some .int)) (hh := [(0, 9, 12, 13)]) (by decide) rfl ?_
  intro pp ee s m args below meth c s₁ B9 hml hv
  obtain ⟨rfl, hsz, hP, hK, hE, hN⟩ := hv
  subst hsz
  have hx := B9.exec
  have hb := B9.bytes
  have hr := B9.returns
  have hts := atoms_spec (ws := wsL_pass) B9.pre
  have hown : s.vm.findClass RL = some m.cls := findClass_of_methodNamed B9.named
  have hlocks := B9.notSynchronized
  have htab : c.exceptionTable.toList = tableOf [(0, 9, 12, 13)] := vx_table (x := yL_pass) B9 (hts (.codeWith yL_pass cL_pass 4 (some .int) [(0, 9, 12, 13)]) List.mem_cons_self)
  have w_0 := hts (.classLink RL 13 zIAE) (by decide +kernel)
  have hl := lv_entry ([.ref x, .int (iI z), .ref ob]) (n := 4) (Nat.le_of_ble_eq_true rfl)
  rw [lg_entry_eq]
  generalize (lg_sl ([.ref x, .int (iI z), .ref ob]) ++ List.replicate (4 - (lg_sl ([.ref x, .int (iI z), .ref ob])).length) Slot.unset).toArray = ls at hl ⊢
  have hl : lv_has ls 4 [(0, .ref x), (1, .int (iI z)), (2, .ref ob)] := hl
  have hIn := hI.n
  refine lv_aload_n hx hb dL_pass_0 rfl (lv_at hl 2 rfl) ?_
  refine lv_iconst (v := iI 0) hx hb dL_pass_1 rfl ?_
  refine lv_aload_n hx hb dL_pass_2 rfl (lv_at hl 0 rfl) ?_
  refine lv_iload_n hx hb dL_pass_3 rfl (lv_at hl 1 rfl) ?_
  refine vx_calli (vx_runV (As := [.int (iI z)]) (rest := [.int (iI 0), .ref ob]) ⟨hx, hb, hml, hown, hts⟩ (t1_X0_pass l hfl G x a s.heap.size B σ z hI hzb hbad) (cwV 1 hts gL_pass_X0_pass rfl rfl rfl (by decide +kernel) ⟨Nat.le_of_ble_eq_true rfl, Nat.le_of_ble_eq_true rfl⟩) (preTX hK hP hE) rfl rfl hl.1 rfl (lv_room (Nat.le_of_ble_eq_true rfl)) dL_pass_4 ⟨Nat.le_of_ble_eq_true rfl, Nat.le_of_ble_eq_true rfl⟩) va_S.rf (fun q _ h => h) (fun q h => h) (fun q _ h => h) (fun E ce q9 u t H locs9 _ _ _ hE1 hz hk hS hce hcv hcl => ?_) (fun r u t H1 locs1 _ _ hf => hf.elim)
  subst hE1
  refine vx_catch (name := zIAE) hown [] ⟨0, 9, 12, 13⟩ [] htab (fun z hz => by cases hz) (by decide) (by decide) w_0 (va_tabs rfl rfl (hE.2.2.1 _ (List.mem_of_getElem? (i := 0) rfl))) hce hcv hcl ?_
  refine lv_astore_n (lv' := [(3, .ref q9), (0, .ref x), (1, .int (iI z)), (2, .ref ob)]) hx hb dL_pass_12 rfl hl (by decide) rfl (fun ls hl => ?_)
  refine lv_iconst (v := iI 1) hx hb dL_pass_13 rfl ?_
  exact W.iret hx hb hr (fun t ht hW => ⟨⟨_, (), rfl, rfl, trivial⟩, hS.F ht⟩) hS.2.2 dL_pass_14
set_option maxHeartbeats 4000000 in
set_option maxRecDepth 100000 in
theorem f1_L_balance (l : Launch) (hfl : l.stackTraces = false) (G : zG) (x : Nat) (a : Nat → Nat) (ob : Nat) (sz : Nat) (B : Nat) (σ : zS) (z : Int) (y : Int) (hI : zI B σ) (hzb : -2147483648 ≤ z ∧ z < 2147483648) (hbad : z < 0 ∨ (σ.1 0 : Int) ≤ z) : Met l yL_balance wsL_balance ({ frames := 8, cells := 1, slots := 6, locals := 133 } : Room) (va_Pc [.ref x, .int (iI z), .int (iI y), .ref ob] (wF G x a σ sz)) (va_Qi (fun r (_ : Unit) => r = iI 1) (fun _ _ => True) (nA sz)) 1 6 (nA sz) := by
  refine va_MetW (cc := cL_balance) (maxL := 5) (ret := (some .int)) (hh := [(0, 10, 13, 21)]) (by decide) rfl ?_
  intro pp ee s m args below meth c s₁ B9 hml hv
  obtain ⟨rfl, hsz, hP, hK, hE, hN⟩ := hv
  subst hsz
  have hx := B9.exec
  have hb := B9.bytes
  have hr := B9.returns
  have hts := atoms_spec (ws := wsL_balance) B9.pre
  have hown : s.vm.findClass RL = some m.cls := findClass_of_methodNamed B9.named
  have hlocks := B9.notSynchronized
  have htab : c.exceptionTable.toList = tableOf [(0, 10, 13, 21)] := vx_table (x := yL_balance) B9 (hts (.codeWith yL_balance cL_balance 5 (some .int) [(0, 10, 13, 21)]) List.mem_cons_self)
  have w_0 := hts (.classLink RL 21 zIOE) (by decide +kernel)
  have hl := lv_entry ([.ref x, .int (iI z), .int (iI y), .ref ob]) (n := 5) (Nat.le_of_ble_eq_true rfl)
  rw [lg_entry_eq]
  generalize (lg_sl ([.ref x, .int (iI z), .int (iI y), .ref ob]) ++ List.replicate (5 - (lg_sl ([.ref x, .int (iI z), .int (iI y), .ref ob])).length) Slot.unset).toArray = ls at hl ⊢
  have hl : lv_has ls 5 [(0, .ref x), (1, .int (iI z)), (2, .int (iI y)), (3, .ref ob)] := hl
  have hIn := hI.n
  refine lv_aload_n hx hb dL_balance_0 rfl (lv_at hl 3 rfl) ?_
  refine lv_iconst (v := iI 0) hx hb dL_balance_1 rfl ?_
  refine lv_aload_n hx hb dL_balance_2 rfl (lv_at hl 0 rfl) ?_
  refine lv_iload_n hx hb dL_balance_3 rfl (lv_at hl 1 rfl) ?_
  refine lv_iload_n hx hb dL_balance_4 rfl (lv_at hl 2 rfl) ?_
  refine vx_calli (vx_runV (As := [.int (iI z), .int (iI y)]) (rest := [.int (iI 0), .ref ob]) ⟨hx, hb, hml, hown, hts⟩ (t1_X0_balance l hfl G x a s.heap.size B σ z y hI hzb hbad) (cwV 2 hts gL_balance_X0_balance rfl rfl rfl (by decide +kernel) ⟨Nat.le_of_ble_eq_true rfl, Nat.le_of_ble_eq_true rfl⟩) (preTX hK hP hE) rfl rfl hl.1 rfl (lv_room (Nat.le_of_ble_eq_true rfl)) dL_balance_5 ⟨Nat.le_of_ble_eq_true rfl, Nat.le_of_ble_eq_true rfl⟩) va_S.rf (fun q _ h => h) (fun q h => h) (fun q _ h => h) (fun E ce q9 u t H locs9 _ _ _ hE1 hz hk hS hce hcv hcl => ?_) (fun r u t H1 locs1 _ _ hf => hf.elim)
  subst hE1
  refine vx_catch (name := zIOE) hown [] ⟨0, 10, 13, 21⟩ [] htab (fun z hz => by cases hz) (by decide) (by decide) w_0 (va_tabs rfl rfl (hE.2.2.1 _ (List.mem_of_getElem? (i := 2) rfl))) hce hcv hcl ?_
  refine lv_astore (lv' := [(4, .ref q9), (0, .ref x), (1, .int (iI z)), (2, .int (iI y)), (3, .ref ob)]) hx hb dL_balance_13 hl (by decide) rfl (fun ls hl => ?_)
  refine lv_iconst (v := iI 1) hx hb dL_balance_15 rfl ?_
  exact W.iret hx hb hr (fun t ht hW => ⟨⟨_, (), rfl, rfl, trivial⟩, hS.F ht⟩) hS.2.2 dL_balance_16
set_option maxHeartbeats 4000000 in
set_option maxRecDepth 100000 in
theorem f2_L_balance (l : Launch) (hfl : l.stackTraces = false) (G : zG) (x : Nat) (a : Nat → Nat) (ob : Nat) (sz : Nat) (B : Nat) (σ : zS) (i : Nat) (z : Int) (hI : zI B σ) (hi : i < σ.1 0) (hzb : -2147483648 ≤ z ∧ z < 2147483648) (hbad : z < 0 ∨ (σ.1 0 : Int) ≤ z) : Met l yL_balance wsL_balance ({ frames := 8, cells := 1, slots := 6, locals := 133 } : Room) (va_Pc [.ref x, .int (iI (i : Int)), .int (iI z), .ref ob] (wF G x a σ sz)) (va_Qi (fun r (_ : Unit) => r = iI 1) (fun _ _ => True) (nA sz)) 1 6 (nA sz) := by
  refine va_MetW (cc := cL_balance) (maxL := 5) (ret := (some .int)) (hh := [(0, 10, 13, 21)]) (by decide) rfl ?_
  intro pp ee s m args below meth c s₁ B9 hml hv
  obtain ⟨rfl, hsz, hP, hK, hE, hN⟩ := hv
  subst hsz
  have hx := B9.exec
  have hb := B9.bytes
  have hr := B9.returns
  have hts := atoms_spec (ws := wsL_balance) B9.pre
  have hown : s.vm.findClass RL = some m.cls := findClass_of_methodNamed B9.named
  have hlocks := B9.notSynchronized
  have htab : c.exceptionTable.toList = tableOf [(0, 10, 13, 21)] := vx_table (x := yL_balance) B9 (hts (.codeWith yL_balance cL_balance 5 (some .int) [(0, 10, 13, 21)]) List.mem_cons_self)
  have w_0 := hts (.classLink RL 21 zIOE) (by decide +kernel)
  have hl := lv_entry ([.ref x, .int (iI (i : Int)), .int (iI z), .ref ob]) (n := 5) (Nat.le_of_ble_eq_true rfl)
  rw [lg_entry_eq]
  generalize (lg_sl ([.ref x, .int (iI (i : Int)), .int (iI z), .ref ob]) ++ List.replicate (5 - (lg_sl ([.ref x, .int (iI (i : Int)), .int (iI z), .ref ob])).length) Slot.unset).toArray = ls at hl ⊢
  have hl : lv_has ls 5 [(0, .ref x), (1, .int (iI (i : Int))), (2, .int (iI z)), (3, .ref ob)] := hl
  have hIn := hI.n
  refine lv_aload_n hx hb dL_balance_0 rfl (lv_at hl 3 rfl) ?_
  refine lv_iconst (v := iI 0) hx hb dL_balance_1 rfl ?_
  refine lv_aload_n hx hb dL_balance_2 rfl (lv_at hl 0 rfl) ?_
  refine lv_iload_n hx hb dL_balance_3 rfl (lv_at hl 1 rfl) ?_
  refine lv_iload_n hx hb dL_balance_4 rfl (lv_at hl 2 rfl) ?_
  refine vx_calli (vx_runV (As := [.int (iI (i : Int)), .int (iI z)]) (rest := [.int (iI 0), .ref ob]) ⟨hx, hb, hml, hown, hts⟩ (t2_X0_balance l hfl G x a s.heap.size B σ i z hI hi hzb hbad) (cwV 2 hts gL_balance_X0_balance rfl rfl rfl (by decide +kernel) ⟨Nat.le_of_ble_eq_true rfl, Nat.le_of_ble_eq_true rfl⟩) (preTX hK hP hE) rfl rfl hl.1 rfl (lv_room (Nat.le_of_ble_eq_true rfl)) dL_balance_5 ⟨Nat.le_of_ble_eq_true rfl, Nat.le_of_ble_eq_true rfl⟩) va_S.rf (fun q _ h => h) (fun q h => h) (fun q _ h => h) (fun E ce q9 u t H locs9 _ _ _ hE1 hz hk hS hce hcv hcl => ?_) (fun r u t H1 locs1 _ _ hf => hf.elim)
  subst hE1
  refine vx_catch (name := zIOE) hown [] ⟨0, 10, 13, 21⟩ [] htab (fun z hz => by cases hz) (by decide) (by decide) w_0 (va_tabs rfl rfl (hE.2.2.1 _ (List.mem_of_getElem? (i := 2) rfl))) hce hcv hcl ?_
  refine lv_astore (lv' := [(4, .ref q9), (0, .ref x), (1, .int (iI (i : Int))), (2, .int (iI z)), (3, .ref ob)]) hx hb dL_balance_13 hl (by decide) rfl (fun ls hl => ?_)
  refine lv_iconst (v := iI 1) hx hb dL_balance_15 rfl ?_
  exact W.iret hx hb hr (fun t ht hW => ⟨⟨_, (), rfl, rfl, trivial⟩, hS.F ht⟩) hS.2.2 dL_balance_16
set_option maxHeartbeats 4000000 in
set_option maxRecDepth 100000 in
theorem f1_L_inState (l : Launch) (hfl : l.stackTraces = false) (G : zG) (x : Nat) (a : Nat → Nat) (ob : Nat) (sz : Nat) (B : Nat) (σ : zS) (z : Int) (hI : zI B σ) (hzb : -2147483648 ≤ z ∧ z < 2147483648) (hbad : z < 0 ∨ 3 < z) : Met l yL_inState wsL_inState ({ frames := 7, cells := 1, slots := 6, locals := 113 } : Room) (va_Pc [.ref x, .int (iI z), .ref ob] (wF G x a σ sz)) (va_Qi (fun r (_ : Unit) => r = iI 1) (fun _ _ => True) (nA sz)) 1 6 (nA sz) := by
  refine va_MetW (cc := cL_inState) (maxL := 4) (ret := (some .int)) (hh := [(0, 9, 12, 13)]) (by decide) rfl ?_
  intro pp ee s m args below meth c s₁ B9 hml hv
  obtain ⟨rfl, hsz, hP, hK, hE, hN⟩ := hv
  subst hsz
  have hx := B9.exec
  have hb := B9.bytes
  have hr := B9.returns
  have hts := atoms_spec (ws := wsL_inState) B9.pre
  have hown : s.vm.findClass RL = some m.cls := findClass_of_methodNamed B9.named
  have hlocks := B9.notSynchronized
  have htab : c.exceptionTable.toList = tableOf [(0, 9, 12, 13)] := vx_table (x := yL_inState) B9 (hts (.codeWith yL_inState cL_inState 4 (some .int) [(0, 9, 12, 13)]) List.mem_cons_self)
  have w_0 := hts (.classLink RL 13 zIAE) (by decide +kernel)
  have hl := lv_entry ([.ref x, .int (iI z), .ref ob]) (n := 4) (Nat.le_of_ble_eq_true rfl)
  rw [lg_entry_eq]
  generalize (lg_sl ([.ref x, .int (iI z), .ref ob]) ++ List.replicate (4 - (lg_sl ([.ref x, .int (iI z), .ref ob])).length) Slot.unset).toArray = ls at hl ⊢
  have hl : lv_has ls 4 [(0, .ref x), (1, .int (iI z)), (2, .ref ob)] := hl
  have hIn := hI.n
  refine lv_aload_n hx hb dL_inState_0 rfl (lv_at hl 2 rfl) ?_
  refine lv_iconst (v := iI 0) hx hb dL_inState_1 rfl ?_
  refine lv_aload_n hx hb dL_inState_2 rfl (lv_at hl 0 rfl) ?_
  refine lv_iload_n hx hb dL_inState_3 rfl (lv_at hl 1 rfl) ?_
  refine vx_calli (vx_runV (As := [.int (iI z)]) (rest := [.int (iI 0), .ref ob]) ⟨hx, hb, hml, hown, hts⟩ (t1_X0_inState l hfl G x a s.heap.size B σ z hI hzb hbad) (cwV 1 hts gL_inState_X0_inState rfl rfl rfl (by decide +kernel) ⟨Nat.le_of_ble_eq_true rfl, Nat.le_of_ble_eq_true rfl⟩) (preTX hK hP hE) rfl rfl hl.1 rfl (lv_room (Nat.le_of_ble_eq_true rfl)) dL_inState_4 ⟨Nat.le_of_ble_eq_true rfl, Nat.le_of_ble_eq_true rfl⟩) va_S.rf (fun q _ h => h) (fun q h => h) (fun q _ h => h) (fun E ce q9 u t H locs9 _ _ _ hE1 hz hk hS hce hcv hcl => ?_) (fun r u t H1 locs1 _ _ hf => hf.elim)
  subst hE1
  refine vx_catch (name := zIAE) hown [] ⟨0, 9, 12, 13⟩ [] htab (fun z hz => by cases hz) (by decide) (by decide) w_0 (va_tabs rfl rfl (hE.2.2.1 _ (List.mem_of_getElem? (i := 0) rfl))) hce hcv hcl ?_
  refine lv_astore_n (lv' := [(3, .ref q9), (0, .ref x), (1, .int (iI z)), (2, .ref ob)]) hx hb dL_inState_12 rfl hl (by decide) rfl (fun ls hl => ?_)
  refine lv_iconst (v := iI 1) hx hb dL_inState_13 rfl ?_
  exact W.iret hx hb hr (fun t ht hW => ⟨⟨_, (), rfl, rfl, trivial⟩, hS.F ht⟩) hS.2.2 dL_inState_14
set_option maxHeartbeats 4000000 in
set_option maxRecDepth 100000 in
theorem f1_L_wouldBeScorned (l : Launch) (hfl : l.stackTraces = false) (G : zG) (x : Nat) (a : Nat → Nat) (ob : Nat) (sz : Nat) (B : Nat) (σ : zS) (z : Int) (w : Int) (hI : zI B σ) (hzb : -2147483648 ≤ z ∧ z < 2147483648) (hbad : z < 0 ∨ (σ.1 1 : Int) ≤ z) : Met l yL_wouldBeScorned wsL_wouldBeScorned ({ frames := 8, cells := 1, slots := 6, locals := 133 } : Room) (va_Pc [.ref x, .int (iI z), .int (iI w), .ref ob] (wF G x a σ sz)) (va_Qi (fun r (_ : Unit) => r = iI 1) (fun _ _ => True) (nA sz)) 1 6 (nA sz) := by
  refine va_MetW (cc := cL_wouldBeScorned) (maxL := 5) (ret := (some .int)) (hh := [(0, 17, 20, 21), (0, 17, 24, 13)]) (by decide) rfl ?_
  intro pp ee s m args below meth c s₁ B9 hml hv
  obtain ⟨rfl, hsz, hP, hK, hE, hN⟩ := hv
  subst hsz
  have hx := B9.exec
  have hb := B9.bytes
  have hr := B9.returns
  have hts := atoms_spec (ws := wsL_wouldBeScorned) B9.pre
  have hown : s.vm.findClass RL = some m.cls := findClass_of_methodNamed B9.named
  have hlocks := B9.notSynchronized
  have htab : c.exceptionTable.toList = tableOf [(0, 17, 20, 21), (0, 17, 24, 13)] := vx_table (x := yL_wouldBeScorned) B9 (hts (.codeWith yL_wouldBeScorned cL_wouldBeScorned 5 (some .int) [(0, 17, 20, 21), (0, 17, 24, 13)]) List.mem_cons_self)
  have w_0 := hts (.classLink RL 21 zIOE) (by decide +kernel)
  have hl := lv_entry ([.ref x, .int (iI z), .int (iI w), .ref ob]) (n := 5) (Nat.le_of_ble_eq_true rfl)
  rw [lg_entry_eq]
  generalize (lg_sl ([.ref x, .int (iI z), .int (iI w), .ref ob]) ++ List.replicate (5 - (lg_sl ([.ref x, .int (iI z), .int (iI w), .ref ob])).length) Slot.unset).toArray = ls at hl ⊢
  have hl : lv_has ls 5 [(0, .ref x), (1, .int (iI z)), (2, .int (iI w)), (3, .ref ob)] := hl
  have hIn := hI.n
  refine lv_aload_n hx hb dL_wouldBeScorned_0 rfl (lv_at hl 3 rfl) ?_
  refine lv_iconst (v := iI 0) hx hb dL_wouldBeScorned_1 rfl ?_
  refine lv_aload_n hx hb dL_wouldBeScorned_2 rfl (lv_at hl 0 rfl) ?_
  refine lv_iload_n hx hb dL_wouldBeScorned_3 rfl (lv_at hl 1 rfl) ?_
  refine lv_iload_n hx hb dL_wouldBeScorned_4 rfl (lv_at hl 2 rfl) ?_
  refine vx_calli (vx_runV (As := [.int (iI z), .int (iI w)]) (rest := [.int (iI 0), .ref ob]) ⟨hx, hb, hml, hown, hts⟩ (t1_X0_wouldBeScorned l hfl G x a s.heap.size B σ z w hI hzb hbad) (cwV 2 hts gL_wouldBeScorned_X0_wouldBeScorned rfl rfl rfl (by decide +kernel) ⟨Nat.le_of_ble_eq_true rfl, Nat.le_of_ble_eq_true rfl⟩) (preTX hK hP hE) rfl rfl hl.1 rfl (lv_room (Nat.le_of_ble_eq_true rfl)) dL_wouldBeScorned_5 ⟨Nat.le_of_ble_eq_true rfl, Nat.le_of_ble_eq_true rfl⟩) va_S.rf (fun q _ h => h) (fun q h => h) (fun q _ h => h) (fun E ce q9 u t H locs9 _ _ _ hE1 hz hk hS hce hcv hcl => ?_) (fun r u t H1 locs1 _ _ hf => hf.elim)
  subst hE1
  refine vx_catch (name := zIOE) hown [] ⟨0, 17, 20, 21⟩ [⟨0, 17, 24, 13⟩] htab (fun z hz => by cases hz) (by decide) (by decide) w_0 (va_tabs rfl rfl (hE.2.2.1 _ (List.mem_of_getElem? (i := 2) rfl))) hce hcv hcl ?_
  refine lv_astore (lv' := [(4, .ref q9), (0, .ref x), (1, .int (iI z)), (2, .int (iI w)), (3, .ref ob)]) hx hb dL_wouldBeScorned_20 hl (by decide) rfl (fun ls hl => ?_)
  refine lv_iconst (v := iI 1) hx hb dL_wouldBeScorned_22 rfl ?_
  exact W.iret hx hb hr (fun t ht hW => ⟨⟨_, (), rfl, rfl, trivial⟩, hS.F ht⟩) hS.2.2 dL_wouldBeScorned_23
set_option maxHeartbeats 4000000 in
set_option maxRecDepth 100000 in
theorem f2_L_wouldBeScorned (l : Launch) (hfl : l.stackTraces = false) (G : zG) (x : Nat) (a : Nat → Nat) (ob : Nat) (sz : Nat) (B : Nat) (σ : zS) (k : Nat) (z : Int) (hI : zI B σ) (hk : k < σ.1 1) (hzb : -2147483648 ≤ z ∧ z < 2147483648) (hbad : z < 1 ∨ 20 < z) : Met l yL_wouldBeScorned wsL_wouldBeScorned ({ frames := 8, cells := 1, slots := 6, locals := 132 } : Room) (va_Pc [.ref x, .int (iI (k : Int)), .int (iI z), .ref ob] (wF G x a σ sz)) (va_Qi (fun r (_ : Unit) => r = iI 2) (fun _ _ => True) (nA sz)) 1 6 (nA sz) := by
  refine va_MetW (cc := cL_wouldBeScorned) (maxL := 5) (ret := (some .int)) (hh := [(0, 17, 20, 21), (0, 17, 24, 13)]) (by decide) rfl ?_
  intro pp ee s m args below meth c s₁ B9 hml hv
  obtain ⟨rfl, hsz, hP, hK, hE, hN⟩ := hv
  subst hsz
  have hx := B9.exec
  have hb := B9.bytes
  have hr := B9.returns
  have hts := atoms_spec (ws := wsL_wouldBeScorned) B9.pre
  have hown : s.vm.findClass RL = some m.cls := findClass_of_methodNamed B9.named
  have hlocks := B9.notSynchronized
  have htab : c.exceptionTable.toList = tableOf [(0, 17, 20, 21), (0, 17, 24, 13)] := vx_table (x := yL_wouldBeScorned) B9 (hts (.codeWith yL_wouldBeScorned cL_wouldBeScorned 5 (some .int) [(0, 17, 20, 21), (0, 17, 24, 13)]) List.mem_cons_self)
  have w_0 := hts (.classLink RL 21 zIOE) (by decide +kernel)
  have w_1 := hts (.classLink RL 13 zIAE) (by decide +kernel)
  have hl := lv_entry ([.ref x, .int (iI (k : Int)), .int (iI z), .ref ob]) (n := 5) (Nat.le_of_ble_eq_true rfl)
  rw [lg_entry_eq]
  generalize (lg_sl ([.ref x, .int (iI (k : Int)), .int (iI z), .ref ob]) ++ List.replicate (5 - (lg_sl ([.ref x, .int (iI (k : Int)), .int (iI z), .ref ob])).length) Slot.unset).toArray = ls at hl ⊢
  have hl : lv_has ls 5 [(0, .ref x), (1, .int (iI (k : Int))), (2, .int (iI z)), (3, .ref ob)] := hl
  have hIn := hI.n
  refine lv_aload_n hx hb dL_wouldBeScorned_0 rfl (lv_at hl 3 rfl) ?_
  refine lv_iconst (v := iI 0) hx hb dL_wouldBeScorned_1 rfl ?_
  refine lv_aload_n hx hb dL_wouldBeScorned_2 rfl (lv_at hl 0 rfl) ?_
  refine lv_iload_n hx hb dL_wouldBeScorned_3 rfl (lv_at hl 1 rfl) ?_
  refine lv_iload_n hx hb dL_wouldBeScorned_4 rfl (lv_at hl 2 rfl) ?_
  refine vx_calli (vx_runV (As := [.int (iI (k : Int)), .int (iI z)]) (rest := [.int (iI 0), .ref ob]) ⟨hx, hb, hml, hown, hts⟩ (t2_X0_wouldBeScorned l hfl G x a s.heap.size B σ k z hI hk hzb hbad) (cwV 2 hts gL_wouldBeScorned_X0_wouldBeScorned rfl rfl rfl (by decide +kernel) ⟨Nat.le_of_ble_eq_true rfl, Nat.le_of_ble_eq_true rfl⟩) (preTX hK hP hE) rfl rfl hl.1 rfl (lv_room (Nat.le_of_ble_eq_true rfl)) dL_wouldBeScorned_5 ⟨Nat.le_of_ble_eq_true rfl, Nat.le_of_ble_eq_true rfl⟩) va_S.rf (fun q _ h => h) (fun q h => h) (fun q _ h => h) (fun E ce q9 u t H locs9 _ _ _ hE1 hz hk hS hce hcv hcl => ?_) (fun r u t H1 locs1 _ _ hf => hf.elim)
  subst hE1
  refine vx_catch (name := zIAE) hown [⟨0, 17, 20, 21⟩] ⟨0, 17, 24, 13⟩ [] htab (fun z hz => by
      rcases (by simpa using hz : z = (⟨0, 17, 20, 21⟩ : ExceptionTableEntry)) with h <;> subst h
      · exact Or.inr ⟨by decide, zIOE, w_0, hN.2.1⟩) (by decide) (by decide) w_1 (va_tabs rfl rfl (hE.2.2.1 _ (List.mem_of_getElem? (i := 0) rfl))) hce hcv hcl ?_
  refine lv_astore (lv' := [(4, .ref q9), (0, .ref x), (1, .int (iI (k : Int))), (2, .int (iI z)), (3, .ref ob)]) hx hb dL_wouldBeScorned_24 hl (by decide) rfl (fun ls hl => ?_)
  refine lv_iconst (v := iI 2) hx hb dL_wouldBeScorned_26 rfl ?_
  exact W.iret hx hb hr (fun t ht hW => ⟨⟨_, (), rfl, rfl, trivial⟩, hS.F ht⟩) hS.2.2 dL_wouldBeScorned_27
set_option maxHeartbeats 4000000 in
set_option maxRecDepth 100000 in
theorem f1_L_weightIn (l : Launch) (hfl : l.stackTraces = false) (G : zG) (x : Nat) (a : Nat → Nat) (ob : Nat) (sz : Nat) (B : Nat) (σ : zS) (z : Int) (w : Int) (hI : zI B σ) (hzb : -2147483648 ≤ z ∧ z < 2147483648) (hbad : z < 0 ∨ (σ.1 1 : Int) ≤ z) : Met l yL_weightIn wsL_weightIn ({ frames := 8, cells := 1, slots := 6, locals := 135 } : Room) (va_Pc [.ref x, .int (iI z), .int (iI w), .ref ob] (wF G x a σ sz)) (va_Qi (fun r (_ : Unit) => r = iI 1) (fun _ _ => True) (nA sz)) 1 6 (nA sz) := by
  refine va_MetW (cc := cL_weightIn) (maxL := 5) (ret := (some .int)) (hh := [(0, 10, 13, 21), (0, 10, 17, 13)]) (by decide) rfl ?_
  intro pp ee s m args below meth c s₁ B9 hml hv
  obtain ⟨rfl, hsz, hP, hK, hE, hN⟩ := hv
  subst hsz
  have hx := B9.exec
  have hb := B9.bytes
  have hr := B9.returns
  have hts := atoms_spec (ws := wsL_weightIn) B9.pre
  have hown : s.vm.findClass RL = some m.cls := findClass_of_methodNamed B9.named
  have hlocks := B9.notSynchronized
  have htab : c.exceptionTable.toList = tableOf [(0, 10, 13, 21), (0, 10, 17, 13)] := vx_table (x := yL_weightIn) B9 (hts (.codeWith yL_weightIn cL_weightIn 5 (some .int) [(0, 10, 13, 21), (0, 10, 17, 13)]) List.mem_cons_self)
  have w_0 := hts (.classLink RL 21 zIOE) (by decide +kernel)
  have hl := lv_entry ([.ref x, .int (iI z), .int (iI w), .ref ob]) (n := 5) (Nat.le_of_ble_eq_true rfl)
  rw [lg_entry_eq]
  generalize (lg_sl ([.ref x, .int (iI z), .int (iI w), .ref ob]) ++ List.replicate (5 - (lg_sl ([.ref x, .int (iI z), .int (iI w), .ref ob])).length) Slot.unset).toArray = ls at hl ⊢
  have hl : lv_has ls 5 [(0, .ref x), (1, .int (iI z)), (2, .int (iI w)), (3, .ref ob)] := hl
  have hIn := hI.n
  refine lv_aload_n hx hb dL_weightIn_0 rfl (lv_at hl 3 rfl) ?_
  refine lv_iconst (v := iI 0) hx hb dL_weightIn_1 rfl ?_
  refine lv_aload_n hx hb dL_weightIn_2 rfl (lv_at hl 0 rfl) ?_
  refine lv_iload_n hx hb dL_weightIn_3 rfl (lv_at hl 1 rfl) ?_
  refine lv_iload_n hx hb dL_weightIn_4 rfl (lv_at hl 2 rfl) ?_
  refine vx_calli (vx_runV (As := [.int (iI z), .int (iI w)]) (rest := [.int (iI 0), .ref ob]) ⟨hx, hb, hml, hown, hts⟩ (t1_X0_weightIn l hfl G x a s.heap.size B σ z w hI hzb hbad) (cwV 2 hts gL_weightIn_X0_weightIn rfl rfl rfl (by decide +kernel) ⟨Nat.le_of_ble_eq_true rfl, Nat.le_of_ble_eq_true rfl⟩) (preTX hK hP hE) rfl rfl hl.1 rfl (lv_room (Nat.le_of_ble_eq_true rfl)) dL_weightIn_5 ⟨Nat.le_of_ble_eq_true rfl, Nat.le_of_ble_eq_true rfl⟩) va_S.rf (fun q _ h => h) (fun q h => h) (fun q _ h => h) (fun E ce q9 u t H locs9 _ _ _ hE1 hz hk hS hce hcv hcl => ?_) (fun r u t H1 locs1 _ _ hf => hf.elim)
  subst hE1
  refine vx_catch (name := zIOE) hown [] ⟨0, 10, 13, 21⟩ [⟨0, 10, 17, 13⟩] htab (fun z hz => by cases hz) (by decide) (by decide) w_0 (va_tabs rfl rfl (hE.2.2.1 _ (List.mem_of_getElem? (i := 2) rfl))) hce hcv hcl ?_
  refine lv_astore (lv' := [(4, .ref q9), (0, .ref x), (1, .int (iI z)), (2, .int (iI w)), (3, .ref ob)]) hx hb dL_weightIn_13 hl (by decide) rfl (fun ls hl => ?_)
  refine lv_iconst (v := iI 1) hx hb dL_weightIn_15 rfl ?_
  exact W.iret hx hb hr (fun t ht hW => ⟨⟨_, (), rfl, rfl, trivial⟩, hS.F ht⟩) hS.2.2 dL_weightIn_16
set_option maxHeartbeats 4000000 in
set_option maxRecDepth 100000 in
theorem f2_L_weightIn (l : Launch) (hfl : l.stackTraces = false) (G : zG) (x : Nat) (a : Nat → Nat) (ob : Nat) (sz : Nat) (B : Nat) (σ : zS) (k : Nat) (z : Int) (hI : zI B σ) (hk : k < σ.1 1) (hzb : -2147483648 ≤ z ∧ z < 2147483648) (hbad : z < 1 ∨ 60 < z) : Met l yL_weightIn wsL_weightIn ({ frames := 8, cells := 1, slots := 6, locals := 134 } : Room) (va_Pc [.ref x, .int (iI (k : Int)), .int (iI z), .ref ob] (wF G x a σ sz)) (va_Qi (fun r (_ : Unit) => r = iI 2) (fun _ _ => True) (nA sz)) 1 6 (nA sz) := by
  refine va_MetW (cc := cL_weightIn) (maxL := 5) (ret := (some .int)) (hh := [(0, 10, 13, 21), (0, 10, 17, 13)]) (by decide) rfl ?_
  intro pp ee s m args below meth c s₁ B9 hml hv
  obtain ⟨rfl, hsz, hP, hK, hE, hN⟩ := hv
  subst hsz
  have hx := B9.exec
  have hb := B9.bytes
  have hr := B9.returns
  have hts := atoms_spec (ws := wsL_weightIn) B9.pre
  have hown : s.vm.findClass RL = some m.cls := findClass_of_methodNamed B9.named
  have hlocks := B9.notSynchronized
  have htab : c.exceptionTable.toList = tableOf [(0, 10, 13, 21), (0, 10, 17, 13)] := vx_table (x := yL_weightIn) B9 (hts (.codeWith yL_weightIn cL_weightIn 5 (some .int) [(0, 10, 13, 21), (0, 10, 17, 13)]) List.mem_cons_self)
  have w_0 := hts (.classLink RL 21 zIOE) (by decide +kernel)
  have w_1 := hts (.classLink RL 13 zIAE) (by decide +kernel)
  have hl := lv_entry ([.ref x, .int (iI (k : Int)), .int (iI z), .ref ob]) (n := 5) (Nat.le_of_ble_eq_true rfl)
  rw [lg_entry_eq]
  generalize (lg_sl ([.ref x, .int (iI (k : Int)), .int (iI z), .ref ob]) ++ List.replicate (5 - (lg_sl ([.ref x, .int (iI (k : Int)), .int (iI z), .ref ob])).length) Slot.unset).toArray = ls at hl ⊢
  have hl : lv_has ls 5 [(0, .ref x), (1, .int (iI (k : Int))), (2, .int (iI z)), (3, .ref ob)] := hl
  have hIn := hI.n
  refine lv_aload_n hx hb dL_weightIn_0 rfl (lv_at hl 3 rfl) ?_
  refine lv_iconst (v := iI 0) hx hb dL_weightIn_1 rfl ?_
  refine lv_aload_n hx hb dL_weightIn_2 rfl (lv_at hl 0 rfl) ?_
  refine lv_iload_n hx hb dL_weightIn_3 rfl (lv_at hl 1 rfl) ?_
  refine lv_iload_n hx hb dL_weightIn_4 rfl (lv_at hl 2 rfl) ?_
  refine vx_calli (vx_runV (As := [.int (iI (k : Int)), .int (iI z)]) (rest := [.int (iI 0), .ref ob]) ⟨hx, hb, hml, hown, hts⟩ (t2_X0_weightIn l hfl G x a s.heap.size B σ k z hI hk hzb hbad) (cwV 2 hts gL_weightIn_X0_weightIn rfl rfl rfl (by decide +kernel) ⟨Nat.le_of_ble_eq_true rfl, Nat.le_of_ble_eq_true rfl⟩) (preTX hK hP hE) rfl rfl hl.1 rfl (lv_room (Nat.le_of_ble_eq_true rfl)) dL_weightIn_5 ⟨Nat.le_of_ble_eq_true rfl, Nat.le_of_ble_eq_true rfl⟩) va_S.rf (fun q _ h => h) (fun q h => h) (fun q _ h => h) (fun E ce q9 u t H locs9 _ _ _ hE1 hz hk hS hce hcv hcl => ?_) (fun r u t H1 locs1 _ _ hf => hf.elim)
  subst hE1
  refine vx_catch (name := zIAE) hown [⟨0, 10, 13, 21⟩] ⟨0, 10, 17, 13⟩ [] htab (fun z hz => by
      rcases (by simpa using hz : z = (⟨0, 10, 13, 21⟩ : ExceptionTableEntry)) with h <;> subst h
      · exact Or.inr ⟨by decide, zIOE, w_0, hN.2.1⟩) (by decide) (by decide) w_1 (va_tabs rfl rfl (hE.2.2.1 _ (List.mem_of_getElem? (i := 0) rfl))) hce hcv hcl ?_
  refine lv_astore (lv' := [(4, .ref q9), (0, .ref x), (1, .int (iI (k : Int))), (2, .int (iI z)), (3, .ref ob)]) hx hb dL_weightIn_17 hl (by decide) rfl (fun ls hl => ?_)
  refine lv_iconst (v := iI 2) hx hb dL_weightIn_19 rfl ?_
  exact W.iret hx hb hr (fun t ht hW => ⟨⟨_, (), rfl, rfl, trivial⟩, hS.F ht⟩) hS.2.2 dL_weightIn_20
set_option maxHeartbeats 4000000 in
set_option maxRecDepth 100000 in
theorem f1_L_borneIn (l : Launch) (hfl : l.stackTraces = false) (G : zG) (x : Nat) (a : Nat → Nat) (ob : Nat) (sz : Nat) (B : Nat) (σ : zS) (z : Int) (w : Int) (hI : zI B σ) (hzb : -2147483648 ≤ z ∧ z < 2147483648) (hbad : z < 0 ∨ (σ.1 0 : Int) ≤ z) : Met l yL_borneIn wsL_borneIn ({ frames := 8, cells := 1, slots := 6, locals := 135 } : Room) (va_Pc [.ref x, .int (iI z), .int (iI w), .ref ob] (wF G x a σ sz)) (va_Qi (fun r (_ : Unit) => r = iI 1) (fun _ _ => True) (nA sz)) 1 6 (nA sz) := by
  refine va_MetW (cc := cL_borneIn) (maxL := 5) (ret := (some .int)) (hh := [(0, 10, 13, 21), (0, 10, 17, 13)]) (by decide) rfl ?_
  intro pp ee s m args below meth c s₁ B9 hml hv
  obtain ⟨rfl, hsz, hP, hK, hE, hN⟩ := hv
  subst hsz
  have hx := B9.exec
  have hb := B9.bytes
  have hr := B9.returns
  have hts := atoms_spec (ws := wsL_borneIn) B9.pre
  have hown : s.vm.findClass RL = some m.cls := findClass_of_methodNamed B9.named
  have hlocks := B9.notSynchronized
  have htab : c.exceptionTable.toList = tableOf [(0, 10, 13, 21), (0, 10, 17, 13)] := vx_table (x := yL_borneIn) B9 (hts (.codeWith yL_borneIn cL_borneIn 5 (some .int) [(0, 10, 13, 21), (0, 10, 17, 13)]) List.mem_cons_self)
  have w_0 := hts (.classLink RL 21 zIOE) (by decide +kernel)
  have hl := lv_entry ([.ref x, .int (iI z), .int (iI w), .ref ob]) (n := 5) (Nat.le_of_ble_eq_true rfl)
  rw [lg_entry_eq]
  generalize (lg_sl ([.ref x, .int (iI z), .int (iI w), .ref ob]) ++ List.replicate (5 - (lg_sl ([.ref x, .int (iI z), .int (iI w), .ref ob])).length) Slot.unset).toArray = ls at hl ⊢
  have hl : lv_has ls 5 [(0, .ref x), (1, .int (iI z)), (2, .int (iI w)), (3, .ref ob)] := hl
  have hIn := hI.n
  refine lv_aload_n hx hb dL_borneIn_0 rfl (lv_at hl 3 rfl) ?_
  refine lv_iconst (v := iI 0) hx hb dL_borneIn_1 rfl ?_
  refine lv_aload_n hx hb dL_borneIn_2 rfl (lv_at hl 0 rfl) ?_
  refine lv_iload_n hx hb dL_borneIn_3 rfl (lv_at hl 1 rfl) ?_
  refine lv_iload_n hx hb dL_borneIn_4 rfl (lv_at hl 2 rfl) ?_
  refine vx_calli (vx_runV (As := [.int (iI z), .int (iI w)]) (rest := [.int (iI 0), .ref ob]) ⟨hx, hb, hml, hown, hts⟩ (t1_X0_borneIn l hfl G x a s.heap.size B σ z w hI hzb hbad) (cwV 2 hts gL_borneIn_X0_borneIn rfl rfl rfl (by decide +kernel) ⟨Nat.le_of_ble_eq_true rfl, Nat.le_of_ble_eq_true rfl⟩) (preTX hK hP hE) rfl rfl hl.1 rfl (lv_room (Nat.le_of_ble_eq_true rfl)) dL_borneIn_5 ⟨Nat.le_of_ble_eq_true rfl, Nat.le_of_ble_eq_true rfl⟩) va_S.rf (fun q _ h => h) (fun q h => h) (fun q _ h => h) (fun E ce q9 u t H locs9 _ _ _ hE1 hz hk hS hce hcv hcl => ?_) (fun r u t H1 locs1 _ _ hf => hf.elim)
  subst hE1
  refine vx_catch (name := zIOE) hown [] ⟨0, 10, 13, 21⟩ [⟨0, 10, 17, 13⟩] htab (fun z hz => by cases hz) (by decide) (by decide) w_0 (va_tabs rfl rfl (hE.2.2.1 _ (List.mem_of_getElem? (i := 2) rfl))) hce hcv hcl ?_
  refine lv_astore (lv' := [(4, .ref q9), (0, .ref x), (1, .int (iI z)), (2, .int (iI w)), (3, .ref ob)]) hx hb dL_borneIn_13 hl (by decide) rfl (fun ls hl => ?_)
  refine lv_iconst (v := iI 1) hx hb dL_borneIn_15 rfl ?_
  exact W.iret hx hb hr (fun t ht hW => ⟨⟨_, (), rfl, rfl, trivial⟩, hS.F ht⟩) hS.2.2 dL_borneIn_16
set_option maxHeartbeats 4000000 in
set_option maxRecDepth 100000 in
theorem f2_L_borneIn (l : Launch) (hfl : l.stackTraces = false) (G : zG) (x : Nat) (a : Nat → Nat) (ob : Nat) (sz : Nat) (B : Nat) (σ : zS) (p : Nat) (z : Int) (hI : zI B σ) (hp : p < σ.1 0) (hzb : -2147483648 ≤ z ∧ z < 2147483648) (hbad : z < 1 ∨ 60 < z) : Met l yL_borneIn wsL_borneIn ({ frames := 8, cells := 1, slots := 6, locals := 134 } : Room) (va_Pc [.ref x, .int (iI (p : Int)), .int (iI z), .ref ob] (wF G x a σ sz)) (va_Qi (fun r (_ : Unit) => r = iI 2) (fun _ _ => True) (nA sz)) 1 6 (nA sz) := by
  refine va_MetW (cc := cL_borneIn) (maxL := 5) (ret := (some .int)) (hh := [(0, 10, 13, 21), (0, 10, 17, 13)]) (by decide) rfl ?_
  intro pp ee s m args below meth c s₁ B9 hml hv
  obtain ⟨rfl, hsz, hP, hK, hE, hN⟩ := hv
  subst hsz
  have hx := B9.exec
  have hb := B9.bytes
  have hr := B9.returns
  have hts := atoms_spec (ws := wsL_borneIn) B9.pre
  have hown : s.vm.findClass RL = some m.cls := findClass_of_methodNamed B9.named
  have hlocks := B9.notSynchronized
  have htab : c.exceptionTable.toList = tableOf [(0, 10, 13, 21), (0, 10, 17, 13)] := vx_table (x := yL_borneIn) B9 (hts (.codeWith yL_borneIn cL_borneIn 5 (some .int) [(0, 10, 13, 21), (0, 10, 17, 13)]) List.mem_cons_self)
  have w_0 := hts (.classLink RL 21 zIOE) (by decide +kernel)
  have w_1 := hts (.classLink RL 13 zIAE) (by decide +kernel)
  have hl := lv_entry ([.ref x, .int (iI (p : Int)), .int (iI z), .ref ob]) (n := 5) (Nat.le_of_ble_eq_true rfl)
  rw [lg_entry_eq]
  generalize (lg_sl ([.ref x, .int (iI (p : Int)), .int (iI z), .ref ob]) ++ List.replicate (5 - (lg_sl ([.ref x, .int (iI (p : Int)), .int (iI z), .ref ob])).length) Slot.unset).toArray = ls at hl ⊢
  have hl : lv_has ls 5 [(0, .ref x), (1, .int (iI (p : Int))), (2, .int (iI z)), (3, .ref ob)] := hl
  have hIn := hI.n
  refine lv_aload_n hx hb dL_borneIn_0 rfl (lv_at hl 3 rfl) ?_
  refine lv_iconst (v := iI 0) hx hb dL_borneIn_1 rfl ?_
  refine lv_aload_n hx hb dL_borneIn_2 rfl (lv_at hl 0 rfl) ?_
  refine lv_iload_n hx hb dL_borneIn_3 rfl (lv_at hl 1 rfl) ?_
  refine lv_iload_n hx hb dL_borneIn_4 rfl (lv_at hl 2 rfl) ?_
  refine vx_calli (vx_runV (As := [.int (iI (p : Int)), .int (iI z)]) (rest := [.int (iI 0), .ref ob]) ⟨hx, hb, hml, hown, hts⟩ (t2_X0_borneIn l hfl G x a s.heap.size B σ p z hI hp hzb hbad) (cwV 2 hts gL_borneIn_X0_borneIn rfl rfl rfl (by decide +kernel) ⟨Nat.le_of_ble_eq_true rfl, Nat.le_of_ble_eq_true rfl⟩) (preTX hK hP hE) rfl rfl hl.1 rfl (lv_room (Nat.le_of_ble_eq_true rfl)) dL_borneIn_5 ⟨Nat.le_of_ble_eq_true rfl, Nat.le_of_ble_eq_true rfl⟩) va_S.rf (fun q _ h => h) (fun q h => h) (fun q _ h => h) (fun E ce q9 u t H locs9 _ _ _ hE1 hz hk hS hce hcv hcl => ?_) (fun r u t H1 locs1 _ _ hf => hf.elim)
  subst hE1
  refine vx_catch (name := zIAE) hown [⟨0, 10, 13, 21⟩] ⟨0, 10, 17, 13⟩ [] htab (fun z hz => by
      rcases (by simpa using hz : z = (⟨0, 10, 13, 21⟩ : ExceptionTableEntry)) with h <;> subst h
      · exact Or.inr ⟨by decide, zIOE, w_0, hN.2.1⟩) (by decide) (by decide) w_1 (va_tabs rfl rfl (hE.2.2.1 _ (List.mem_of_getElem? (i := 0) rfl))) hce hcv hcl ?_
  refine lv_astore (lv' := [(4, .ref q9), (0, .ref x), (1, .int (iI (p : Int))), (2, .int (iI z)), (3, .ref ob)]) hx hb dL_borneIn_17 hl (by decide) rfl (fun ls hl => ?_)
  refine lv_iconst (v := iI 2) hx hb dL_borneIn_19 rfl ?_
  exact W.iret hx hb hr (fun t ht hW => ⟨⟨_, (), rfl, rfl, trivial⟩, hS.F ht⟩) hS.2.2 dL_borneIn_20
