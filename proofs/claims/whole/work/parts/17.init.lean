/-! THE CONSTRUCTORS -/
set_option maxHeartbeats 4000000 in
set_option maxRecDepth 100000 in
theorem c_X0_init (l : Launch) (G : zG) (x : Nat) (sz : Nat) : Met l yX0_init wsX0_init ({ frames := 1, cells := 8, slots := 132, locals := 12 } : Room) (va_Pc [.ref x] (fun U => U.heap.size = sz ∧ va_P G.1 vwCl [(x, .inr (0, [.null, .null, .int 0, .null, .null, .null, .null, .null, .null, .int 0, .int 0, .int 0]))] U.heap ∧ zK G U ∧ va_D (fun _ => True) [(x, .inr (0, [.null, .null, .int 0, .null, .null, .null, .null, .null, .null, .int 0, .int 0, .int 0]))])) (va_Qv (fun (_ : Nat → Nat) => True) (fun u t => va_P G.1 vwCl (xW G x u σ0) t.heap ∧ va_D (iA x sz) (xW G x u σ0)) (iA x sz)) 8 132 (iA x sz) := by
  refine Met.ofW (cc := cX0_init) (maxL := 1) (ret := none) (by decide) rfl ?_
  intro pp ee s m args below meth c s₁ B9 hml hv
  obtain ⟨rfl, hsz, hP, hK, hD0⟩ := hv
  subst hsz
  have hx := B9.exec
  have hb := B9.bytes
  have hr := B9.returns
  have hts := atoms_spec (ws := wsX0_init) B9.pre
  have hown : s.vm.findClass RX0 = some m.cls := findClass_of_methodNamed B9.named
  have hlocks := B9.notSynchronized
  have hin : meth.name = "<init>" := (name_of_methodNamed B9.named B9.method).1
  have hin0 : ∀ w ∈ wsX00, w ∈ wsX0_init := by decide +kernel
  have w_0 := hts (.methodLink RX0 1 objectInit) (by decide +kernel)
  have w_1 := hts (.instanceMethod objectInit) (by decide +kernel)
  have w_2 := hts (.code objectInit ⟨#[0xb1]⟩ 1 none) (by decide +kernel)
  have w_3 := hts (.arrayClass .int) (by decide +kernel)
  have w_4 := hts (.fieldLink RX0 9 "ApologyLedger" "prides" "[I") (by decide +kernel)
  have w_5 := hts (.arrayClass .boolean) (by decide +kernel)
  have w_6 := hts (.fieldLink RX0 13 "ApologyLedger" "present" "[Z") (by decide +kernel)
  have w_7 := hts (.fieldLink RX0 17 "ApologyLedger" "offenders" "[I") (by decide +kernel)
  have w_8 := hts (.fieldLink RX0 20 "ApologyLedger" "offendedOnes" "[I") (by decide +kernel)
  have w_9 := hts (.fieldLink RX0 23 "ApologyLedger" "weights" "[I") (by decide +kernel)
  have w_10 := hts (.fieldLink RX0 26 "ApologyLedger" "states" "[I") (by decide +kernel)
  have w_11 := hts (.fieldLink RX0 29 "ApologyLedger" "daysBorne" "[I") (by decide +kernel)
  have w_12 := hts (.fieldLink RX0 32 "ApologyLedger" "daysQuiet" "[I") (by decide +kernel)
  have hD : va_D (iA x s.heap.size) [(x, .inr (0, [.null, .null, .int 0, .null, .null, .null, .null, .null, .null, .int 0, .int 0, .int 0]))] := hD0.weaken fun k q hk _ => Or.inl (by have := List.mem_of_getElem? hk; rw [List.mem_singleton] at this; rw [this])
  have hA : ∀ q : Nat, s.heap.size ≤ q → iA x s.heap.size q := fun q h => Or.inr h
  have hS : va_S (iA x s.heap.size) s.heap s.heap [] := va_S.rf
  have hl := lv_entry ([.ref x]) (n := 1) (Nat.le_of_ble_eq_true rfl)
  rw [lg_entry_eq]
  generalize (lg_sl ([.ref x]) ++ List.replicate (1 - (lg_sl ([.ref x])).length) Slot.unset).toArray = ls at hl ⊢
  have hl : lv_has ls 1 [(0, .ref x)] := hl
  refine lv_aload_n hx hb dX0_init_0 rfl (lv_at hl 0 rfl) ?_
  refine W.objInit hx hb hown w_0 w_1 w_2 rfl (by rw [hml]; exact hl.1) rfl dX0_init_1 (Nat.le_of_ble_eq_true rfl) (Nat.le_of_ble_eq_true rfl) ?_
  refine W.eq (g2 := F0 m 4 ls []) rfl ?_
  refine lv_aload_n hx hb dX0_init_4 rfl (lv_at hl 0 rfl) ?_
  refine lv_bipush (v := iI 6) hx hb dX0_init_5 (by decide) ?_
  refine z_newi (N := 6) hx hb w_3 hK hP hD hS hA (by decide) (Nat.le_of_ble_eq_true rfl) (Nat.le_of_ble_eq_true rfl) dX0_init_7 (fun q0 H hP hD hS => ?_)
  have hP : va_P G.1 vwCl [(x, .inr (0, [.null, .null, .int 0, .null, .null, .null, .null, .null, .null, .int 0, .int 0, .int 0])), (q0, .inl (G.2.1, 6, .inl (fun _ => 0)))] H := hP
  have hD : va_D (iA x s.heap.size) [(x, .inr (0, [.null, .null, .int 0, .null, .null, .null, .null, .null, .null, .int 0, .int 0, .int 0])), (q0, .inl (G.2.1, 6, .inl (fun _ => 0)))] := hD
  refine va_putF (D := G.1) (ci := 0) (v := .ref q0) (ty := .array .int) (C := RX0) (T := TX0) (N := 12) hx hb hts hin0 tyX0 tyX0_ok nmX0 hown hK hP hD hS 0 rfl rfl 0 (by decide) w_4 (fun _ h9 => h9) rfl hin rfl (by decide +kernel) rfl rfl (Nat.le_of_ble_eq_true rfl) dX0_init_9 (fun H locs hP hD hS => ?_)
  have hP : va_P G.1 vwCl [(x, .inr (0, [.ref q0, .null, .int 0, .null, .null, .null, .null, .null, .null, .int 0, .int 0, .int 0])), (q0, .inl (G.2.1, 6, .inl (fun _ => 0)))] H := hP
  have hD : va_D (iA x s.heap.size) [(x, .inr (0, [.ref q0, .null, .int 0, .null, .null, .null, .null, .null, .null, .int 0, .int 0, .int 0])), (q0, .inl (G.2.1, 6, .inl (fun _ => 0)))] := hD
  refine lv_aload_n hx hb dX0_init_12 rfl (lv_at hl 0 rfl) ?_
  refine lv_bipush (v := iI 6) hx hb dX0_init_13 (by decide) ?_
  refine z_newz (N := 6) hx hb w_5 hK hP hD hS hA (by decide) (Nat.le_of_ble_eq_true rfl) (Nat.le_of_ble_eq_true rfl) dX0_init_15 (fun q1 H hP hD hS => ?_)
  have hP : va_P G.1 vwCl [(x, .inr (0, [.ref q0, .null, .int 0, .null, .null, .null, .null, .null, .null, .int 0, .int 0, .int 0])), (q0, .inl (G.2.1, 6, .inl (fun _ => 0))), (q1, .inl (G.2.2.1, 6, .inl (fun _ => 0)))] H := hP
  have hD : va_D (iA x s.heap.size) [(x, .inr (0, [.ref q0, .null, .int 0, .null, .null, .null, .null, .null, .null, .int 0, .int 0, .int 0])), (q0, .inl (G.2.1, 6, .inl (fun _ => 0))), (q1, .inl (G.2.2.1, 6, .inl (fun _ => 0)))] := hD
  refine va_putF (D := G.1) (ci := 0) (v := .ref q1) (ty := .array .boolean) (C := RX0) (T := TX0) (N := 12) hx hb hts hin0 tyX0 tyX0_ok nmX0 hown hK hP hD hS 0 rfl rfl 1 (by decide) w_6 (fun _ h9 => h9) rfl hin rfl (by decide +kernel) rfl rfl (Nat.le_of_ble_eq_true rfl) dX0_init_17 (fun H locs hP hD hS => ?_)
  have hP : va_P G.1 vwCl [(x, .inr (0, [.ref q0, .ref q1, .int 0, .null, .null, .null, .null, .null, .null, .int 0, .int 0, .int 0])), (q0, .inl (G.2.1, 6, .inl (fun _ => 0))), (q1, .inl (G.2.2.1, 6, .inl (fun _ => 0)))] H := hP
  have hD : va_D (iA x s.heap.size) [(x, .inr (0, [.ref q0, .ref q1, .int 0, .null, .null, .null, .null, .null, .null, .int 0, .int 0, .int 0])), (q0, .inl (G.2.1, 6, .inl (fun _ => 0))), (q1, .inl (G.2.2.1, 6, .inl (fun _ => 0)))] := hD
  refine lv_aload_n hx hb dX0_init_20 rfl (lv_at hl 0 rfl) ?_
  refine lv_bipush (v := iI 20) hx hb dX0_init_21 (by decide) ?_
  refine z_newi (N := 20) hx hb w_3 hK hP hD hS hA (by decide) (Nat.le_of_ble_eq_true rfl) (Nat.le_of_ble_eq_true rfl) dX0_init_23 (fun q2 H hP hD hS => ?_)
  have hP : va_P G.1 vwCl [(x, .inr (0, [.ref q0, .ref q1, .int 0, .null, .null, .null, .null, .null, .null, .int 0, .int 0, .int 0])), (q0, .inl (G.2.1, 6, .inl (fun _ => 0))), (q1, .inl (G.2.2.1, 6, .inl (fun _ => 0))), (q2, .inl (G.2.1, 20, .inl (fun _ => 0)))] H := hP
  have hD : va_D (iA x s.heap.size) [(x, .inr (0, [.ref q0, .ref q1, .int 0, .null, .null, .null, .null, .null, .null, .int 0, .int 0, .int 0])), (q0, .inl (G.2.1, 6, .inl (fun _ => 0))), (q1, .inl (G.2.2.1, 6, .inl (fun _ => 0))), (q2, .inl (G.2.1, 20, .inl (fun _ => 0)))] := hD
  refine va_putF (D := G.1) (ci := 0) (v := .ref q2) (ty := .array .int) (C := RX0) (T := TX0) (N := 12) hx hb hts hin0 tyX0 tyX0_ok nmX0 hown hK hP hD hS 0 rfl rfl 3 (by decide) w_7 (fun _ h9 => h9) rfl hin rfl (by decide +kernel) rfl rfl (Nat.le_of_ble_eq_true rfl) dX0_init_25 (fun H locs hP hD hS => ?_)
  have hP : va_P G.1 vwCl [(x, .inr (0, [.ref q0, .ref q1, .int 0, .ref q2, .null, .null, .null, .null, .null, .int 0, .int 0, .int 0])), (q0, .inl (G.2.1, 6, .inl (fun _ => 0))), (q1, .inl (G.2.2.1, 6, .inl (fun _ => 0))), (q2, .inl (G.2.1, 20, .inl (fun _ => 0)))] H := hP
  have hD : va_D (iA x s.heap.size) [(x, .inr (0, [.ref q0, .ref q1, .int 0, .ref q2, .null, .null, .null, .null, .null, .int 0, .int 0, .int 0])), (q0, .inl (G.2.1, 6, .inl (fun _ => 0))), (q1, .inl (G.2.2.1, 6, .inl (fun _ => 0))), (q2, .inl (G.2.1, 20, .inl (fun _ => 0)))] := hD
  refine lv_aload_n hx hb dX0_init_28 rfl (lv_at hl 0 rfl) ?_
  refine lv_bipush (v := iI 20) hx hb dX0_init_29 (by decide) ?_
  refine z_newi (N := 20) hx hb w_3 hK hP hD hS hA (by decide) (Nat.le_of_ble_eq_true rfl) (Nat.le_of_ble_eq_true rfl) dX0_init_31 (fun q3 H hP hD hS => ?_)
  have hP : va_P G.1 vwCl [(x, .inr (0, [.ref q0, .ref q1, .int 0, .ref q2, .null, .null, .null, .null, .null, .int 0, .int 0, .int 0])), (q0, .inl (G.2.1, 6, .inl (fun _ => 0))), (q1, .inl (G.2.2.1, 6, .inl (fun _ => 0))), (q2, .inl (G.2.1, 20, .inl (fun _ => 0))), (q3, .inl (G.2.1, 20, .inl (fun _ => 0)))] H := hP
  have hD : va_D (iA x s.heap.size) [(x, .inr (0, [.ref q0, .ref q1, .int 0, .ref q2, .null, .null, .null, .null, .null, .int 0, .int 0, .int 0])), (q0, .inl (G.2.1, 6, .inl (fun _ => 0))), (q1, .inl (G.2.2.1, 6, .inl (fun _ => 0))), (q2, .inl (G.2.1, 20, .inl (fun _ => 0))), (q3, .inl (G.2.1, 20, .inl (fun _ => 0)))] := hD
  refine va_putF (D := G.1) (ci := 0) (v := .ref q3) (ty := .array .int) (C := RX0) (T := TX0) (N := 12) hx hb hts hin0 tyX0 tyX0_ok nmX0 hown hK hP hD hS 0 rfl rfl 4 (by decide) w_8 (fun _ h9 => h9) rfl hin rfl (by decide +kernel) rfl rfl (Nat.le_of_ble_eq_true rfl) dX0_init_33 (fun H locs hP hD hS => ?_)
  have hP : va_P G.1 vwCl [(x, .inr (0, [.ref q0, .ref q1, .int 0, .ref q2, .ref q3, .null, .null, .null, .null, .int 0, .int 0, .int 0])), (q0, .inl (G.2.1, 6, .inl (fun _ => 0))), (q1, .inl (G.2.2.1, 6, .inl (fun _ => 0))), (q2, .inl (G.2.1, 20, .inl (fun _ => 0))), (q3, .inl (G.2.1, 20, .inl (fun _ => 0)))] H := hP
  have hD : va_D (iA x s.heap.size) [(x, .inr (0, [.ref q0, .ref q1, .int 0, .ref q2, .ref q3, .null, .null, .null, .null, .int 0, .int 0, .int 0])), (q0, .inl (G.2.1, 6, .inl (fun _ => 0))), (q1, .inl (G.2.2.1, 6, .inl (fun _ => 0))), (q2, .inl (G.2.1, 20, .inl (fun _ => 0))), (q3, .inl (G.2.1, 20, .inl (fun _ => 0)))] := hD
  refine lv_aload_n hx hb dX0_init_36 rfl (lv_at hl 0 rfl) ?_
  refine lv_bipush (v := iI 20) hx hb dX0_init_37 (by decide) ?_
  refine z_newi (N := 20) hx hb w_3 hK hP hD hS hA (by decide) (Nat.le_of_ble_eq_true rfl) (Nat.le_of_ble_eq_true rfl) dX0_init_39 (fun q4 H hP hD hS => ?_)
  have hP : va_P G.1 vwCl [(x, .inr (0, [.ref q0, .ref q1, .int 0, .ref q2, .ref q3, .null, .null, .null, .null, .int 0, .int 0, .int 0])), (q0, .inl (G.2.1, 6, .inl (fun _ => 0))), (q1, .inl (G.2.2.1, 6, .inl (fun _ => 0))), (q2, .inl (G.2.1, 20, .inl (fun _ => 0))), (q3, .inl (G.2.1, 20, .inl (fun _ => 0))), (q4, .inl (G.2.1, 20, .inl (fun _ => 0)))] H := hP
  have hD : va_D (iA x s.heap.size) [(x, .inr (0, [.ref q0, .ref q1, .int 0, .ref q2, .ref q3, .null, .null, .null, .null, .int 0, .int 0, .int 0])), (q0, .inl (G.2.1, 6, .inl (fun _ => 0))), (q1, .inl (G.2.2.1, 6, .inl (fun _ => 0))), (q2, .inl (G.2.1, 20, .inl (fun _ => 0))), (q3, .inl (G.2.1, 20, .inl (fun _ => 0))), (q4, .inl (G.2.1, 20, .inl (fun _ => 0)))] := hD
  refine va_putF (D := G.1) (ci := 0) (v := .ref q4) (ty := .array .int) (C := RX0) (T := TX0) (N := 12) hx hb hts hin0 tyX0 tyX0_ok nmX0 hown hK hP hD hS 0 rfl rfl 5 (by decide) w_9 (fun _ h9 => h9) rfl hin rfl (by decide +kernel) rfl rfl (Nat.le_of_ble_eq_true rfl) dX0_init_41 (fun H locs hP hD hS => ?_)
  have hP : va_P G.1 vwCl [(x, .inr (0, [.ref q0, .ref q1, .int 0, .ref q2, .ref q3, .ref q4, .null, .null, .null, .int 0, .int 0, .int 0])), (q0, .inl (G.2.1, 6, .inl (fun _ => 0))), (q1, .inl (G.2.2.1, 6, .inl (fun _ => 0))), (q2, .inl (G.2.1, 20, .inl (fun _ => 0))), (q3, .inl (G.2.1, 20, .inl (fun _ => 0))), (q4, .inl (G.2.1, 20, .inl (fun _ => 0)))] H := hP
  have hD : va_D (iA x s.heap.size) [(x, .inr (0, [.ref q0, .ref q1, .int 0, .ref q2, .ref q3, .ref q4, .null, .null, .null, .int 0, .int 0, .int 0])), (q0, .inl (G.2.1, 6, .inl (fun _ => 0))), (q1, .inl (G.2.2.1, 6, .inl (fun _ => 0))), (q2, .inl (G.2.1, 20, .inl (fun _ => 0))), (q3, .inl (G.2.1, 20, .inl (fun _ => 0))), (q4, .inl (G.2.1, 20, .inl (fun _ => 0)))] := hD
  refine lv_aload_n hx hb dX0_init_44 rfl (lv_at hl 0 rfl) ?_
  refine lv_bipush (v := iI 20) hx hb dX0_init_45 (by decide) ?_
  refine z_newi (N := 20) hx hb w_3 hK hP hD hS hA (by decide) (Nat.le_of_ble_eq_true rfl) (Nat.le_of_ble_eq_true rfl) dX0_init_47 (fun q5 H hP hD hS => ?_)
  have hP : va_P G.1 vwCl [(x, .inr (0, [.ref q0, .ref q1, .int 0, .ref q2, .ref q3, .ref q4, .null, .null, .null, .int 0, .int 0, .int 0])), (q0, .inl (G.2.1, 6, .inl (fun _ => 0))), (q1, .inl (G.2.2.1, 6, .inl (fun _ => 0))), (q2, .inl (G.2.1, 20, .inl (fun _ => 0))), (q3, .inl (G.2.1, 20, .inl (fun _ => 0))), (q4, .inl (G.2.1, 20, .inl (fun _ => 0))), (q5, .inl (G.2.1, 20, .inl (fun _ => 0)))] H := hP
  have hD : va_D (iA x s.heap.size) [(x, .inr (0, [.ref q0, .ref q1, .int 0, .ref q2, .ref q3, .ref q4, .null, .null, .null, .int 0, .int 0, .int 0])), (q0, .inl (G.2.1, 6, .inl (fun _ => 0))), (q1, .inl (G.2.2.1, 6, .inl (fun _ => 0))), (q2, .inl (G.2.1, 20, .inl (fun _ => 0))), (q3, .inl (G.2.1, 20, .inl (fun _ => 0))), (q4, .inl (G.2.1, 20, .inl (fun _ => 0))), (q5, .inl (G.2.1, 20, .inl (fun _ => 0)))] := hD
  refine va_putF (D := G.1) (ci := 0) (v := .ref q5) (ty := .array .int) (C := RX0) (T := TX0) (N := 12) hx hb hts hin0 tyX0 tyX0_ok nmX0 hown hK hP hD hS 0 rfl rfl 6 (by decide) w_10 (fun _ h9 => h9) rfl hin rfl (by decide +kernel) rfl rfl (Nat.le_of_ble_eq_true rfl) dX0_init_49 (fun H locs hP hD hS => ?_)
  have hP : va_P G.1 vwCl [(x, .inr (0, [.ref q0, .ref q1, .int 0, .ref q2, .ref q3, .ref q4, .ref q5, .null, .null, .int 0, .int 0, .int 0])), (q0, .inl (G.2.1, 6, .inl (fun _ => 0))), (q1, .inl (G.2.2.1, 6, .inl (fun _ => 0))), (q2, .inl (G.2.1, 20, .inl (fun _ => 0))), (q3, .inl (G.2.1, 20, .inl (fun _ => 0))), (q4, .inl (G.2.1, 20, .inl (fun _ => 0))), (q5, .inl (G.2.1, 20, .inl (fun _ => 0)))] H := hP
  have hD : va_D (iA x s.heap.size) [(x, .inr (0, [.ref q0, .ref q1, .int 0, .ref q2, .ref q3, .ref q4, .ref q5, .null, .null, .int 0, .int 0, .int 0])), (q0, .inl (G.2.1, 6, .inl (fun _ => 0))), (q1, .inl (G.2.2.1, 6, .inl (fun _ => 0))), (q2, .inl (G.2.1, 20, .inl (fun _ => 0))), (q3, .inl (G.2.1, 20, .inl (fun _ => 0))), (q4, .inl (G.2.1, 20, .inl (fun _ => 0))), (q5, .inl (G.2.1, 20, .inl (fun _ => 0)))] := hD
  refine lv_aload_n hx hb dX0_init_52 rfl (lv_at hl 0 rfl) ?_
  refine lv_bipush (v := iI 20) hx hb dX0_init_53 (by decide) ?_
  refine z_newi (N := 20) hx hb w_3 hK hP hD hS hA (by decide) (Nat.le_of_ble_eq_true rfl) (Nat.le_of_ble_eq_true rfl) dX0_init_55 (fun q6 H hP hD hS => ?_)
  have hP : va_P G.1 vwCl [(x, .inr (0, [.ref q0, .ref q1, .int 0, .ref q2, .ref q3, .ref q4, .ref q5, .null, .null, .int 0, .int 0, .int 0])), (q0, .inl (G.2.1, 6, .inl (fun _ => 0))), (q1, .inl (G.2.2.1, 6, .inl (fun _ => 0))), (q2, .inl (G.2.1, 20, .inl (fun _ => 0))), (q3, .inl (G.2.1, 20, .inl (fun _ => 0))), (q4, .inl (G.2.1, 20, .inl (fun _ => 0))), (q5, .inl (G.2.1, 20, .inl (fun _ => 0))), (q6, .inl (G.2.1, 20, .inl (fun _ => 0)))] H := hP
  have hD : va_D (iA x s.heap.size) [(x, .inr (0, [.ref q0, .ref q1, .int 0, .ref q2, .ref q3, .ref q4, .ref q5, .null, .null, .int 0, .int 0, .int 0])), (q0, .inl (G.2.1, 6, .inl (fun _ => 0))), (q1, .inl (G.2.2.1, 6, .inl (fun _ => 0))), (q2, .inl (G.2.1, 20, .inl (fun _ => 0))), (q3, .inl (G.2.1, 20, .inl (fun _ => 0))), (q4, .inl (G.2.1, 20, .inl (fun _ => 0))), (q5, .inl (G.2.1, 20, .inl (fun _ => 0))), (q6, .inl (G.2.1, 20, .inl (fun _ => 0)))] := hD
  refine va_putF (D := G.1) (ci := 0) (v := .ref q6) (ty := .array .int) (C := RX0) (T := TX0) (N := 12) hx hb hts hin0 tyX0 tyX0_ok nmX0 hown hK hP hD hS 0 rfl rfl 7 (by decide) w_11 (fun _ h9 => h9) rfl hin rfl (by decide +kernel) rfl rfl (Nat.le_of_ble_eq_true rfl) dX0_init_57 (fun H locs hP hD hS => ?_)
  have hP : va_P G.1 vwCl [(x, .inr (0, [.ref q0, .ref q1, .int 0, .ref q2, .ref q3, .ref q4, .ref q5, .ref q6, .null, .int 0, .int 0, .int 0])), (q0, .inl (G.2.1, 6, .inl (fun _ => 0))), (q1, .inl (G.2.2.1, 6, .inl (fun _ => 0))), (q2, .inl (G.2.1, 20, .inl (fun _ => 0))), (q3, .inl (G.2.1, 20, .inl (fun _ => 0))), (q4, .inl (G.2.1, 20, .inl (fun _ => 0))), (q5, .inl (G.2.1, 20, .inl (fun _ => 0))), (q6, .inl (G.2.1, 20, .inl (fun _ => 0)))] H := hP
  have hD : va_D (iA x s.heap.size) [(x, .inr (0, [.ref q0, .ref q1, .int 0, .ref q2, .ref q3, .ref q4, .ref q5, .ref q6, .null, .int 0, .int 0, .int 0])), (q0, .inl (G.2.1, 6, .inl (fun _ => 0))), (q1, .inl (G.2.2.1, 6, .inl (fun _ => 0))), (q2, .inl (G.2.1, 20, .inl (fun _ => 0))), (q3, .inl (G.2.1, 20, .inl (fun _ => 0))), (q4, .inl (G.2.1, 20, .inl (fun _ => 0))), (q5, .inl (G.2.1, 20, .inl (fun _ => 0))), (q6, .inl (G.2.1, 20, .inl (fun _ => 0)))] := hD
  refine lv_aload_n hx hb dX0_init_60 rfl (lv_at hl 0 rfl) ?_
  refine lv_bipush (v := iI 20) hx hb dX0_init_61 (by decide) ?_
  refine z_newi (N := 20) hx hb w_3 hK hP hD hS hA (by decide) (Nat.le_of_ble_eq_true rfl) (Nat.le_of_ble_eq_true rfl) dX0_init_63 (fun q7 H hP hD hS => ?_)
  have hP : va_P G.1 vwCl [(x, .inr (0, [.ref q0, .ref q1, .int 0, .ref q2, .ref q3, .ref q4, .ref q5, .ref q6, .null, .int 0, .int 0, .int 0])), (q0, .inl (G.2.1, 6, .inl (fun _ => 0))), (q1, .inl (G.2.2.1, 6, .inl (fun _ => 0))), (q2, .inl (G.2.1, 20, .inl (fun _ => 0))), (q3, .inl (G.2.1, 20, .inl (fun _ => 0))), (q4, .inl (G.2.1, 20, .inl (fun _ => 0))), (q5, .inl (G.2.1, 20, .inl (fun _ => 0))), (q6, .inl (G.2.1, 20, .inl (fun _ => 0))), (q7, .inl (G.2.1, 20, .inl (fun _ => 0)))] H := hP
  have hD : va_D (iA x s.heap.size) [(x, .inr (0, [.ref q0, .ref q1, .int 0, .ref q2, .ref q3, .ref q4, .ref q5, .ref q6, .null, .int 0, .int 0, .int 0])), (q0, .inl (G.2.1, 6, .inl (fun _ => 0))), (q1, .inl (G.2.2.1, 6, .inl (fun _ => 0))), (q2, .inl (G.2.1, 20, .inl (fun _ => 0))), (q3, .inl (G.2.1, 20, .inl (fun _ => 0))), (q4, .inl (G.2.1, 20, .inl (fun _ => 0))), (q5, .inl (G.2.1, 20, .inl (fun _ => 0))), (q6, .inl (G.2.1, 20, .inl (fun _ => 0))), (q7, .inl (G.2.1, 20, .inl (fun _ => 0)))] := hD
  refine va_putF (D := G.1) (ci := 0) (v := .ref q7) (ty := .array .int) (C := RX0) (T := TX0) (N := 12) hx hb hts hin0 tyX0 tyX0_ok nmX0 hown hK hP hD hS 0 rfl rfl 8 (by decide) w_12 (fun _ h9 => h9) rfl hin rfl (by decide +kernel) rfl rfl (Nat.le_of_ble_eq_true rfl) dX0_init_65 (fun H locs hP hD hS => ?_)
  have hP : va_P G.1 vwCl [(x, .inr (0, [.ref q0, .ref q1, .int 0, .ref q2, .ref q3, .ref q4, .ref q5, .ref q6, .ref q7, .int 0, .int 0, .int 0])), (q0, .inl (G.2.1, 6, .inl (fun _ => 0))), (q1, .inl (G.2.2.1, 6, .inl (fun _ => 0))), (q2, .inl (G.2.1, 20, .inl (fun _ => 0))), (q3, .inl (G.2.1, 20, .inl (fun _ => 0))), (q4, .inl (G.2.1, 20, .inl (fun _ => 0))), (q5, .inl (G.2.1, 20, .inl (fun _ => 0))), (q6, .inl (G.2.1, 20, .inl (fun _ => 0))), (q7, .inl (G.2.1, 20, .inl (fun _ => 0)))] H := hP
  have hD : va_D (iA x s.heap.size) [(x, .inr (0, [.ref q0, .ref q1, .int 0, .ref q2, .ref q3, .ref q4, .ref q5, .ref q6, .ref q7, .int 0, .int 0, .int 0])), (q0, .inl (G.2.1, 6, .inl (fun _ => 0))), (q1, .inl (G.2.2.1, 6, .inl (fun _ => 0))), (q2, .inl (G.2.1, 20, .inl (fun _ => 0))), (q3, .inl (G.2.1, 20, .inl (fun _ => 0))), (q4, .inl (G.2.1, 20, .inl (fun _ => 0))), (q5, .inl (G.2.1, 20, .inl (fun _ => 0))), (q6, .inl (G.2.1, 20, .inl (fun _ => 0))), (q7, .inl (G.2.1, 20, .inl (fun _ => 0)))] := hD
  have hP : va_P G.1 vwCl (xW G x (fun j => if j = 0 then q0 else if j = 1 then q1 else if j = 2 then q2 else if j = 3 then q3 else if j = 4 then q4 else if j = 5 then q5 else if j = 6 then q6 else q7) σ0) H := hP
  have hD : va_D (iA x s.heap.size) (xW G x (fun j => if j = 0 then q0 else if j = 1 then q1 else if j = 2 then q2 else if j = 3 then q3 else if j = 4 then q4 else if j = 5 then q5 else if j = 6 then q6 else q7) σ0) := hD
  exact W.vret hx hb hr (fun t ht hW => ⟨⟨(fun j => if j = 0 then q0 else if j = 1 then q1 else if j = 2 then q2 else if j = 3 then q3 else if j = 4 then q4 else if j = 5 then q5 else if j = 6 then q6 else q7), rfl, trivial, by show va_P _ _ _ t.heap; rw [ht]; exact hP, hD⟩, hS.F ht⟩) hS.2.2 dX0_init_68
set_option maxHeartbeats 4000000 in
set_option maxRecDepth 100000 in
theorem c_X1_init (l : Launch) (G : zG) (x : Nat) (sz : Nat) : Met l yX1_init wsX1_init ({ frames := 1, cells := 8, slots := 132, locals := 12 } : Room) (va_Pc [.ref x] (fun U => U.heap.size = sz ∧ va_P G.1 vwCl [(x, .inr (1, [.int 0, .int 0, .int 0, .int 0, .null, .null, .int 0, .null, .null, .null, .null, .null, .null]))] U.heap ∧ zK G U ∧ va_D (fun _ => True) [(x, .inr (1, [.int 0, .int 0, .int 0, .int 0, .null, .null, .int 0, .null, .null, .null, .null, .null, .null]))])) (va_Qv (fun (_ : Nat → Nat) => True) (fun u t => va_P G.1 vwCl (mW G x u 0 σ0) t.heap ∧ va_D (iA x sz) (mW G x u 0 σ0)) (iA x sz)) 8 132 (iA x sz) := by
  refine Met.ofW (cc := cX1_init) (maxL := 1) (ret := none) (by decide) rfl ?_
  intro pp ee s m args below meth c s₁ B9 hml hv
  obtain ⟨rfl, hsz, hP, hK, hD0⟩ := hv
  subst hsz
  have hx := B9.exec
  have hb := B9.bytes
  have hr := B9.returns
  have hts := atoms_spec (ws := wsX1_init) B9.pre
  have hown : s.vm.findClass RX1 = some m.cls := findClass_of_methodNamed B9.named
  have hlocks := B9.notSynchronized
  have hin : meth.name = "<init>" := (name_of_methodNamed B9.named B9.method).1
  have hin0 : ∀ w ∈ wsX10, w ∈ wsX1_init := by decide +kernel
  have w_0 := hts (.methodLink RX1 1 objectInit) (by decide +kernel)
  have w_1 := hts (.instanceMethod objectInit) (by decide +kernel)
  have w_2 := hts (.code objectInit ⟨#[0xb1]⟩ 1 none) (by decide +kernel)
  have w_3 := hts (.arrayClass .int) (by decide +kernel)
  have w_4 := hts (.fieldLink RX1 9 "ApologyLedgerModel" "pride" "[I") (by decide +kernel)
  have w_5 := hts (.arrayClass .boolean) (by decide +kernel)
  have w_6 := hts (.fieldLink RX1 13 "ApologyLedgerModel" "isHere" "[Z") (by decide +kernel)
  have w_7 := hts (.fieldLink RX1 17 "ApologyLedgerModel" "by" "[I") (by decide +kernel)
  have w_8 := hts (.fieldLink RX1 20 "ApologyLedgerModel" "against" "[I") (by decide +kernel)
  have w_9 := hts (.fieldLink RX1 23 "ApologyLedgerModel" "weight" "[I") (by decide +kernel)
  have w_10 := hts (.fieldLink RX1 26 "ApologyLedgerModel" "state" "[I") (by decide +kernel)
  have w_11 := hts (.fieldLink RX1 29 "ApologyLedgerModel" "borne" "[I") (by decide +kernel)
  have w_12 := hts (.fieldLink RX1 32 "ApologyLedgerModel" "quiet" "[I") (by decide +kernel)
  have hD : va_D (iA x s.heap.size) [(x, .inr (1, [.int 0, .int 0, .int 0, .int 0, .null, .null, .int 0, .null, .null, .null, .null, .null, .null]))] := hD0.weaken fun k q hk _ => Or.inl (by have := List.mem_of_getElem? hk; rw [List.mem_singleton] at this; rw [this])
  have hA : ∀ q : Nat, s.heap.size ≤ q → iA x s.heap.size q := fun q h => Or.inr h
  have hS : va_S (iA x s.heap.size) s.heap s.heap [] := va_S.rf
  have hl := lv_entry ([.ref x]) (n := 1) (Nat.le_of_ble_eq_true rfl)
  rw [lg_entry_eq]
  generalize (lg_sl ([.ref x]) ++ List.replicate (1 - (lg_sl ([.ref x])).length) Slot.unset).toArray = ls at hl ⊢
  have hl : lv_has ls 1 [(0, .ref x)] := hl
  refine lv_aload_n hx hb dX1_init_0 rfl (lv_at hl 0 rfl) ?_
  refine W.objInit hx hb hown w_0 w_1 w_2 rfl (by rw [hml]; exact hl.1) rfl dX1_init_1 (Nat.le_of_ble_eq_true rfl) (Nat.le_of_ble_eq_true rfl) ?_
  refine W.eq (g2 := F0 m 4 ls []) rfl ?_
  refine lv_aload_n hx hb dX1_init_4 rfl (lv_at hl 0 rfl) ?_
  refine lv_bipush (v := iI 6) hx hb dX1_init_5 (by decide) ?_
  refine z_newi (N := 6) hx hb w_3 hK hP hD hS hA (by decide) (Nat.le_of_ble_eq_true rfl) (Nat.le_of_ble_eq_true rfl) dX1_init_7 (fun q0 H hP hD hS => ?_)
  have hP : va_P G.1 vwCl [(x, .inr (1, [.int 0, .int 0, .int 0, .int 0, .null, .null, .int 0, .null, .null, .null, .null, .null, .null])), (q0, .inl (G.2.1, 6, .inl (fun _ => 0)))] H := hP
  have hD : va_D (iA x s.heap.size) [(x, .inr (1, [.int 0, .int 0, .int 0, .int 0, .null, .null, .int 0, .null, .null, .null, .null, .null, .null])), (q0, .inl (G.2.1, 6, .inl (fun _ => 0)))] := hD
  refine va_putF (D := G.1) (ci := 1) (v := .ref q0) (ty := .array .int) (C := RX1) (T := TX1) (N := 13) hx hb hts hin0 tyX1 tyX1_ok nmX1 hown hK hP hD hS 0 rfl rfl 4 (by decide) w_4 (fun _ h9 => h9) rfl hin rfl (by decide +kernel) rfl rfl (Nat.le_of_ble_eq_true rfl) dX1_init_9 (fun H locs hP hD hS => ?_)
  have hP : va_P G.1 vwCl [(x, .inr (1, [.int 0, .int 0, .int 0, .int 0, .ref q0, .null, .int 0, .null, .null, .null, .null, .null, .null])), (q0, .inl (G.2.1, 6, .inl (fun _ => 0)))] H := hP
  have hD : va_D (iA x s.heap.size) [(x, .inr (1, [.int 0, .int 0, .int 0, .int 0, .ref q0, .null, .int 0, .null, .null, .null, .null, .null, .null])), (q0, .inl (G.2.1, 6, .inl (fun _ => 0)))] := hD
  refine lv_aload_n hx hb dX1_init_12 rfl (lv_at hl 0 rfl) ?_
  refine lv_bipush (v := iI 6) hx hb dX1_init_13 (by decide) ?_
  refine z_newz (N := 6) hx hb w_5 hK hP hD hS hA (by decide) (Nat.le_of_ble_eq_true rfl) (Nat.le_of_ble_eq_true rfl) dX1_init_15 (fun q1 H hP hD hS => ?_)
  have hP : va_P G.1 vwCl [(x, .inr (1, [.int 0, .int 0, .int 0, .int 0, .ref q0, .null, .int 0, .null, .null, .null, .null, .null, .null])), (q0, .inl (G.2.1, 6, .inl (fun _ => 0))), (q1, .inl (G.2.2.1, 6, .inl (fun _ => 0)))] H := hP
  have hD : va_D (iA x s.heap.size) [(x, .inr (1, [.int 0, .int 0, .int 0, .int 0, .ref q0, .null, .int 0, .null, .null, .null, .null, .null, .null])), (q0, .inl (G.2.1, 6, .inl (fun _ => 0))), (q1, .inl (G.2.2.1, 6, .inl (fun _ => 0)))] := hD
  refine va_putF (D := G.1) (ci := 1) (v := .ref q1) (ty := .array .boolean) (C := RX1) (T := TX1) (N := 13) hx hb hts hin0 tyX1 tyX1_ok nmX1 hown hK hP hD hS 0 rfl rfl 5 (by decide) w_6 (fun _ h9 => h9) rfl hin rfl (by decide +kernel) rfl rfl (Nat.le_of_ble_eq_true rfl) dX1_init_17 (fun H locs hP hD hS => ?_)
  have hP : va_P G.1 vwCl [(x, .inr (1, [.int 0, .int 0, .int 0, .int 0, .ref q0, .ref q1, .int 0, .null, .null, .null, .null, .null, .null])), (q0, .inl (G.2.1, 6, .inl (fun _ => 0))), (q1, .inl (G.2.2.1, 6, .inl (fun _ => 0)))] H := hP
  have hD : va_D (iA x s.heap.size) [(x, .inr (1, [.int 0, .int 0, .int 0, .int 0, .ref q0, .ref q1, .int 0, .null, .null, .null, .null, .null, .null])), (q0, .inl (G.2.1, 6, .inl (fun _ => 0))), (q1, .inl (G.2.2.1, 6, .inl (fun _ => 0)))] := hD
  refine lv_aload_n hx hb dX1_init_20 rfl (lv_at hl 0 rfl) ?_
  refine lv_bipush (v := iI 20) hx hb dX1_init_21 (by decide) ?_
  refine z_newi (N := 20) hx hb w_3 hK hP hD hS hA (by decide) (Nat.le_of_ble_eq_true rfl) (Nat.le_of_ble_eq_true rfl) dX1_init_23 (fun q2 H hP hD hS => ?_)
  have hP : va_P G.1 vwCl [(x, .inr (1, [.int 0, .int 0, .int 0, .int 0, .ref q0, .ref q1, .int 0, .null, .null, .null, .null, .null, .null])), (q0, .inl (G.2.1, 6, .inl (fun _ => 0))), (q1, .inl (G.2.2.1, 6, .inl (fun _ => 0))), (q2, .inl (G.2.1, 20, .inl (fun _ => 0)))] H := hP
  have hD : va_D (iA x s.heap.size) [(x, .inr (1, [.int 0, .int 0, .int 0, .int 0, .ref q0, .ref q1, .int 0, .null, .null, .null, .null, .null, .null])), (q0, .inl (G.2.1, 6, .inl (fun _ => 0))), (q1, .inl (G.2.2.1, 6, .inl (fun _ => 0))), (q2, .inl (G.2.1, 20, .inl (fun _ => 0)))] := hD
  refine va_putF (D := G.1) (ci := 1) (v := .ref q2) (ty := .array .int) (C := RX1) (T := TX1) (N := 13) hx hb hts hin0 tyX1 tyX1_ok nmX1 hown hK hP hD hS 0 rfl rfl 7 (by decide) w_7 (fun _ h9 => h9) rfl hin rfl (by decide +kernel) rfl rfl (Nat.le_of_ble_eq_true rfl) dX1_init_25 (fun H locs hP hD hS => ?_)
  have hP : va_P G.1 vwCl [(x, .inr (1, [.int 0, .int 0, .int 0, .int 0, .ref q0, .ref q1, .int 0, .ref q2, .null, .null, .null, .null, .null])), (q0, .inl (G.2.1, 6, .inl (fun _ => 0))), (q1, .inl (G.2.2.1, 6, .inl (fun _ => 0))), (q2, .inl (G.2.1, 20, .inl (fun _ => 0)))] H := hP
  have hD : va_D (iA x s.heap.size) [(x, .inr (1, [.int 0, .int 0, .int 0, .int 0, .ref q0, .ref q1, .int 0, .ref q2, .null, .null, .null, .null, .null])), (q0, .inl (G.2.1, 6, .inl (fun _ => 0))), (q1, .inl (G.2.2.1, 6, .inl (fun _ => 0))), (q2, .inl (G.2.1, 20, .inl (fun _ => 0)))] := hD
  refine lv_aload_n hx hb dX1_init_28 rfl (lv_at hl 0 rfl) ?_
  refine lv_bipush (v := iI 20) hx hb dX1_init_29 (by decide) ?_
  refine z_newi (N := 20) hx hb w_3 hK hP hD hS hA (by decide) (Nat.le_of_ble_eq_true rfl) (Nat.le_of_ble_eq_true rfl) dX1_init_31 (fun q3 H hP hD hS => ?_)
  have hP : va_P G.1 vwCl [(x, .inr (1, [.int 0, .int 0, .int 0, .int 0, .ref q0, .ref q1, .int 0, .ref q2, .null, .null, .null, .null, .null])), (q0, .inl (G.2.1, 6, .inl (fun _ => 0))), (q1, .inl (G.2.2.1, 6, .inl (fun _ => 0))), (q2, .inl (G.2.1, 20, .inl (fun _ => 0))), (q3, .inl (G.2.1, 20, .inl (fun _ => 0)))] H := hP
  have hD : va_D (iA x s.heap.size) [(x, .inr (1, [.int 0, .int 0, .int 0, .int 0, .ref q0, .ref q1, .int 0, .ref q2, .null, .null, .null, .null, .null])), (q0, .inl (G.2.1, 6, .inl (fun _ => 0))), (q1, .inl (G.2.2.1, 6, .inl (fun _ => 0))), (q2, .inl (G.2.1, 20, .inl (fun _ => 0))), (q3, .inl (G.2.1, 20, .inl (fun _ => 0)))] := hD
  refine va_putF (D := G.1) (ci := 1) (v := .ref q3) (ty := .array .int) (C := RX1) (T := TX1) (N := 13) hx hb hts hin0 tyX1 tyX1_ok nmX1 hown hK hP hD hS 0 rfl rfl 8 (by decide) w_8 (fun _ h9 => h9) rfl hin rfl (by decide +kernel) rfl rfl (Nat.le_of_ble_eq_true rfl) dX1_init_33 (fun H locs hP hD hS => ?_)
  have hP : va_P G.1 vwCl [(x, .inr (1, [.int 0, .int 0, .int 0, .int 0, .ref q0, .ref q1, .int 0, .ref q2, .ref q3, .null, .null, .null, .null])), (q0, .inl (G.2.1, 6, .inl (fun _ => 0))), (q1, .inl (G.2.2.1, 6, .inl (fun _ => 0))), (q2, .inl (G.2.1, 20, .inl (fun _ => 0))), (q3, .inl (G.2.1, 20, .inl (fun _ => 0)))] H := hP
  have hD : va_D (iA x s.heap.size) [(x, .inr (1, [.int 0, .int 0, .int 0, .int 0, .ref q0, .ref q1, .int 0, .ref q2, .ref q3, .null, .null, .null, .null])), (q0, .inl (G.2.1, 6, .inl (fun _ => 0))), (q1, .inl (G.2.2.1, 6, .inl (fun _ => 0))), (q2, .inl (G.2.1, 20, .inl (fun _ => 0))), (q3, .inl (G.2.1, 20, .inl (fun _ => 0)))] := hD
  refine lv_aload_n hx hb dX1_init_36 rfl (lv_at hl 0 rfl) ?_
  refine lv_bipush (v := iI 20) hx hb dX1_init_37 (by decide) ?_
  refine z_newi (N := 20) hx hb w_3 hK hP hD hS hA (by decide) (Nat.le_of_ble_eq_true rfl) (Nat.le_of_ble_eq_true rfl) dX1_init_39 (fun q4 H hP hD hS => ?_)
  have hP : va_P G.1 vwCl [(x, .inr (1, [.int 0, .int 0, .int 0, .int 0, .ref q0, .ref q1, .int 0, .ref q2, .ref q3, .null, .null, .null, .null])), (q0, .inl (G.2.1, 6, .inl (fun _ => 0))), (q1, .inl (G.2.2.1, 6, .inl (fun _ => 0))), (q2, .inl (G.2.1, 20, .inl (fun _ => 0))), (q3, .inl (G.2.1, 20, .inl (fun _ => 0))), (q4, .inl (G.2.1, 20, .inl (fun _ => 0)))] H := hP
  have hD : va_D (iA x s.heap.size) [(x, .inr (1, [.int 0, .int 0, .int 0, .int 0, .ref q0, .ref q1, .int 0, .ref q2, .ref q3, .null, .null, .null, .null])), (q0, .inl (G.2.1, 6, .inl (fun _ => 0))), (q1, .inl (G.2.2.1, 6, .inl (fun _ => 0))), (q2, .inl (G.2.1, 20, .inl (fun _ => 0))), (q3, .inl (G.2.1, 20, .inl (fun _ => 0))), (q4, .inl (G.2.1, 20, .inl (fun _ => 0)))] := hD
  refine va_putF (D := G.1) (ci := 1) (v := .ref q4) (ty := .array .int) (C := RX1) (T := TX1) (N := 13) hx hb hts hin0 tyX1 tyX1_ok nmX1 hown hK hP hD hS 0 rfl rfl 9 (by decide) w_9 (fun _ h9 => h9) rfl hin rfl (by decide +kernel) rfl rfl (Nat.le_of_ble_eq_true rfl) dX1_init_41 (fun H locs hP hD hS => ?_)
  have hP : va_P G.1 vwCl [(x, .inr (1, [.int 0, .int 0, .int 0, .int 0, .ref q0, .ref q1, .int 0, .ref q2, .ref q3, .ref q4, .null, .null, .null])), (q0, .inl (G.2.1, 6, .inl (fun _ => 0))), (q1, .inl (G.2.2.1, 6, .inl (fun _ => 0))), (q2, .inl (G.2.1, 20, .inl (fun _ => 0))), (q3, .inl (G.2.1, 20, .inl (fun _ => 0))), (q4, .inl (G.2.1, 20, .inl (fun _ => 0)))] H := hP
  have hD : va_D (iA x s.heap.size) [(x, .inr (1, [.int 0, .int 0, .int 0, .int 0, .ref q0, .ref q1, .int 0, .ref q2, .ref q3, .ref q4, .null, .null, .null])), (q0, .inl (G.2.1, 6, .inl (fun _ => 0))), (q1, .inl (G.2.2.1, 6, .inl (fun _ => 0))), (q2, .inl (G.2.1, 20, .inl (fun _ => 0))), (q3, .inl (G.2.1, 20, .inl (fun _ => 0))), (q4, .inl (G.2.1, 20, .inl (fun _ => 0)))] := hD
  refine lv_aload_n hx hb dX1_init_44 rfl (lv_at hl 0 rfl) ?_
  refine lv_bipush (v := iI 20) hx hb dX1_init_45 (by decide) ?_
  refine z_newi (N := 20) hx hb w_3 hK hP hD hS hA (by decide) (Nat.le_of_ble_eq_true rfl) (Nat.le_of_ble_eq_true rfl) dX1_init_47 (fun q5 H hP hD hS => ?_)
  have hP : va_P G.1 vwCl [(x, .inr (1, [.int 0, .int 0, .int 0, .int 0, .ref q0, .ref q1, .int 0, .ref q2, .ref q3, .ref q4, .null, .null, .null])), (q0, .inl (G.2.1, 6, .inl (fun _ => 0))), (q1, .inl (G.2.2.1, 6, .inl (fun _ => 0))), (q2, .inl (G.2.1, 20, .inl (fun _ => 0))), (q3, .inl (G.2.1, 20, .inl (fun _ => 0))), (q4, .inl (G.2.1, 20, .inl (fun _ => 0))), (q5, .inl (G.2.1, 20, .inl (fun _ => 0)))] H := hP
  have hD : va_D (iA x s.heap.size) [(x, .inr (1, [.int 0, .int 0, .int 0, .int 0, .ref q0, .ref q1, .int 0, .ref q2, .ref q3, .ref q4, .null, .null, .null])), (q0, .inl (G.2.1, 6, .inl (fun _ => 0))), (q1, .inl (G.2.2.1, 6, .inl (fun _ => 0))), (q2, .inl (G.2.1, 20, .inl (fun _ => 0))), (q3, .inl (G.2.1, 20, .inl (fun _ => 0))), (q4, .inl (G.2.1, 20, .inl (fun _ => 0))), (q5, .inl (G.2.1, 20, .inl (fun _ => 0)))] := hD
  refine va_putF (D := G.1) (ci := 1) (v := .ref q5) (ty := .array .int) (C := RX1) (T := TX1) (N := 13) hx hb hts hin0 tyX1 tyX1_ok nmX1 hown hK hP hD hS 0 rfl rfl 10 (by decide) w_10 (fun _ h9 => h9) rfl hin rfl (by decide +kernel) rfl rfl (Nat.le_of_ble_eq_true rfl) dX1_init_49 (fun H locs hP hD hS => ?_)
  have hP : va_P G.1 vwCl [(x, .inr (1, [.int 0, .int 0, .int 0, .int 0, .ref q0, .ref q1, .int 0, .ref q2, .ref q3, .ref q4, .ref q5, .null, .null])), (q0, .inl (G.2.1, 6, .inl (fun _ => 0))), (q1, .inl (G.2.2.1, 6, .inl (fun _ => 0))), (q2, .inl (G.2.1, 20, .inl (fun _ => 0))), (q3, .inl (G.2.1, 20, .inl (fun _ => 0))), (q4, .inl (G.2.1, 20, .inl (fun _ => 0))), (q5, .inl (G.2.1, 20, .inl (fun _ => 0)))] H := hP
  have hD : va_D (iA x s.heap.size) [(x, .inr (1, [.int 0, .int 0, .int 0, .int 0, .ref q0, .ref q1, .int 0, .ref q2, .ref q3, .ref q4, .ref q5, .null, .null])), (q0, .inl (G.2.1, 6, .inl (fun _ => 0))), (q1, .inl (G.2.2.1, 6, .inl (fun _ => 0))), (q2, .inl (G.2.1, 20, .inl (fun _ => 0))), (q3, .inl (G.2.1, 20, .inl (fun _ => 0))), (q4, .inl (G.2.1, 20, .inl (fun _ => 0))), (q5, .inl (G.2.1, 20, .inl (fun _ => 0)))] := hD
  refine lv_aload_n hx hb dX1_init_52 rfl (lv_at hl 0 rfl) ?_
  refine lv_bipush (v := iI 20) hx hb dX1_init_53 (by decide) ?_
  refine z_newi (N := 20) hx hb w_3 hK hP hD hS hA (by decide) (Nat.le_of_ble_eq_true rfl) (Nat.le_of_ble_eq_true rfl) dX1_init_55 (fun q6 H hP hD hS => ?_)
  have hP : va_P G.1 vwCl [(x, .inr (1, [.int 0, .int 0, .int 0, .int 0, .ref q0, .ref q1, .int 0, .ref q2, .ref q3, .ref q4, .ref q5, .null, .null])), (q0, .inl (G.2.1, 6, .inl (fun _ => 0))), (q1, .inl (G.2.2.1, 6, .inl (fun _ => 0))), (q2, .inl (G.2.1, 20, .inl (fun _ => 0))), (q3, .inl (G.2.1, 20, .inl (fun _ => 0))), (q4, .inl (G.2.1, 20, .inl (fun _ => 0))), (q5, .inl (G.2.1, 20, .inl (fun _ => 0))), (q6, .inl (G.2.1, 20, .inl (fun _ => 0)))] H := hP
  have hD : va_D (iA x s.heap.size) [(x, .inr (1, [.int 0, .int 0, .int 0, .int 0, .ref q0, .ref q1, .int 0, .ref q2, .ref q3, .ref q4, .ref q5, .null, .null])), (q0, .inl (G.2.1, 6, .inl (fun _ => 0))), (q1, .inl (G.2.2.1, 6, .inl (fun _ => 0))), (q2, .inl (G.2.1, 20, .inl (fun _ => 0))), (q3, .inl (G.2.1, 20, .inl (fun _ => 0))), (q4, .inl (G.2.1, 20, .inl (fun _ => 0))), (q5, .inl (G.2.1, 20, .inl (fun _ => 0))), (q6, .inl (G.2.1, 20, .inl (fun _ => 0)))] := hD
  refine va_putF (D := G.1) (ci := 1) (v := .ref q6) (ty := .array .int) (C := RX1) (T := TX1) (N := 13) hx hb hts hin0 tyX1 tyX1_ok nmX1 hown hK hP hD hS 0 rfl rfl 11 (by decide) w_11 (fun _ h9 => h9) rfl hin rfl (by decide +kernel) rfl rfl (Nat.le_of_ble_eq_true rfl) dX1_init_57 (fun H locs hP hD hS => ?_)
  have hP : va_P G.1 vwCl [(x, .inr (1, [.int 0, .int 0, .int 0, .int 0, .ref q0, .ref q1, .int 0, .ref q2, .ref q3, .ref q4, .ref q5, .ref q6, .null])), (q0, .inl (G.2.1, 6, .inl (fun _ => 0))), (q1, .inl (G.2.2.1, 6, .inl (fun _ => 0))), (q2, .inl (G.2.1, 20, .inl (fun _ => 0))), (q3, .inl (G.2.1, 20, .inl (fun _ => 0))), (q4, .inl (G.2.1, 20, .inl (fun _ => 0))), (q5, .inl (G.2.1, 20, .inl (fun _ => 0))), (q6, .inl (G.2.1, 20, .inl (fun _ => 0)))] H := hP
  have hD : va_D (iA x s.heap.size) [(x, .inr (1, [.int 0, .int 0, .int 0, .int 0, .ref q0, .ref q1, .int 0, .ref q2, .ref q3, .ref q4, .ref q5, .ref q6, .null])), (q0, .inl (G.2.1, 6, .inl (fun _ => 0))), (q1, .inl (G.2.2.1, 6, .inl (fun _ => 0))), (q2, .inl (G.2.1, 20, .inl (fun _ => 0))), (q3, .inl (G.2.1, 20, .inl (fun _ => 0))), (q4, .inl (G.2.1, 20, .inl (fun _ => 0))), (q5, .inl (G.2.1, 20, .inl (fun _ => 0))), (q6, .inl (G.2.1, 20, .inl (fun _ => 0)))] := hD
  refine lv_aload_n hx hb dX1_init_60 rfl (lv_at hl 0 rfl) ?_
  refine lv_bipush (v := iI 20) hx hb dX1_init_61 (by decide) ?_
  refine z_newi (N := 20) hx hb w_3 hK hP hD hS hA (by decide) (Nat.le_of_ble_eq_true rfl) (Nat.le_of_ble_eq_true rfl) dX1_init_63 (fun q7 H hP hD hS => ?_)
  have hP : va_P G.1 vwCl [(x, .inr (1, [.int 0, .int 0, .int 0, .int 0, .ref q0, .ref q1, .int 0, .ref q2, .ref q3, .ref q4, .ref q5, .ref q6, .null])), (q0, .inl (G.2.1, 6, .inl (fun _ => 0))), (q1, .inl (G.2.2.1, 6, .inl (fun _ => 0))), (q2, .inl (G.2.1, 20, .inl (fun _ => 0))), (q3, .inl (G.2.1, 20, .inl (fun _ => 0))), (q4, .inl (G.2.1, 20, .inl (fun _ => 0))), (q5, .inl (G.2.1, 20, .inl (fun _ => 0))), (q6, .inl (G.2.1, 20, .inl (fun _ => 0))), (q7, .inl (G.2.1, 20, .inl (fun _ => 0)))] H := hP
  have hD : va_D (iA x s.heap.size) [(x, .inr (1, [.int 0, .int 0, .int 0, .int 0, .ref q0, .ref q1, .int 0, .ref q2, .ref q3, .ref q4, .ref q5, .ref q6, .null])), (q0, .inl (G.2.1, 6, .inl (fun _ => 0))), (q1, .inl (G.2.2.1, 6, .inl (fun _ => 0))), (q2, .inl (G.2.1, 20, .inl (fun _ => 0))), (q3, .inl (G.2.1, 20, .inl (fun _ => 0))), (q4, .inl (G.2.1, 20, .inl (fun _ => 0))), (q5, .inl (G.2.1, 20, .inl (fun _ => 0))), (q6, .inl (G.2.1, 20, .inl (fun _ => 0))), (q7, .inl (G.2.1, 20, .inl (fun _ => 0)))] := hD
  refine va_putF (D := G.1) (ci := 1) (v := .ref q7) (ty := .array .int) (C := RX1) (T := TX1) (N := 13) hx hb hts hin0 tyX1 tyX1_ok nmX1 hown hK hP hD hS 0 rfl rfl 12 (by decide) w_12 (fun _ h9 => h9) rfl hin rfl (by decide +kernel) rfl rfl (Nat.le_of_ble_eq_true rfl) dX1_init_65 (fun H locs hP hD hS => ?_)
  have hP : va_P G.1 vwCl [(x, .inr (1, [.int 0, .int 0, .int 0, .int 0, .ref q0, .ref q1, .int 0, .ref q2, .ref q3, .ref q4, .ref q5, .ref q6, .ref q7])), (q0, .inl (G.2.1, 6, .inl (fun _ => 0))), (q1, .inl (G.2.2.1, 6, .inl (fun _ => 0))), (q2, .inl (G.2.1, 20, .inl (fun _ => 0))), (q3, .inl (G.2.1, 20, .inl (fun _ => 0))), (q4, .inl (G.2.1, 20, .inl (fun _ => 0))), (q5, .inl (G.2.1, 20, .inl (fun _ => 0))), (q6, .inl (G.2.1, 20, .inl (fun _ => 0))), (q7, .inl (G.2.1, 20, .inl (fun _ => 0)))] H := hP
  have hD : va_D (iA x s.heap.size) [(x, .inr (1, [.int 0, .int 0, .int 0, .int 0, .ref q0, .ref q1, .int 0, .ref q2, .ref q3, .ref q4, .ref q5, .ref q6, .ref q7])), (q0, .inl (G.2.1, 6, .inl (fun _ => 0))), (q1, .inl (G.2.2.1, 6, .inl (fun _ => 0))), (q2, .inl (G.2.1, 20, .inl (fun _ => 0))), (q3, .inl (G.2.1, 20, .inl (fun _ => 0))), (q4, .inl (G.2.1, 20, .inl (fun _ => 0))), (q5, .inl (G.2.1, 20, .inl (fun _ => 0))), (q6, .inl (G.2.1, 20, .inl (fun _ => 0))), (q7, .inl (G.2.1, 20, .inl (fun _ => 0)))] := hD
  have hP : va_P G.1 vwCl (mW G x (fun j => if j = 0 then q0 else if j = 1 then q1 else if j = 2 then q2 else if j = 3 then q3 else if j = 4 then q4 else if j = 5 then q5 else if j = 6 then q6 else q7) 0 σ0) H := hP
  have hD : va_D (iA x s.heap.size) (mW G x (fun j => if j = 0 then q0 else if j = 1 then q1 else if j = 2 then q2 else if j = 3 then q3 else if j = 4 then q4 else if j = 5 then q5 else if j = 6 then q6 else q7) 0 σ0) := hD
  exact W.vret hx hb hr (fun t ht hW => ⟨⟨(fun j => if j = 0 then q0 else if j = 1 then q1 else if j = 2 then q2 else if j = 3 then q3 else if j = 4 then q4 else if j = 5 then q5 else if j = 6 then q6 else q7), rfl, trivial, by show va_P _ _ _ t.heap; rw [ht]; exact hP, hD⟩, hS.F ht⟩) hS.2.2 dX1_init_68
