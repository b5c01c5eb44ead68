/-! IN THE END ALL IS AS BY HAND. -/
set_option maxHeartbeats 8000000 in
set_option maxRecDepth 100000 in
theorem c_X1_isSame (l : Launch) (G : zG) (x : Nat) (a : Nat → Nat) (y P S : Nat) (rp rs : Nat → Nat) (B : Nat) (σ : zS) (hI : zI B σ) : Met l yX1_isSame wsX1_isSame ({ frames := 4, cells := 0, slots := 0, locals := 87 } : Room) (va_Pc [.ref y, .ref x] (fun U => va_P G.1 vwCl (xW G x a σ ++ uW G y P S rp rs σ ++ []) U.heap ∧ zK G U)) (vp_Si (fun r => r = iI 1)) 0 0 (fun _ => False) := by
  refine Met.ofW (cc := cX1_isSame) (maxL := 9) (ret := (some .boolean)) (by decide) rfl ?_
  intro pp ee s m args below meth c s₁ B9 hml hv
  obtain ⟨rfl, hP, hK⟩ := hv
  have hx := B9.exec
  have hb := B9.bytes
  have hr := B9.returns
  have hts := atoms_spec (ws := wsX1_isSame) B9.pre
  have hown : s.vm.findClass RX1 = some m.cls := findClass_of_methodNamed B9.named
  have hlocks := B9.notSynchronized
  have hin0 : ∀ w ∈ wsX10, w ∈ wsX1_isSame := by decide +kernel
  have w_0 := hts (.fieldLink RX1 9 "ApologyLedgerLaw$Sim" "persons" "[[I") (by decide +kernel)
  have w_1 := hts (.fieldLink RX1 15 "ApologyLedgerLaw$Sim" "slights" "[[I") (by decide +kernel)
  have w_2 := hts (.fieldLink RX1 23 "ApologyLedgerLaw$Sim" "day" "I") (by decide +kernel)
  have w_3 := hts (.fieldLink RX1 27 "ApologyLedgerLaw$Sim" "scorned" "I") (by decide +kernel)
  have hIn := hI.n
  have hIb := hI.b
  have hl := lv_entry ([.ref y, .ref x]) (n := 9) (Nat.le_of_ble_eq_true rfl)
  rw [lg_entry_eq]
  generalize (lg_sl ([.ref y, .ref x]) ++ List.replicate (9 - (lg_sl ([.ref y, .ref x])).length) Slot.unset).toArray = ls at hl ⊢
  have hl : lv_has ls 9 [(0, .ref y), (1, .ref x)] := hl
  refine lv_iconst (v := iI 0) hx hb dX1_isSame_0 rfl ?_
  refine lv_istore_n (lv' := [(2, .int (iI 0)), (0, .ref y), (1, .ref x)]) hx hb dX1_isSame_1 rfl hl (by decide) rfl (fun ls hl => ?_)
  refine lv_iconst (v := iI (-1)) hx hb dX1_isSame_2 rfl ?_
  refine lv_istore_n (lv' := [(3, .int (iI (-1))), (2, .int (iI 0)), (0, .ref y), (1, .ref x)]) hx hb dX1_isSame_3 rfl hl (by decide) rfl (fun ls hl => ?_)
  refine lv_iconst (v := iI (-1)) hx hb dX1_isSame_4 rfl ?_
  refine lv_istore (lv' := [(4, .int (iI (-1))), (3, .int (iI (-1))), (2, .int (iI 0)), (0, .ref y), (1, .ref x)]) hx hb dX1_isSame_5 hl (by decide) rfl (fun ls hl => ?_)
  refine lv_iconst (v := iI 0) hx hb dX1_isSame_7 rfl ?_
  refine lv_istore (lv' := [(5, .int (iI 0)), (4, .int (iI (-1))), (3, .int (iI (-1))), (2, .int (iI 0)), (0, .ref y), (1, .ref x)]) hx hb dX1_isSame_8 hl (by decide) rfl (fun ls hl => ?_)
  refine lv_iconst (v := iI 0) hx hb dX1_isSame_10 rfl ?_
  refine lv_istore (lv' := [(6, .int (iI 0)), (5, .int (iI 0)), (4, .int (iI (-1))), (3, .int (iI (-1))), (2, .int (iI 0)), (0, .ref y), (1, .ref x)]) hx hb dX1_isSame_11 hl (by decide) rfl (fun ls hl => ?_)
  have LP13 : ∀ (r13 : Nat) (p : Nat) (s1 : Int) (s2 : Int), p ≤ σ.1 0 → σ.1 0 - p < r13 → s1 = zs (fun p => if σ.2 1 p = 1 then 1 else 0) p → s2 = arg (fun _ => True) (fun p => bor σ p) p → ∀ (ls : Array Slot), lv_has ls 9 [(6, .int (iI (p : Int))), (5, .int (iI 0)), (4, .int (iI (-1))), (3, .int (iI s2)), (2, .int (iI s1)), (0, .ref y), (1, .ref x)] → W pp l ee (headSpec wsX1_isSame ({ frames := 4, cells := 0, slots := 0, locals := 87 } : Room)).room s m ([.ref y, .ref x] : List Value).toArray below meth c s.heap [] 0 0 (MQ below (vp_Si (fun r => r = iI 1)) ([.ref y, .ref x] : List Value).toArray s 0 0 (fun _ => False)) (F0 m 13 ls []) := by
    intro r13
    induction r13 with
    | zero => intro p s1 s2 hv13_0 hv13_1; exfalso; omega
    | succ r13 ih13 =>
      intro p s1 s2 hv13_0 hv13_1 hv13_2 hv13_3 ls hl
      have f_1 := arg_bd (fun _ => True) (fun p => bor σ p) p
      have f_2 := hI.r1 p
      have f_3 := zs_bd1 (f := fun p => if σ.2 1 p = 1 then 1 else 0) p (fun p => by (try dsimp only); split <;> omega)
      refine lv_iload hx hb dX1_isSame_13 (lv_at hl 0 rfl) ?_
      refine lv_aload_n hx hb dX1_isSame_15 rfl (lv_at hl 5 rfl) ?_
      refine u_get (v := .ref P) hx hb hts hin0 hown hK (va_Pr (va_Pl hP)) 0 rfl 0 (by decide) w_0 rfl rfl dX1_isSame_16 ?_
      refine u_lenP hx hb hK (va_Pr (va_Pl hP)) dX1_isSame_19 ?_
      refine z_icmp_ge (tgt := 192) hx hb dX1_isSame_20 (by decide) (by omega) (by omega) (fun c_4 => ?_) (fun c_4 => ?_)
      ·
        have hs1 : s1 = inh σ := by rw [hv13_2, show p = σ.1 0 from by omega]; rfl
        have hs2 : s2 = sor σ := by rw [hv13_3, show p = σ.1 0 from by omega]; rfl
        refine lv_iconst (v := iI 0) hx hb dX1_isSame_192 rfl ?_
        refine lv_istore (lv' := [(6, .int (iI 0)), (5, .int (iI 0)), (4, .int (iI (-1))), (3, .int (iI s2)), (2, .int (iI s1)), (0, .ref y), (1, .ref x)]) hx hb dX1_isSame_193 hl (by decide) rfl (fun ls hl => ?_)
        have LP195 : ∀ (r195 : Nat) (k : Nat) (s4 : Int) (s5 : Int), k ≤ σ.1 1 → σ.1 1 - k < r195 → s4 = arg (fun k => σ.2 5 k = 0) (fun k => σ.2 4 k) k → s5 = zs (fun k => zs (fun o => pq σ k o) k) k → 0 ≤ s5 ∧ s5 ≤ 20 * k → ∀ (ls : Array Slot), lv_has ls 9 [(6, .int (iI (k : Int))), (5, .int (iI s5)), (4, .int (iI s4)), (3, .int (iI s2)), (2, .int (iI s1)), (0, .ref y), (1, .ref x)] → W pp l ee (headSpec wsX1_isSame ({ frames := 4, cells := 0, slots := 0, locals := 87 } : Room)).room s m ([.ref y, .ref x] : List Value).toArray below meth c s.heap [] 0 0 (MQ below (vp_Si (fun r => r = iI 1)) ([.ref y, .ref x] : List Value).toArray s 0 0 (fun _ => False)) (F0 m 195 ls []) := by
          intro r195
          induction r195 with
          | zero => intro k s4 s5 hv195_0 hv195_1; exfalso; omega
          | succ r195 ih195 =>
            intro k s4 s5 hv195_0 hv195_1 hv195_2 hv195_3 hv195_4 ls hl
            have f_5 := arg_bd (fun k => σ.2 5 k = 0) (fun k => σ.2 4 k) k
            have f_6 := hI.r5 k
            have f_7 := hI.r4 k
            have f_8 := hI.r4 s4.toNat
            refine lv_iload hx hb dX1_isSame_195 (lv_at hl 0 rfl) ?_
            refine lv_aload_n hx hb dX1_isSame_197 rfl (lv_at hl 5 rfl) ?_
            refine u_get (v := .ref S) hx hb hts hin0 hown hK (va_Pr (va_Pl hP)) 0 rfl 1 (by decide) w_1 rfl rfl dX1_isSame_198 ?_
            refine u_lenS hx hb hK (va_Pr (va_Pl hP)) dX1_isSame_201 ?_
            refine z_icmp_ge (tgt := 389) hx hb dX1_isSame_202 (by decide) (by omega) (by omega) (fun c_9 => ?_) (fun c_9 => ?_)
            ·
              have hs4 : s4 = hea σ := by rw [hv195_2, show k = σ.1 1 from by omega]; rfl
              have hs5 : s5 = pai σ := by rw [hv195_3, show k = σ.1 1 from by omega]; rfl
              refine lv_iconst (v := iI 0) hx hb dX1_isSame_389 rfl ?_
              refine lv_istore (lv' := [(6, .int (iI 0)), (5, .int (iI s5)), (4, .int (iI s4)), (3, .int (iI s2)), (2, .int (iI s1)), (0, .ref y), (1, .ref x)]) hx hb dX1_isSame_390 hl (by decide) rfl (fun ls hl => ?_)
              have LP392 : ∀ (r392 : Nat) (q : Nat), q ≤ 4 → 4 - q < r392 → ∀ (ls : Array Slot), lv_has ls 9 [(6, .int (iI (q : Int))), (5, .int (iI s5)), (4, .int (iI s4)), (3, .int (iI s2)), (2, .int (iI s1)), (0, .ref y), (1, .ref x)] → W pp l ee (headSpec wsX1_isSame ({ frames := 4, cells := 0, slots := 0, locals := 87 } : Room)).room s m ([.ref y, .ref x] : List Value).toArray below meth c s.heap [] 0 0 (MQ below (vp_Si (fun r => r = iI 1)) ([.ref y, .ref x] : List Value).toArray s 0 0 (fun _ => False)) (F0 m 392 ls []) := by
                intro r392
                induction r392 with
                | zero => intro q hv392_0 hv392_1; exfalso; omega
                | succ r392 ih392 =>
                  intro q hv392_0 hv392_1 ls hl
                  refine lv_iload hx hb dX1_isSame_392 (lv_at hl 0 rfl) ?_
                  refine lv_iconst (v := iI 4) hx hb dX1_isSame_394 rfl ?_
                  refine z_icmp_ge (tgt := 421) hx hb dX1_isSame_395 (by decide) (by omega) (by omega) (fun c_10 => ?_) (fun c_10 => ?_)
                  ·
                    refine lv_aload_n hx hb dX1_isSame_421 rfl (lv_at hl 6 rfl) ?_
                    refine zc_i (va_runV (As := []) (rest := []) ⟨hx, hb, hml, hown, hts⟩ (c_X0_day l G x a B σ hI) (cwV 0 hts gX1_isSame_X0_day rfl rfl rfl (by decide +kernel) ⟨Nat.le_of_ble_eq_true rfl, Nat.le_of_ble_eq_true rfl⟩) (preVX hK (va_Pl (va_Pl hP))) rfl rfl hl.1 rfl (lv_room (Nat.le_of_ble_eq_true rfl)) dX1_isSame_422 ⟨Nat.le_of_ble_eq_true rfl, Nat.le_of_ble_eq_true rfl⟩) ?_
                    refine lv_aload_n hx hb dX1_isSame_425 rfl (lv_at hl 5 rfl) ?_
                    refine u_get (v := .int (iI (σ.1 2 : Nat))) hx hb hts hin0 hown hK (va_Pr (va_Pl hP)) 0 rfl 2 (by decide) w_2 rfl rfl dX1_isSame_426 ?_
                    refine z_icmp_ne (tgt := 539) hx hb dX1_isSame_429 (by decide) (by omega) (by omega) (fun c_11 => ?_) (fun c_11 => ?_)
                    · exfalso; omega
                    ·
                      refine lv_aload_n hx hb dX1_isSame_432 rfl (lv_at hl 6 rfl) ?_
                      refine zc_i (va_runV (As := []) (rest := []) ⟨hx, hb, hml, hown, hts⟩ (c_X0_persons l G x a B σ hI) (cwV 0 hts gX1_isSame_X0_persons rfl rfl rfl (by decide +kernel) ⟨Nat.le_of_ble_eq_true rfl, Nat.le_of_ble_eq_true rfl⟩) (preVX hK (va_Pl (va_Pl hP))) rfl rfl hl.1 rfl (lv_room (Nat.le_of_ble_eq_true rfl)) dX1_isSame_433 ⟨Nat.le_of_ble_eq_true rfl, Nat.le_of_ble_eq_true rfl⟩) ?_
                      refine lv_aload_n hx hb dX1_isSame_436 rfl (lv_at hl 5 rfl) ?_
                      refine u_get (v := .ref P) hx hb hts hin0 hown hK (va_Pr (va_Pl hP)) 0 rfl 0 (by decide) w_0 rfl rfl dX1_isSame_437 ?_
                      refine u_lenP hx hb hK (va_Pr (va_Pl hP)) dX1_isSame_440 ?_
                      refine z_icmp_ne (tgt := 539) hx hb dX1_isSame_441 (by decide) (by omega) (by omega) (fun c_12 => ?_) (fun c_12 => ?_)
                      · exfalso; omega
                      ·
                        refine lv_aload_n hx hb dX1_isSame_444 rfl (lv_at hl 6 rfl) ?_
                        refine zc_i (va_runV (As := []) (rest := []) ⟨hx, hb, hml, hown, hts⟩ (c_X0_slights l G x a B σ hI) (cwV 0 hts gX1_isSame_X0_slights rfl rfl rfl (by decide +kernel) ⟨Nat.le_of_ble_eq_true rfl, Nat.le_of_ble_eq_true rfl⟩) (preVX hK (va_Pl (va_Pl hP))) rfl rfl hl.1 rfl (lv_room (Nat.le_of_ble_eq_true rfl)) dX1_isSame_445 ⟨Nat.le_of_ble_eq_true rfl, Nat.le_of_ble_eq_true rfl⟩) ?_
                        refine lv_aload_n hx hb dX1_isSame_448 rfl (lv_at hl 5 rfl) ?_
                        refine u_get (v := .ref S) hx hb hts hin0 hown hK (va_Pr (va_Pl hP)) 0 rfl 1 (by decide) w_1 rfl rfl dX1_isSame_449 ?_
                        refine u_lenS hx hb hK (va_Pr (va_Pl hP)) dX1_isSame_452 ?_
                        refine z_icmp_ne (tgt := 539) hx hb dX1_isSame_453 (by decide) (by omega) (by omega) (fun c_13 => ?_) (fun c_13 => ?_)
                        · exfalso; omega
                        ·
                          refine lv_aload_n hx hb dX1_isSame_456 rfl (lv_at hl 6 rfl) ?_
                          refine zc_i (va_runV (As := []) (rest := []) ⟨hx, hb, hml, hown, hts⟩ (c_X0_inHall l G x a B σ hI) (cwV 0 hts gX1_isSame_X0_inHall rfl rfl rfl (by decide +kernel) ⟨Nat.le_of_ble_eq_true rfl, Nat.le_of_ble_eq_true rfl⟩) (preVX hK (va_Pl (va_Pl hP))) rfl rfl hl.1 rfl (lv_room (Nat.le_of_ble_eq_true rfl)) dX1_isSame_457 ⟨Nat.le_of_ble_eq_true rfl, Nat.le_of_ble_eq_true rfl⟩) ?_
                          have f_14 := inh_bd hI
                          refine lv_iload_n hx hb dX1_isSame_460 rfl (lv_at hl 4 rfl) ?_
                          refine z_icmp_ne (tgt := 539) hx hb dX1_isSame_461 (by decide) (by omega) (by omega) (fun c_15 => ?_) (fun c_15 => ?_)
                          · exfalso; omega
                          ·
                            refine lv_aload_n hx hb dX1_isSame_464 rfl (lv_at hl 6 rfl) ?_
                            refine zc_i (va_runV (As := []) (rest := []) ⟨hx, hb, hml, hown, hts⟩ (c_X0_scorned l G x a B σ hI) (cwV 0 hts gX1_isSame_X0_scorned rfl rfl rfl (by decide +kernel) ⟨Nat.le_of_ble_eq_true rfl, Nat.le_of_ble_eq_true rfl⟩) (preVX hK (va_Pl (va_Pl hP))) rfl rfl hl.1 rfl (lv_room (Nat.le_of_ble_eq_true rfl)) dX1_isSame_465 ⟨Nat.le_of_ble_eq_true rfl, Nat.le_of_ble_eq_true rfl⟩) ?_
                            refine lv_aload_n hx hb dX1_isSame_468 rfl (lv_at hl 5 rfl) ?_
                            refine u_get (v := .int (iI (σ.1 3 : Nat))) hx hb hts hin0 hown hK (va_Pr (va_Pl hP)) 0 rfl 3 (by decide) w_3 rfl rfl dX1_isSame_469 ?_
                            refine z_icmp_ne (tgt := 539) hx hb dX1_isSame_472 (by decide) (by omega) (by omega) (fun c_16 => ?_) (fun c_16 => ?_)
                            · exfalso; omega
                            ·
                              refine lv_aload_n hx hb dX1_isSame_475 rfl (lv_at hl 6 rfl) ?_
                              refine zc_i (va_runV (As := []) (rest := []) ⟨hx, hb, hml, hown, hts⟩ (c_X0_sorest l G x a B σ hI) (cwV 0 hts gX1_isSame_X0_sorest rfl rfl rfl (by decide +kernel) ⟨Nat.le_of_ble_eq_true rfl, Nat.le_of_ble_eq_true rfl⟩) (preVX hK (va_Pl (va_Pl hP))) rfl rfl hl.1 rfl (lv_room (Nat.le_of_ble_eq_true rfl)) dX1_isSame_476 ⟨Nat.le_of_ble_eq_true rfl, Nat.le_of_ble_eq_true rfl⟩) ?_
                              refine lv_iload_n hx hb dX1_isSame_479 rfl (lv_at hl 3 rfl) ?_
                              refine z_icmp_ne (tgt := 539) hx hb dX1_isSame_480 (by decide) (by omega) (by omega) (fun c_17 => ?_) (fun c_17 => ?_)
                              · exfalso; omega
                              ·
                                refine lv_aload_n hx hb dX1_isSame_483 rfl (lv_at hl 6 rfl) ?_
                                refine zc_i (va_runV (As := []) (rest := []) ⟨hx, hb, hml, hown, hts⟩ (c_X0_heaviest l G x a B σ hI) (cwV 0 hts gX1_isSame_X0_heaviest rfl rfl rfl (by decide +kernel) ⟨Nat.le_of_ble_eq_true rfl, Nat.le_of_ble_eq_true rfl⟩) (preVX hK (va_Pl (va_Pl hP))) rfl rfl hl.1 rfl (lv_room (Nat.le_of_ble_eq_true rfl)) dX1_isSame_484 ⟨Nat.le_of_ble_eq_true rfl, Nat.le_of_ble_eq_true rfl⟩) ?_
                                refine lv_iload hx hb dX1_isSame_487 (lv_at hl 2 rfl) ?_
                                refine z_icmp_ne (tgt := 539) hx hb dX1_isSame_489 (by decide) (by omega) (by omega) (fun c_18 => ?_) (fun c_18 => ?_)
                                · exfalso; omega
                                ·
                                  refine lv_aload_n hx hb dX1_isSame_492 rfl (lv_at hl 6 rfl) ?_
                                  refine zc_i (va_runV (As := []) (rest := []) ⟨hx, hb, hml, hown, hts⟩ (c_X0_pairsToSetOff l G x a B σ hI) (cwV 0 hts gX1_isSame_X0_pairsToSetOff rfl rfl rfl (by decide +kernel) ⟨Nat.le_of_ble_eq_true rfl, Nat.le_of_ble_eq_true rfl⟩) (preVX hK (va_Pl (va_Pl hP))) rfl rfl hl.1 rfl (lv_room (Nat.le_of_ble_eq_true rfl)) dX1_isSame_493 ⟨Nat.le_of_ble_eq_true rfl, Nat.le_of_ble_eq_true rfl⟩) ?_
                                  refine lv_iload hx hb dX1_isSame_496 (lv_at hl 1 rfl) ?_
                                  refine z_icmp_ne (tgt := 539) hx hb dX1_isSame_498 (by decide) (by omega) (by omega) (fun c_19 => ?_) (fun c_19 => ?_)
                                  · exfalso; omega
                                  ·
                                    refine lv_aload_n hx hb dX1_isSame_501 rfl (lv_at hl 6 rfl) ?_
                                    refine zc_d (va_runV (As := []) (rest := []) ⟨hx, hb, hml, hown, hts⟩ (c_X0_meanWeight l G x a B σ hI) (cwV 0 hts gX1_isSame_X0_meanWeight rfl rfl rfl (by decide +kernel) ⟨Nat.le_of_ble_eq_true rfl, Nat.le_of_ble_eq_true rfl⟩) (preVX hK (va_Pl (va_Pl hP))) rfl rfl hl.1 rfl (lv_room (Nat.le_of_ble_eq_true rfl)) dX1_isSame_502 ⟨Nat.le_of_ble_eq_true rfl, Nat.le_of_ble_eq_true rfl⟩) ?_
                                    refine lv_aload_n hx hb dX1_isSame_505 rfl (lv_at hl 5 rfl) ?_
                                    refine lv_iconst (v := iI 0) hx hb dX1_isSame_506 rfl ?_
                                    refine zc_i (va_runV (As := [.int (iI 0)]) (rest := [.double (mea σ)]) ⟨hx, hb, hml, hown, hts⟩ (c_X1_count l G y P S rp rs B σ 0 hI (by omega)) (cwV 1 hts gX1_isSame_X1_count rfl rfl rfl (by decide +kernel) ⟨Nat.le_of_ble_eq_true rfl, Nat.le_of_ble_eq_true rfl⟩) (preVU hK (va_Pr (va_Pl hP))) rfl rfl hl.1 rfl (lv_room (Nat.le_of_ble_eq_true rfl)) dX1_isSame_507 ⟨Nat.le_of_ble_eq_true rfl, Nat.le_of_ble_eq_true rfl⟩) ?_
                                    have f_20 := cnt_bd hI 0
                                    refine z_if_ne (tgt := 517) hx hb dX1_isSame_510 (by decide) (by omega) (fun c_21 => ?_) (fun c_21 => ?_)
                                    ·
                                      refine lv_aload_n hx hb dX1_isSame_517 rfl (lv_at hl 5 rfl) ?_
                                      refine lv_iconst (v := iI (-1)) hx hb dX1_isSame_518 rfl ?_
                                      refine lv_iconst (v := iI (-1)) hx hb dX1_isSame_519 rfl ?_
                                      refine zc_i (va_runV (As := [.int (iI (-1)), .int (iI (-1))]) (rest := [.double (mea σ)]) ⟨hx, hb, hml, hown, hts⟩ (c_done_t l G y P S rp rs B σ hI) (cwV 2 hts gX1_isSame_X1_done rfl rfl rfl (by decide +kernel) ⟨Nat.le_of_ble_eq_true rfl, Nat.le_of_ble_eq_true rfl⟩) (preVU hK (va_Pr (va_Pl hP))) rfl rfl hl.1 rfl (lv_room (Nat.le_of_ble_eq_true rfl)) dX1_isSame_520 ⟨Nat.le_of_ble_eq_true rfl, Nat.le_of_ble_eq_true rfl⟩) ?_
                                      have f_22 := tot_bj hI (Nat.le_refl (σ.1 1))
                                      refine lv_i2d hx hb dX1_isSame_523 ?_
                                      refine lv_aload_n hx hb dX1_isSame_524 rfl (lv_at hl 5 rfl) ?_
                                      refine lv_iconst (v := iI 0) hx hb dX1_isSame_525 rfl ?_
                                      refine zc_i (va_runV (As := [.int (iI 0)]) (rest := [.double (FP.i2d (iI (tot σ))), .double (mea σ)]) ⟨hx, hb, hml, hown, hts⟩ (c_X1_count l G y P S rp rs B σ 0 hI (by omega)) (cwV 1 hts gX1_isSame_X1_count rfl rfl rfl (by decide +kernel) ⟨Nat.le_of_ble_eq_true rfl, Nat.le_of_ble_eq_true rfl⟩) (preVU hK (va_Pr (va_Pl hP))) rfl rfl hl.1 rfl (lv_room (Nat.le_of_ble_eq_true rfl)) dX1_isSame_526 ⟨Nat.le_of_ble_eq_true rfl, Nat.le_of_ble_eq_true rfl⟩) ?_
                                      have f_23 := cnt_bd hI 0
                                      refine lv_i2d hx hb dX1_isSame_529 ?_
                                      refine lv_ddiv hx hb dX1_isSame_530 (mea_n2 hI (by omega)) ?_
                                      refine lv_dcmp hx hb dX1_isSame_531 ?_
                                      refine z_re (v' := iI 0) (cmp0 (by unfold mea; rw [if_neg (by omega)]) (mec_n2 hI (by omega)) _) ?_
                                      refine z_if_ne (tgt := 539) hx hb dX1_isSame_532 (by decide) (by omega) (fun c_24 => ?_) (fun c_24 => ?_)
                                      · exfalso; revert c_24; decide
                                      ·
                                        refine lv_iconst (v := iI 1) hx hb dX1_isSame_535 rfl ?_
                                        refine lv_goto (tgt := 540) hx hb dX1_isSame_536 (by decide) ?_
                                        exact W.zret hx hb hr (z_nb (Or.inr rfl)) (fun t ht _ => ⟨_, rfl, rfl, ht⟩) (fun q hq => absurd hq List.not_mem_nil) dX1_isSame_540
                                    ·
                                      refine lv_dconst0 hx hb dX1_isSame_513 ?_
                                      refine lv_goto (tgt := 531) hx hb dX1_isSame_514 (by decide) ?_
                                      refine lv_dcmp hx hb dX1_isSame_531 ?_
                                      refine z_re (v' := iI 0) (cmp0 (by unfold mea; rw [if_pos (by omega)]) (by decide +kernel) _) ?_
                                      refine z_if_ne (tgt := 539) hx hb dX1_isSame_532 (by decide) (by omega) (fun c_25 => ?_) (fun c_25 => ?_)
                                      · exfalso; revert c_25; decide
                                      ·
                                        refine lv_iconst (v := iI 1) hx hb dX1_isSame_535 rfl ?_
                                        refine lv_goto (tgt := 540) hx hb dX1_isSame_536 (by decide) ?_
                                        exact W.zret hx hb hr (z_nb (Or.inr rfl)) (fun t ht _ => ⟨_, rfl, rfl, ht⟩) (fun q hq => absurd hq List.not_mem_nil) dX1_isSame_540
                  ·
                    refine lv_aload_n hx hb dX1_isSame_398 rfl (lv_at hl 6 rfl) ?_
                    refine lv_iload hx hb dX1_isSame_399 (lv_at hl 0 rfl) ?_
                    refine zc_i (va_runV (As := [.int (iI (q : Int))]) (rest := []) ⟨hx, hb, hml, hown, hts⟩ (c_X0_inState l G x a B σ (q : Int) hI (by omega)) (cwV 1 hts gX1_isSame_X0_inState rfl rfl rfl (by decide +kernel) ⟨Nat.le_of_ble_eq_true rfl, Nat.le_of_ble_eq_true rfl⟩) (preVX hK (va_Pl (va_Pl hP))) rfl rfl hl.1 rfl (lv_room (Nat.le_of_ble_eq_true rfl)) dX1_isSame_401 ⟨Nat.le_of_ble_eq_true rfl, Nat.le_of_ble_eq_true rfl⟩) ?_
                    have f_26 := cnt_bd hI (q : Int)
                    refine lv_aload_n hx hb dX1_isSame_404 rfl (lv_at hl 5 rfl) ?_
                    refine lv_iload hx hb dX1_isSame_405 (lv_at hl 0 rfl) ?_
                    refine zc_i (va_runV (As := [.int (iI (q : Int))]) (rest := [.int (iI (cnt σ (q : Int)))]) ⟨hx, hb, hml, hown, hts⟩ (c_X1_count l G y P S rp rs B σ (q : Int) hI (by omega)) (cwV 1 hts gX1_isSame_X1_count rfl rfl rfl (by decide +kernel) ⟨Nat.le_of_ble_eq_true rfl, Nat.le_of_ble_eq_true rfl⟩) (preVU hK (va_Pr (va_Pl hP))) rfl rfl hl.1 rfl (lv_room (Nat.le_of_ble_eq_true rfl)) dX1_isSame_407 ⟨Nat.le_of_ble_eq_true rfl, Nat.le_of_ble_eq_true rfl⟩) ?_
                    have f_27 := cnt_bd hI (q : Int)
                    refine z_icmp_eq (tgt := 415) hx hb dX1_isSame_410 (by decide) (by omega) (by omega) (fun c_28 => ?_) (fun c_28 => ?_)
                    ·
                      refine lv_iinc (v := iI ((q + 1 : Nat) : Int)) (lv' := [(6, .int (iI ((q + 1 : Nat) : Int))), (5, .int (iI s5)), (4, .int (iI s4)), (3, .int (iI s2)), (2, .int (iI s1)), (0, .ref y), (1, .ref x)]) hx hb dX1_isSame_415 hl (k := 0) rfl ((iI_add _ _).trans (congrArg iI (by omega))) (by decide) rfl (fun ls hl => ?_)
                      refine lv_goto (tgt := 392) hx hb dX1_isSame_418 (by decide) ?_
                      exact ih392 (q + 1)  (by omega) (by omega) ls (lv_sub hl [0, 1, 2, 3, 4, 5, 6] rfl)
                    · exfalso; omega
              exact LP392 (4 - 0 + 1) 0  (by omega) (by omega) ls (lv_sub hl [0, 1, 2, 3, 4, 5, 6] rfl)
            ·
              refine lv_aload_n hx hb dX1_isSame_205 rfl (lv_at hl 5 rfl) ?_
              refine u_get (v := .ref S) hx hb hts hin0 hown hK (va_Pr (va_Pl hP)) 0 rfl 1 (by decide) w_1 rfl rfl dX1_isSame_206 ?_
              refine lv_iload hx hb dX1_isSame_209 (lv_at hl 0 rfl) ?_
              refine u_aalS hx hb hK (va_Pr (va_Pl hP)) (k := k) (show k < σ.1 1 from by omega) (show σ.1 1 < 2147483648 from by omega) dX1_isSame_211 ?_
              refine lv_astore (lv' := [(7, .ref (rs k)), (6, .int (iI (k : Int))), (5, .int (iI s5)), (4, .int (iI s4)), (3, .int (iI s2)), (2, .int (iI s1)), (0, .ref y), (1, .ref x)]) hx hb dX1_isSame_212 hl (by decide) rfl (fun ls hl => ?_)
              have JN246 : ∀ (s6 : Int), s6 = arg (fun k => σ.2 5 k = 0) (fun k => σ.2 4 k) (k + 1) → ∀ (ls : Array Slot), lv_has ls 9 [(7, .ref (rs k)), (6, .int (iI (k : Int))), (5, .int (iI s5)), (4, .int (iI s6)), (3, .int (iI s2)), (2, .int (iI s1)), (0, .ref y), (1, .ref x)] → W pp l ee (headSpec wsX1_isSame ({ frames := 4, cells := 0, slots := 0, locals := 87 } : Room)).room s m ([.ref y, .ref x] : List Value).toArray below meth c s.heap [] 0 0 (MQ below (vp_Si (fun r => r = iI 1)) ([.ref y, .ref x] : List Value).toArray s 0 0 (fun _ => False)) (F0 m 246 ls []) := by
                intro s6 hj246_0 ls hl
                refine lv_iconst (v := iI 0) hx hb dX1_isSame_246 rfl ?_
                refine lv_istore (lv' := [(8, .int (iI 0)), (7, .ref (rs k)), (6, .int (iI (k : Int))), (5, .int (iI s5)), (4, .int (iI s6)), (3, .int (iI s2)), (2, .int (iI s1)), (0, .ref y), (1, .ref x)]) hx hb dX1_isSame_247 hl (by decide) rfl (fun ls hl => ?_)
                have LP249 : ∀ (r249 : Nat) (o : Nat) (s7 : Int), o ≤ k → k - o < r249 → s7 = s5 + zs (fun o => pq σ k o) o → s5 ≤ s7 ∧ s7 ≤ s5 + o → ∀ (ls : Array Slot), lv_has ls 9 [(8, .int (iI (o : Int))), (7, .ref (rs k)), (6, .int (iI (k : Int))), (5, .int (iI s7)), (4, .int (iI s6)), (3, .int (iI s2)), (2, .int (iI s1)), (0, .ref y), (1, .ref x)] → W pp l ee (headSpec wsX1_isSame ({ frames := 4, cells := 0, slots := 0, locals := 87 } : Room)).room s m ([.ref y, .ref x] : List Value).toArray below meth c s.heap [] 0 0 (MQ below (vp_Si (fun r => r = iI 1)) ([.ref y, .ref x] : List Value).toArray s 0 0 (fun _ => False)) (F0 m 249 ls []) := by
                  intro r249
                  induction r249 with
                  | zero => intro o s7 hv249_0 hv249_1; exfalso; omega
                  | succ r249 ih249 =>
                    intro o s7 hv249_0 hv249_1 hv249_2 hv249_3 ls hl
                    refine lv_iload hx hb dX1_isSame_249 (lv_at hl 0 rfl) ?_
                    refine lv_iload hx hb dX1_isSame_251 (lv_at hl 2 rfl) ?_
                    refine z_icmp_ge (tgt := 288) hx hb dX1_isSame_253 (by decide) (by omega) (by omega) (fun c_29 => ?_) (fun c_29 => ?_)
                    ·
                      refine lv_aload_n hx hb dX1_isSame_288 rfl (lv_at hl 8 rfl) ?_
                      refine lv_iload hx hb dX1_isSame_289 (lv_at hl 2 rfl) ?_
                      refine zc_i (va_runV (As := [.int (iI (k : Int))]) (rest := []) ⟨hx, hb, hml, hown, hts⟩ (c_X0_offenderOf l G x a B σ k hI (by omega)) (cwV 1 hts gX1_isSame_X0_offenderOf rfl rfl rfl (by decide +kernel) ⟨Nat.le_of_ble_eq_true rfl, Nat.le_of_ble_eq_true rfl⟩) (preVX hK (va_Pl (va_Pl hP))) rfl rfl hl.1 rfl (lv_room (Nat.le_of_ble_eq_true rfl)) dX1_isSame_291 ⟨Nat.le_of_ble_eq_true rfl, Nat.le_of_ble_eq_true rfl⟩) ?_
                      have f_30 := hI.r2x k (by omega)
                      refine lv_aload hx hb dX1_isSame_294 (lv_at hl 1 rfl) ?_
                      refine lv_iconst (v := iI 0) hx hb dX1_isSame_296 rfl ?_
                      refine u_ildS hx hb hK (va_Pr (va_Pl hP)) (k := k) (i := 0) (v := iI (σ.2 2 k)) (show k < σ.1 1 from by omega) (by decide) rfl dX1_isSame_297 ?_
                      have f_31 := hI.r2 (k := k) (by omega)
                      refine z_icmp_ne (tgt := 381) hx hb dX1_isSame_298 (by decide) (by omega) (by omega) (fun c_32 => ?_) (fun c_32 => ?_)
                      · exfalso; omega
                      ·
                        refine lv_aload_n hx hb dX1_isSame_301 rfl (lv_at hl 8 rfl) ?_
                        refine lv_iload hx hb dX1_isSame_302 (lv_at hl 2 rfl) ?_
                        refine zc_i (va_runV (As := [.int (iI (k : Int))]) (rest := []) ⟨hx, hb, hml, hown, hts⟩ (c_X0_offendedOf l G x a B σ k hI (by omega)) (cwV 1 hts gX1_isSame_X0_offendedOf rfl rfl rfl (by decide +kernel) ⟨Nat.le_of_ble_eq_true rfl, Nat.le_of_ble_eq_true rfl⟩) (preVX hK (va_Pl (va_Pl hP))) rfl rfl hl.1 rfl (lv_room (Nat.le_of_ble_eq_true rfl)) dX1_isSame_304 ⟨Nat.le_of_ble_eq_true rfl, Nat.le_of_ble_eq_true rfl⟩) ?_
                        have f_33 := hI.r3x k (by omega)
                        refine lv_aload hx hb dX1_isSame_307 (lv_at hl 1 rfl) ?_
                        refine lv_iconst (v := iI 1) hx hb dX1_isSame_309 rfl ?_
                        refine u_ildS hx hb hK (va_Pr (va_Pl hP)) (k := k) (i := 1) (v := iI (σ.2 3 k)) (show k < σ.1 1 from by omega) (by decide) rfl dX1_isSame_310 ?_
                        have f_34 := hI.r3 (k := k) (by omega)
                        refine z_icmp_ne (tgt := 381) hx hb dX1_isSame_311 (by decide) (by omega) (by omega) (fun c_35 => ?_) (fun c_35 => ?_)
                        · exfalso; omega
                        ·
                          refine lv_aload_n hx hb dX1_isSame_314 rfl (lv_at hl 8 rfl) ?_
                          refine lv_iload hx hb dX1_isSame_315 (lv_at hl 2 rfl) ?_
                          refine zc_i (va_runV (As := [.int (iI (k : Int))]) (rest := []) ⟨hx, hb, hml, hown, hts⟩ (c_X0_weightOf l G x a B σ k hI (by omega)) (cwV 1 hts gX1_isSame_X0_weightOf rfl rfl rfl (by decide +kernel) ⟨Nat.le_of_ble_eq_true rfl, Nat.le_of_ble_eq_true rfl⟩) (preVX hK (va_Pl (va_Pl hP))) rfl rfl hl.1 rfl (lv_room (Nat.le_of_ble_eq_true rfl)) dX1_isSame_317 ⟨Nat.le_of_ble_eq_true rfl, Nat.le_of_ble_eq_true rfl⟩) ?_
                          have f_36 := hI.r4 k
                          refine lv_aload hx hb dX1_isSame_320 (lv_at hl 1 rfl) ?_
                          refine lv_iconst (v := iI 2) hx hb dX1_isSame_322 rfl ?_
                          refine u_ildS hx hb hK (va_Pr (va_Pl hP)) (k := k) (i := 2) (v := iI (σ.2 4 k)) (show k < σ.1 1 from by omega) (by decide) rfl dX1_isSame_323 ?_
                          have f_37 := hI.r4 k
                          refine z_icmp_ne (tgt := 381) hx hb dX1_isSame_324 (by decide) (by omega) (by omega) (fun c_38 => ?_) (fun c_38 => ?_)
                          · exfalso; omega
                          ·
                            refine lv_aload_n hx hb dX1_isSame_327 rfl (lv_at hl 8 rfl) ?_
                            refine lv_iload hx hb dX1_isSame_328 (lv_at hl 2 rfl) ?_
                            refine zc_i (va_runV (As := [.int (iI (k : Int))]) (rest := []) ⟨hx, hb, hml, hown, hts⟩ (c_X0_stateOf l G x a B σ k hI (by omega)) (cwV 1 hts gX1_isSame_X0_stateOf rfl rfl rfl (by decide +kernel) ⟨Nat.le_of_ble_eq_true rfl, Nat.le_of_ble_eq_true rfl⟩) (preVX hK (va_Pl (va_Pl hP))) rfl rfl hl.1 rfl (lv_room (Nat.le_of_ble_eq_true rfl)) dX1_isSame_330 ⟨Nat.le_of_ble_eq_true rfl, Nat.le_of_ble_eq_true rfl⟩) ?_
                            have f_39 := hI.r5 k
                            refine lv_aload hx hb dX1_isSame_333 (lv_at hl 1 rfl) ?_
                            refine lv_iconst (v := iI 3) hx hb dX1_isSame_335 rfl ?_
                            refine u_ildS hx hb hK (va_Pr (va_Pl hP)) (k := k) (i := 3) (v := iI (σ.2 5 k)) (show k < σ.1 1 from by omega) (by decide) rfl dX1_isSame_336 ?_
                            have f_40 := hI.r5 k
                            refine z_icmp_ne (tgt := 381) hx hb dX1_isSame_337 (by decide) (by omega) (by omega) (fun c_41 => ?_) (fun c_41 => ?_)
                            · exfalso; omega
                            ·
                              refine lv_aload_n hx hb dX1_isSame_340 rfl (lv_at hl 8 rfl) ?_
                              refine lv_iload hx hb dX1_isSame_341 (lv_at hl 2 rfl) ?_
                              refine zc_i (va_runV (As := [.int (iI (k : Int))]) (rest := []) ⟨hx, hb, hml, hown, hts⟩ (c_X0_borneFor l G x a B σ k hI (by omega)) (cwV 1 hts gX1_isSame_X0_borneFor rfl rfl rfl (by decide +kernel) ⟨Nat.le_of_ble_eq_true rfl, Nat.le_of_ble_eq_true rfl⟩) (preVX hK (va_Pl (va_Pl hP))) rfl rfl hl.1 rfl (lv_room (Nat.le_of_ble_eq_true rfl)) dX1_isSame_343 ⟨Nat.le_of_ble_eq_true rfl, Nat.le_of_ble_eq_true rfl⟩) ?_
                              have f_42 := hI.r6 k
                              refine lv_aload hx hb dX1_isSame_346 (lv_at hl 1 rfl) ?_
                              refine lv_iconst (v := iI 4) hx hb dX1_isSame_348 rfl ?_
                              refine u_ildS hx hb hK (va_Pr (va_Pl hP)) (k := k) (i := 4) (v := iI (σ.2 6 k)) (show k < σ.1 1 from by omega) (by decide) rfl dX1_isSame_349 ?_
                              have f_43 := hI.r6 k
                              refine z_icmp_ne (tgt := 381) hx hb dX1_isSame_350 (by decide) (by omega) (by omega) (fun c_44 => ?_) (fun c_44 => ?_)
                              · exfalso; omega
                              ·
                                refine lv_aload_n hx hb dX1_isSame_353 rfl (lv_at hl 8 rfl) ?_
                                refine lv_iload hx hb dX1_isSame_354 (lv_at hl 2 rfl) ?_
                                refine zc_i (va_runV (As := [.int (iI (k : Int))]) (rest := []) ⟨hx, hb, hml, hown, hts⟩ (c_X0_quietFor l G x a B σ k hI (by omega)) (cwV 1 hts gX1_isSame_X0_quietFor rfl rfl rfl (by decide +kernel) ⟨Nat.le_of_ble_eq_true rfl, Nat.le_of_ble_eq_true rfl⟩) (preVX hK (va_Pl (va_Pl hP))) rfl rfl hl.1 rfl (lv_room (Nat.le_of_ble_eq_true rfl)) dX1_isSame_356 ⟨Nat.le_of_ble_eq_true rfl, Nat.le_of_ble_eq_true rfl⟩) ?_
                                have f_45 := hI.r7 k
                                refine lv_aload hx hb dX1_isSame_359 (lv_at hl 1 rfl) ?_
                                refine lv_iconst (v := iI 5) hx hb dX1_isSame_361 rfl ?_
                                refine u_ildS hx hb hK (va_Pr (va_Pl hP)) (k := k) (i := 5) (v := iI (σ.2 7 k)) (show k < σ.1 1 from by omega) (by decide) rfl dX1_isSame_362 ?_
                                have f_46 := hI.r7 k
                                refine z_icmp_ne (tgt := 381) hx hb dX1_isSame_363 (by decide) (by omega) (by omega) (fun c_47 => ?_) (fun c_47 => ?_)
                                · exfalso; omega
                                ·
                                  refine lv_aload_n hx hb dX1_isSame_366 rfl (lv_at hl 8 rfl) ?_
                                  refine lv_iload hx hb dX1_isSame_367 (lv_at hl 2 rfl) ?_
                                  refine zc_i (va_runV (As := [.int (iI (k : Int))]) (rest := []) ⟨hx, hb, hml, hown, hts⟩ (c_X0_witnessesFor l G x a B σ k hI (by omega)) (cwV 1 hts gX1_isSame_X0_witnessesFor rfl rfl rfl (by decide +kernel) ⟨Nat.le_of_ble_eq_true rfl, Nat.le_of_ble_eq_true rfl⟩) (preVX hK (va_Pl (va_Pl hP))) rfl rfl hl.1 rfl (lv_room (Nat.le_of_ble_eq_true rfl)) dX1_isSame_369 ⟨Nat.le_of_ble_eq_true rfl, Nat.le_of_ble_eq_true rfl⟩) ?_
                                  have f_48 := wit_bd hI k
                                  refine lv_aload_n hx hb dX1_isSame_372 rfl (lv_at hl 7 rfl) ?_
                                  refine lv_aload hx hb dX1_isSame_373 (lv_at hl 1 rfl) ?_
                                  refine zc_i (va_runV (As := [.ref (rs k)]) (rest := [.int (iI (wit σ k))]) ⟨hx, hb, hml, hown, hts⟩ (c_X1_witnesses l G y P S rp rs B σ k hI (by omega)) (cwV 1 hts gX1_isSame_X1_witnesses rfl rfl rfl (by decide +kernel) ⟨Nat.le_of_ble_eq_true rfl, Nat.le_of_ble_eq_true rfl⟩) (preVU hK (va_Pr (va_Pl hP))) rfl rfl hl.1 rfl (lv_room (Nat.le_of_ble_eq_true rfl)) dX1_isSame_375 ⟨Nat.le_of_ble_eq_true rfl, Nat.le_of_ble_eq_true rfl⟩) ?_
                                  have f_49 := wit_bd hI k
                                  refine z_icmp_eq (tgt := 383) hx hb dX1_isSame_378 (by decide) (by omega) (by omega) (fun c_50 => ?_) (fun c_50 => ?_)
                                  ·
                                    refine lv_iinc (v := iI ((k + 1 : Nat) : Int)) (lv' := [(6, .int (iI ((k + 1 : Nat) : Int))), (8, .int (iI (o : Int))), (7, .ref (rs k)), (5, .int (iI s7)), (4, .int (iI s6)), (3, .int (iI s2)), (2, .int (iI s1)), (0, .ref y), (1, .ref x)]) hx hb dX1_isSame_383 hl (k := 2) rfl ((iI_add _ _).trans (congrArg iI (by omega))) (by decide) rfl (fun ls hl => ?_)
                                    refine lv_goto (tgt := 195) hx hb dX1_isSame_386 (by decide) ?_
                                    exact ih195 (k + 1) s6 s7 (by omega) (by omega) (by assumption) (by rw [zs_s, ← hv195_3, hv249_2, show o = k from by omega]) (by omega) ls (lv_sub hl [0, 3, 4, 5, 6, 7, 8] rfl)
                                  · exfalso; omega
                    ·
                      refine lv_iload hx hb dX1_isSame_256 (lv_at hl 3 rfl) ?_
                      refine lv_aload_n hx hb dX1_isSame_258 rfl (lv_at hl 7 rfl) ?_
                      refine lv_aload hx hb dX1_isSame_259 (lv_at hl 1 rfl) ?_
                      refine lv_aload_n hx hb dX1_isSame_261 rfl (lv_at hl 7 rfl) ?_
                      refine u_get (v := .ref S) hx hb hts hin0 hown hK (va_Pr (va_Pl hP)) 0 rfl 1 (by decide) w_1 rfl rfl dX1_isSame_262 ?_
                      refine lv_iload hx hb dX1_isSame_265 (lv_at hl 0 rfl) ?_
                      refine u_aalS hx hb hK (va_Pr (va_Pl hP)) (k := o) (show o < σ.1 1 from by omega) (show σ.1 1 < 2147483648 from by omega) dX1_isSame_267 ?_
                      refine zc_i (va_runV (As := [.ref (rs k), .ref (rs o)]) (rest := [.int (iI s7)]) ⟨hx, hb, hml, hown, hts⟩ (c_X1_areOpposite l G y P S rp rs B σ k o hI (by omega) (by omega)) (cwV 2 hts gX1_isSame_X1_areOpposite rfl rfl rfl (by decide +kernel) ⟨Nat.le_of_ble_eq_true rfl, Nat.le_of_ble_eq_true rfl⟩) (preVU hK (va_Pr (va_Pl hP))) rfl rfl hl.1 rfl (lv_room (Nat.le_of_ble_eq_true rfl)) dX1_isSame_268 ⟨Nat.le_of_ble_eq_true rfl, Nat.le_of_ble_eq_true rfl⟩) ?_
                      have f_51 := pq_or σ k o
                      refine z_if_eq (tgt := 278) hx hb dX1_isSame_271 (by decide) (by omega) (fun c_52 => ?_) (fun c_52 => ?_)
                      ·
                        refine lv_iconst (v := iI 0) hx hb dX1_isSame_278 rfl ?_
                        refine z_iadd hx hb dX1_isSame_279 ?_
                        refine lv_istore (lv' := [(5, .int (iI (s7 + 0))), (8, .int (iI (o : Int))), (7, .ref (rs k)), (6, .int (iI (k : Int))), (4, .int (iI s6)), (3, .int (iI s2)), (2, .int (iI s1)), (0, .ref y), (1, .ref x)]) hx hb dX1_isSame_280 hl (by decide) rfl (fun ls hl => ?_)
                        refine lv_iinc (v := iI ((o + 1 : Nat) : Int)) (lv' := [(8, .int (iI ((o + 1 : Nat) : Int))), (5, .int (iI (s7 + 0))), (7, .ref (rs k)), (6, .int (iI (k : Int))), (4, .int (iI s6)), (3, .int (iI s2)), (2, .int (iI s1)), (0, .ref y), (1, .ref x)]) hx hb dX1_isSame_282 hl (k := 1) rfl ((iI_add _ _).trans (congrArg iI (by omega))) (by decide) rfl (fun ls hl => ?_)
                        refine lv_goto (tgt := 249) hx hb dX1_isSame_285 (by decide) ?_
                        exact ih249 (o + 1) (s7 + 0) (by omega) (by omega) (by rw [zs_s, hv249_2]; (try dsimp only); omega) (by omega) ls (lv_sub hl [0, 2, 3, 1, 4, 5, 6, 7, 8] rfl)
                      ·
                        refine lv_iconst (v := iI 1) hx hb dX1_isSame_274 rfl ?_
                        refine lv_goto (tgt := 279) hx hb dX1_isSame_275 (by decide) ?_
                        refine z_iadd hx hb dX1_isSame_279 ?_
                        refine lv_istore (lv' := [(5, .int (iI (s7 + 1))), (8, .int (iI (o : Int))), (7, .ref (rs k)), (6, .int (iI (k : Int))), (4, .int (iI s6)), (3, .int (iI s2)), (2, .int (iI s1)), (0, .ref y), (1, .ref x)]) hx hb dX1_isSame_280 hl (by decide) rfl (fun ls hl => ?_)
                        refine lv_iinc (v := iI ((o + 1 : Nat) : Int)) (lv' := [(8, .int (iI ((o + 1 : Nat) : Int))), (5, .int (iI (s7 + 1))), (7, .ref (rs k)), (6, .int (iI (k : Int))), (4, .int (iI s6)), (3, .int (iI s2)), (2, .int (iI s1)), (0, .ref y), (1, .ref x)]) hx hb dX1_isSame_282 hl (k := 1) rfl ((iI_add _ _).trans (congrArg iI (by omega))) (by decide) rfl (fun ls hl => ?_)
                        refine lv_goto (tgt := 249) hx hb dX1_isSame_285 (by decide) ?_
                        exact ih249 (o + 1) (s7 + 1) (by omega) (by omega) (by rw [zs_s, hv249_2]; (try dsimp only); omega) (by omega) ls (lv_sub hl [0, 2, 3, 1, 4, 5, 6, 7, 8] rfl)
                exact LP249 (k - 0 + 1) 0 s5 (by omega) (by omega) (by simp [zs]) (by omega) ls (lv_sub hl [0, 1, 2, 3, 4, 5, 6, 7, 8] rfl)
              refine lv_aload hx hb dX1_isSame_214 (lv_at hl 0 rfl) ?_
              refine lv_iconst (v := iI 3) hx hb dX1_isSame_216 rfl ?_
              refine u_ildS hx hb hK (va_Pr (va_Pl hP)) (k := k) (i := 3) (v := iI (σ.2 5 k)) (show k < σ.1 1 from by omega) (by decide) rfl dX1_isSame_217 ?_
              have f_53 := hI.r5 k
              refine z_if_ne (tgt := 246) hx hb dX1_isSame_218 (by decide) (by omega) (fun c_54 => ?_) (fun c_54 => ?_)
              ·
                exact JN246 s4 (by rw [arg_s, ← hv195_2]; (try dsimp only); split <;> omega) ls (lv_sub hl [0, 1, 2, 3, 4, 5, 6, 7] rfl)
              ·
                refine lv_iload hx hb dX1_isSame_221 (lv_at hl 3 rfl) ?_
                refine z_if_lt (tgt := 242) hx hb dX1_isSame_223 (by decide) (by omega) (fun c_55 => ?_) (fun c_55 => ?_)
                ·
                  refine lv_iload hx hb dX1_isSame_242 (lv_at hl 1 rfl) ?_
                  refine lv_istore (lv' := [(4, .int (iI (k : Int))), (7, .ref (rs k)), (6, .int (iI (k : Int))), (5, .int (iI s5)), (3, .int (iI s2)), (2, .int (iI s1)), (0, .ref y), (1, .ref x)]) hx hb dX1_isSame_244 hl (by decide) rfl (fun ls hl => ?_)
                  exact JN246 (k : Int) (by rw [arg_s, ← hv195_2]; (try dsimp only); split <;> omega) ls (lv_sub hl [1, 2, 3, 0, 4, 5, 6, 7] rfl)
                ·
                  refine lv_aload hx hb dX1_isSame_226 (lv_at hl 0 rfl) ?_
                  refine lv_iconst (v := iI 2) hx hb dX1_isSame_228 rfl ?_
                  refine u_ildS hx hb hK (va_Pr (va_Pl hP)) (k := k) (i := 2) (v := iI (σ.2 4 k)) (show k < σ.1 1 from by omega) (by decide) rfl dX1_isSame_229 ?_
                  have f_56 := hI.r4 k
                  refine lv_aload_n hx hb dX1_isSame_230 rfl (lv_at hl 6 rfl) ?_
                  refine u_get (v := .ref S) hx hb hts hin0 hown hK (va_Pr (va_Pl hP)) 0 rfl 1 (by decide) w_1 rfl rfl dX1_isSame_231 ?_
                  refine lv_iload hx hb dX1_isSame_234 (lv_at hl 3 rfl) ?_
                  refine z_re (v' := iI (((s4).toNat : Nat) : Int)) (congrArg iI (by omega)) ?_
                  refine u_aalS hx hb hK (va_Pr (va_Pl hP)) (k := (s4).toNat) (show (s4).toNat < σ.1 1 from by omega) (show σ.1 1 < 2147483648 from by omega) dX1_isSame_236 ?_
                  refine lv_iconst (v := iI 2) hx hb dX1_isSame_237 rfl ?_
                  refine u_ildS hx hb hK (va_Pr (va_Pl hP)) (k := (s4).toNat) (i := 2) (v := iI (σ.2 4 ((s4).toNat))) (show (s4).toNat < σ.1 1 from by omega) (by decide) rfl dX1_isSame_238 ?_
                  have f_57 := hI.r4 ((s4).toNat)
                  refine z_icmp_le (tgt := 246) hx hb dX1_isSame_239 (by decide) (by omega) (by omega) (fun c_58 => ?_) (fun c_58 => ?_)
                  ·
                    exact JN246 s4 (by rw [arg_s, ← hv195_2]; (try dsimp only); split <;> omega) ls (lv_sub hl [0, 1, 2, 3, 4, 5, 6, 7] rfl)
                  ·
                    refine lv_iload hx hb dX1_isSame_242 (lv_at hl 1 rfl) ?_
                    refine lv_istore (lv' := [(4, .int (iI (k : Int))), (7, .ref (rs k)), (6, .int (iI (k : Int))), (5, .int (iI s5)), (3, .int (iI s2)), (2, .int (iI s1)), (0, .ref y), (1, .ref x)]) hx hb dX1_isSame_244 hl (by decide) rfl (fun ls hl => ?_)
                    exact JN246 (k : Int) (by rw [arg_s, ← hv195_2]; (try dsimp only); split <;> omega) ls (lv_sub hl [1, 2, 3, 0, 4, 5, 6, 7] rfl)
        exact LP195 (σ.1 1 - 0 + 1) 0 (-1) 0 (by omega) (by omega) (by rfl) (by rfl) (by omega) ls (lv_sub hl [0, 1, 2, 3, 4, 5, 6] rfl)
      ·
        refine lv_iload_n hx hb dX1_isSame_23 rfl (lv_at hl 4 rfl) ?_
        refine lv_aload_n hx hb dX1_isSame_24 rfl (lv_at hl 5 rfl) ?_
        refine u_get (v := .ref P) hx hb hts hin0 hown hK (va_Pr (va_Pl hP)) 0 rfl 0 (by decide) w_0 rfl rfl dX1_isSame_25 ?_
        refine lv_iload hx hb dX1_isSame_28 (lv_at hl 0 rfl) ?_
        refine u_aalP hx hb hK (va_Pr (va_Pl hP)) (k := p) (show p < σ.1 0 from by omega) (show σ.1 0 < 2147483648 from by omega) dX1_isSame_30 ?_
        refine lv_iconst (v := iI 1) hx hb dX1_isSame_31 rfl ?_
        refine u_ildP hx hb hK (va_Pr (va_Pl hP)) (k := p) (i := 1) (v := iI (σ.2 1 p)) (show p < σ.1 0 from by omega) (by decide) rfl dX1_isSame_32 ?_
        have f_59 := hI.r1 p
        refine z_iadd hx hb dX1_isSame_33 ?_
        refine lv_istore_n (lv' := [(2, .int (iI (s1 + (σ.2 1 p)))), (6, .int (iI (p : Int))), (5, .int (iI 0)), (4, .int (iI (-1))), (3, .int (iI s2)), (0, .ref y), (1, .ref x)]) hx hb dX1_isSame_34 rfl hl (by decide) rfl (fun ls hl => ?_)
        have JN58 : ∀ (s3 : Int), s3 = arg (fun _ => True) (fun p => bor σ p) (p + 1) → ∀ (ls : Array Slot), lv_has ls 9 [(2, .int (iI (s1 + (σ.2 1 p)))), (6, .int (iI (p : Int))), (5, .int (iI 0)), (4, .int (iI (-1))), (3, .int (iI s3)), (0, .ref y), (1, .ref x)] → W pp l ee (headSpec wsX1_isSame ({ frames := 4, cells := 0, slots := 0, locals := 87 } : Room)).room s m ([.ref y, .ref x] : List Value).toArray below meth c s.heap [] 0 0 (MQ below (vp_Si (fun r => r = iI 1)) ([.ref y, .ref x] : List Value).toArray s 0 0 (fun _ => False)) (F0 m 58 ls []) := by
          intro s3 hj58_0 ls hl
          have JN85 : ∀ (ls : Array Slot), lv_has ls 9 [(2, .int (iI (s1 + (σ.2 1 p)))), (6, .int (iI (p : Int))), (5, .int (iI 0)), (4, .int (iI (-1))), (3, .int (iI s3)), (0, .ref y), (1, .ref x)] → W pp l ee (headSpec wsX1_isSame ({ frames := 4, cells := 0, slots := 0, locals := 87 } : Room)).room s m ([.ref y, .ref x] : List Value).toArray below meth c s.heap [] 0 0 (MQ below (vp_Si (fun r => r = iI 1)) ([.ref y, .ref x] : List Value).toArray s 0 0 (fun _ => False)) (F0 m 85 ls []) := by
            intro   ls hl
            refine lv_aload_n hx hb dX1_isSame_85 rfl (lv_at hl 6 rfl) ?_
            refine lv_iload hx hb dX1_isSame_86 (lv_at hl 1 rfl) ?_
            refine zc_i (va_runV (As := [.int (iI (p : Int))]) (rest := []) ⟨hx, hb, hml, hown, hts⟩ (c_X0_prideOf l G x a B σ p hI (by omega)) (cwV 1 hts gX1_isSame_X0_prideOf rfl rfl rfl (by decide +kernel) ⟨Nat.le_of_ble_eq_true rfl, Nat.le_of_ble_eq_true rfl⟩) (preVX hK (va_Pl (va_Pl hP))) rfl rfl hl.1 rfl (lv_room (Nat.le_of_ble_eq_true rfl)) dX1_isSame_88 ⟨Nat.le_of_ble_eq_true rfl, Nat.le_of_ble_eq_true rfl⟩) ?_
            have f_60 := hI.r0 p
            refine lv_aload_n hx hb dX1_isSame_91 rfl (lv_at hl 5 rfl) ?_
            refine u_get (v := .ref P) hx hb hts hin0 hown hK (va_Pr (va_Pl hP)) 0 rfl 0 (by decide) w_0 rfl rfl dX1_isSame_92 ?_
            refine lv_iload hx hb dX1_isSame_95 (lv_at hl 1 rfl) ?_
            refine u_aalP hx hb hK (va_Pr (va_Pl hP)) (k := p) (show p < σ.1 0 from by omega) (show σ.1 0 < 2147483648 from by omega) dX1_isSame_97 ?_
            refine lv_iconst (v := iI 0) hx hb dX1_isSame_98 rfl ?_
            refine u_ildP hx hb hK (va_Pr (va_Pl hP)) (k := p) (i := 0) (v := iI (σ.2 0 p)) (show p < σ.1 0 from by omega) (by decide) rfl dX1_isSame_99 ?_
            have f_61 := hI.r0 p
            refine z_icmp_ne (tgt := 135) hx hb dX1_isSame_100 (by decide) (by omega) (by omega) (fun c_62 => ?_) (fun c_62 => ?_)
            · exfalso; omega
            ·
              refine lv_aload_n hx hb dX1_isSame_103 rfl (lv_at hl 6 rfl) ?_
              refine lv_iload hx hb dX1_isSame_104 (lv_at hl 1 rfl) ?_
              refine zc_i (va_runV (As := [.int (iI (p : Int))]) (rest := []) ⟨hx, hb, hml, hown, hts⟩ (c_X0_borneBy l G x a B σ p hI (by omega)) (cwV 1 hts gX1_isSame_X0_borneBy rfl rfl rfl (by decide +kernel) ⟨Nat.le_of_ble_eq_true rfl, Nat.le_of_ble_eq_true rfl⟩) (preVX hK (va_Pl (va_Pl hP))) rfl rfl hl.1 rfl (lv_room (Nat.le_of_ble_eq_true rfl)) dX1_isSame_106 ⟨Nat.le_of_ble_eq_true rfl, Nat.le_of_ble_eq_true rfl⟩) ?_
              have f_63 := bor_bd hI (p : Int)
              refine lv_aload_n hx hb dX1_isSame_109 rfl (lv_at hl 5 rfl) ?_
              refine lv_iconst (v := iI (-1)) hx hb dX1_isSame_110 rfl ?_
              refine lv_iload hx hb dX1_isSame_111 (lv_at hl 1 rfl) ?_
              refine zc_i (va_runV (As := [.int (iI (-1)), .int (iI (p : Int))]) (rest := [.int (iI (bor σ (p : Int)))]) ⟨hx, hb, hml, hown, hts⟩ (c_done_b l G y P S rp rs B σ (p : Int) hI (by omega)) (cwV 2 hts gX1_isSame_X1_done rfl rfl rfl (by decide +kernel) ⟨Nat.le_of_ble_eq_true rfl, Nat.le_of_ble_eq_true rfl⟩) (preVU hK (va_Pr (va_Pl hP))) rfl rfl hl.1 rfl (lv_room (Nat.le_of_ble_eq_true rfl)) dX1_isSame_113 ⟨Nat.le_of_ble_eq_true rfl, Nat.le_of_ble_eq_true rfl⟩) ?_
              have f_64 := bor_bd hI (p : Int)
              refine z_icmp_ne (tgt := 135) hx hb dX1_isSame_116 (by decide) (by omega) (by omega) (fun c_65 => ?_) (fun c_65 => ?_)
              · exfalso; omega
              ·
                refine lv_aload_n hx hb dX1_isSame_119 rfl (lv_at hl 6 rfl) ?_
                refine lv_iload hx hb dX1_isSame_120 (lv_at hl 1 rfl) ?_
                refine zc_i (va_runV (As := [.int (iI (p : Int))]) (rest := []) ⟨hx, hb, hml, hown, hts⟩ (c_X0_owedBy l G x a B σ p hI (by omega)) (cwV 1 hts gX1_isSame_X0_owedBy rfl rfl rfl (by decide +kernel) ⟨Nat.le_of_ble_eq_true rfl, Nat.le_of_ble_eq_true rfl⟩) (preVX hK (va_Pl (va_Pl hP))) rfl rfl hl.1 rfl (lv_room (Nat.le_of_ble_eq_true rfl)) dX1_isSame_122 ⟨Nat.le_of_ble_eq_true rfl, Nat.le_of_ble_eq_true rfl⟩) ?_
                have f_66 := owe_bd hI (p : Int)
                refine lv_aload_n hx hb dX1_isSame_125 rfl (lv_at hl 5 rfl) ?_
                refine lv_iload hx hb dX1_isSame_126 (lv_at hl 1 rfl) ?_
                refine lv_iconst (v := iI (-1)) hx hb dX1_isSame_128 rfl ?_
                refine zc_i (va_runV (As := [.int (iI (p : Int)), .int (iI (-1))]) (rest := [.int (iI (owe σ (p : Int)))]) ⟨hx, hb, hml, hown, hts⟩ (c_done_o l G y P S rp rs B σ (p : Int) hI (by omega)) (cwV 2 hts gX1_isSame_X1_done rfl rfl rfl (by decide +kernel) ⟨Nat.le_of_ble_eq_true rfl, Nat.le_of_ble_eq_true rfl⟩) (preVU hK (va_Pr (va_Pl hP))) rfl rfl hl.1 rfl (lv_room (Nat.le_of_ble_eq_true rfl)) dX1_isSame_129 ⟨Nat.le_of_ble_eq_true rfl, Nat.le_of_ble_eq_true rfl⟩) ?_
                have f_67 := owe_bd hI (p : Int)
                refine z_icmp_eq (tgt := 137) hx hb dX1_isSame_132 (by decide) (by omega) (by omega) (fun c_68 => ?_) (fun c_68 => ?_)
                ·
                  refine lv_iconst (v := iI 0) hx hb dX1_isSame_137 rfl ?_
                  refine lv_istore (lv' := [(7, .int (iI 0)), (2, .int (iI (s1 + (σ.2 1 p)))), (6, .int (iI (p : Int))), (5, .int (iI 0)), (4, .int (iI (-1))), (3, .int (iI s3)), (0, .ref y), (1, .ref x)]) hx hb dX1_isSame_138 hl (by decide) rfl (fun ls hl => ?_)
                  have LP140 : ∀ (r140 : Nat) (o : Nat), o ≤ σ.1 0 → σ.1 0 - o < r140 → ∀ (ls : Array Slot), lv_has ls 9 [(7, .int (iI (o : Int))), (2, .int (iI (s1 + (σ.2 1 p)))), (6, .int (iI (p : Int))), (5, .int (iI 0)), (4, .int (iI (-1))), (3, .int (iI s3)), (0, .ref y), (1, .ref x)] → W pp l ee (headSpec wsX1_isSame ({ frames := 4, cells := 0, slots := 0, locals := 87 } : Room)).room s m ([.ref y, .ref x] : List Value).toArray below meth c s.heap [] 0 0 (MQ below (vp_Si (fun r => r = iI 1)) ([.ref y, .ref x] : List Value).toArray s 0 0 (fun _ => False)) (F0 m 140 ls []) := by
                    intro r140
                    induction r140 with
                    | zero => intro o hv140_0 hv140_1; exfalso; omega
                    | succ r140 ih140 =>
                      intro o hv140_0 hv140_1 ls hl
                      refine lv_iload hx hb dX1_isSame_140 (lv_at hl 0 rfl) ?_
                      refine lv_aload_n hx hb dX1_isSame_142 rfl (lv_at hl 6 rfl) ?_
                      refine u_get (v := .ref P) hx hb hts hin0 hown hK (va_Pr (va_Pl hP)) 0 rfl 0 (by decide) w_0 rfl rfl dX1_isSame_143 ?_
                      refine u_lenP hx hb hK (va_Pr (va_Pl hP)) dX1_isSame_146 ?_
                      refine z_icmp_ge (tgt := 186) hx hb dX1_isSame_147 (by decide) (by omega) (by omega) (fun c_69 => ?_) (fun c_69 => ?_)
                      ·
                        refine lv_iinc (v := iI ((p + 1 : Nat) : Int)) (lv' := [(6, .int (iI ((p + 1 : Nat) : Int))), (7, .int (iI (o : Int))), (2, .int (iI (s1 + (σ.2 1 p)))), (5, .int (iI 0)), (4, .int (iI (-1))), (3, .int (iI s3)), (0, .ref y), (1, .ref x)]) hx hb dX1_isSame_186 hl (k := 2) rfl ((iI_add _ _).trans (congrArg iI (by omega))) (by decide) rfl (fun ls hl => ?_)
                        refine lv_goto (tgt := 13) hx hb dX1_isSame_189 (by decide) ?_
                        exact ih13 (p + 1) (s1 + (σ.2 1 p)) s3 (by omega) (by omega) (by rw [zs_s, ← hv13_2]; (try dsimp only); split <;> omega) (by assumption) ls (lv_sub hl [0, 3, 4, 5, 2, 6, 7] rfl)
                      ·
                        refine lv_aload_n hx hb dX1_isSame_150 rfl (lv_at hl 7 rfl) ?_
                        refine lv_iload hx hb dX1_isSame_151 (lv_at hl 2 rfl) ?_
                        refine lv_iload hx hb dX1_isSame_153 (lv_at hl 0 rfl) ?_
                        refine zc_i (va_runV (As := [.int (iI (p : Int)), .int (iI (o : Int))]) (rest := []) ⟨hx, hb, hml, hown, hts⟩ (c_X0_balance l G x a B σ p o hI (by omega) (by omega)) (cwV 2 hts gX1_isSame_X0_balance rfl rfl rfl (by decide +kernel) ⟨Nat.le_of_ble_eq_true rfl, Nat.le_of_ble_eq_true rfl⟩) (preVX hK (va_Pl (va_Pl hP))) rfl rfl hl.1 rfl (lv_room (Nat.le_of_ble_eq_true rfl)) dX1_isSame_155 ⟨Nat.le_of_ble_eq_true rfl, Nat.le_of_ble_eq_true rfl⟩) ?_
                        refine lv_aload_n hx hb dX1_isSame_158 rfl (lv_at hl 6 rfl) ?_
                        refine lv_iload hx hb dX1_isSame_159 (lv_at hl 2 rfl) ?_
                        refine lv_iload hx hb dX1_isSame_161 (lv_at hl 0 rfl) ?_
                        refine zc_i (va_runV (As := [.int (iI (p : Int)), .int (iI (o : Int))]) (rest := [.int (iI (btw σ (p : Int) (o : Int) - btw σ (o : Int) (p : Int)))]) ⟨hx, hb, hml, hown, hts⟩ (c_done_w l G y P S rp rs B σ (p : Int) (o : Int) hI (by omega) (by omega)) (cwV 2 hts gX1_isSame_X1_done rfl rfl rfl (by decide +kernel) ⟨Nat.le_of_ble_eq_true rfl, Nat.le_of_ble_eq_true rfl⟩) (preVU hK (va_Pr (va_Pl hP))) rfl rfl hl.1 rfl (lv_room (Nat.le_of_ble_eq_true rfl)) dX1_isSame_163 ⟨Nat.le_of_ble_eq_true rfl, Nat.le_of_ble_eq_true rfl⟩) ?_
                        have f_70 := btw_bd hI (p : Int) (o : Int)
                        refine lv_aload_n hx hb dX1_isSame_166 rfl (lv_at hl 6 rfl) ?_
                        refine lv_iload hx hb dX1_isSame_167 (lv_at hl 0 rfl) ?_
                        refine lv_iload hx hb dX1_isSame_169 (lv_at hl 2 rfl) ?_
                        refine zc_i (va_runV (As := [.int (iI (o : Int)), .int (iI (p : Int))]) (rest := [.int (iI (btw σ (p : Int) (o : Int))), .int (iI (btw σ (p : Int) (o : Int) - btw σ (o : Int) (p : Int)))]) ⟨hx, hb, hml, hown, hts⟩ (c_done_w l G y P S rp rs B σ (o : Int) (p : Int) hI (by omega) (by omega)) (cwV 2 hts gX1_isSame_X1_done rfl rfl rfl (by decide +kernel) ⟨Nat.le_of_ble_eq_true rfl, Nat.le_of_ble_eq_true rfl⟩) (preVU hK (va_Pr (va_Pl hP))) rfl rfl hl.1 rfl (lv_room (Nat.le_of_ble_eq_true rfl)) dX1_isSame_171 ⟨Nat.le_of_ble_eq_true rfl, Nat.le_of_ble_eq_true rfl⟩) ?_
                        have f_71 := btw_bd hI (o : Int) (p : Int)
                        refine z_isub hx hb dX1_isSame_174 ?_
                        refine z_icmp_eq (tgt := 180) hx hb dX1_isSame_175 (by decide) (by omega) (by omega) (fun c_72 => ?_) (fun c_72 => ?_)
                        ·
                          refine lv_iinc (v := iI ((o + 1 : Nat) : Int)) (lv' := [(7, .int (iI ((o + 1 : Nat) : Int))), (2, .int (iI (s1 + (σ.2 1 p)))), (6, .int (iI (p : Int))), (5, .int (iI 0)), (4, .int (iI (-1))), (3, .int (iI s3)), (0, .ref y), (1, .ref x)]) hx hb dX1_isSame_180 hl (k := 0) rfl ((iI_add _ _).trans (congrArg iI (by omega))) (by decide) rfl (fun ls hl => ?_)
                          refine lv_goto (tgt := 140) hx hb dX1_isSame_183 (by decide) ?_
                          exact ih140 (o + 1)  (by omega) (by omega) ls (lv_sub hl [0, 1, 2, 3, 4, 5, 6, 7] rfl)
                        · exfalso; omega
                  exact LP140 (σ.1 0 - 0 + 1) 0  (by omega) (by omega) ls (lv_sub hl [0, 1, 2, 3, 4, 5, 6, 7] rfl)
                · exfalso; omega
          refine lv_aload_n hx hb dX1_isSame_58 rfl (lv_at hl 6 rfl) ?_
          refine lv_iload hx hb dX1_isSame_59 (lv_at hl 1 rfl) ?_
          refine zc_i (va_runV (As := [.int (iI (p : Int))]) (rest := []) ⟨hx, hb, hml, hown, hts⟩ (c_X0_isInHall l G x a B σ p hI (by omega)) (cwV 1 hts gX1_isSame_X0_isInHall rfl rfl rfl (by decide +kernel) ⟨Nat.le_of_ble_eq_true rfl, Nat.le_of_ble_eq_true rfl⟩) (preVX hK (va_Pl (va_Pl hP))) rfl rfl hl.1 rfl (lv_room (Nat.le_of_ble_eq_true rfl)) dX1_isSame_61 ⟨Nat.le_of_ble_eq_true rfl, Nat.le_of_ble_eq_true rfl⟩) ?_
          have f_73 := hI.r1 p
          refine lv_aload_n hx hb dX1_isSame_64 rfl (lv_at hl 5 rfl) ?_
          refine u_get (v := .ref P) hx hb hts hin0 hown hK (va_Pr (va_Pl hP)) 0 rfl 0 (by decide) w_0 rfl rfl dX1_isSame_65 ?_
          refine lv_iload hx hb dX1_isSame_68 (lv_at hl 1 rfl) ?_
          refine u_aalP hx hb hK (va_Pr (va_Pl hP)) (k := p) (show p < σ.1 0 from by omega) (show σ.1 0 < 2147483648 from by omega) dX1_isSame_70 ?_
          refine lv_iconst (v := iI 1) hx hb dX1_isSame_71 rfl ?_
          refine u_ildP hx hb hK (va_Pr (va_Pl hP)) (k := p) (i := 1) (v := iI (σ.2 1 p)) (show p < σ.1 0 from by omega) (by decide) rfl dX1_isSame_72 ?_
          have f_74 := hI.r1 p
          refine lv_iconst (v := iI 1) hx hb dX1_isSame_73 rfl ?_
          refine z_icmp_ne (tgt := 81) hx hb dX1_isSame_74 (by decide) (by omega) (by omega) (fun c_75 => ?_) (fun c_75 => ?_)
          ·
            refine lv_iconst (v := iI 0) hx hb dX1_isSame_81 rfl ?_
            refine z_icmp_ne (tgt := 135) hx hb dX1_isSame_82 (by decide) (by omega) (by omega) (fun c_76 => ?_) (fun c_76 => ?_)
            · exfalso; omega
            ·
              exact JN85   ls (lv_sub hl [0, 1, 2, 3, 4, 5, 6] rfl)
          ·
            refine lv_iconst (v := iI 1) hx hb dX1_isSame_77 rfl ?_
            refine lv_goto (tgt := 82) hx hb dX1_isSame_78 (by decide) ?_
            refine z_icmp_ne (tgt := 135) hx hb dX1_isSame_82 (by decide) (by omega) (by omega) (fun c_77 => ?_) (fun c_77 => ?_)
            · exfalso; omega
            ·
              exact JN85   ls (lv_sub hl [0, 1, 2, 3, 4, 5, 6] rfl)
        refine lv_iload_n hx hb dX1_isSame_35 rfl (lv_at hl 4 rfl) ?_
        refine z_if_lt (tgt := 55) hx hb dX1_isSame_36 (by decide) (by omega) (fun c_78 => ?_) (fun c_78 => ?_)
        ·
          refine lv_iload hx hb dX1_isSame_55 (lv_at hl 1 rfl) ?_
          refine lv_istore_n (lv' := [(3, .int (iI (p : Int))), (2, .int (iI (s1 + (σ.2 1 p)))), (6, .int (iI (p : Int))), (5, .int (iI 0)), (4, .int (iI (-1))), (0, .ref y), (1, .ref x)]) hx hb dX1_isSame_57 rfl hl (by decide) rfl (fun ls hl => ?_)
          exact JN58 (p : Int) (by rw [arg_s, ← hv13_3]; (try dsimp only); simp only [true_and]; (try rw [show ((s2.toNat : Nat) : Int) = s2 from by omega]); split <;> omega) ls (lv_sub hl [1, 2, 3, 4, 0, 5, 6] rfl)
        ·
          refine lv_aload_n hx hb dX1_isSame_39 rfl (lv_at hl 5 rfl) ?_
          refine lv_iconst (v := iI (-1)) hx hb dX1_isSame_40 rfl ?_
          refine lv_iload hx hb dX1_isSame_41 (lv_at hl 1 rfl) ?_
          refine zc_i (va_runV (As := [.int (iI (-1)), .int (iI (p : Int))]) (rest := []) ⟨hx, hb, hml, hown, hts⟩ (c_done_b l G y P S rp rs B σ (p : Int) hI (by omega)) (cwV 2 hts gX1_isSame_X1_done rfl rfl rfl (by decide +kernel) ⟨Nat.le_of_ble_eq_true rfl, Nat.le_of_ble_eq_true rfl⟩) (preVU hK (va_Pr (va_Pl hP))) rfl rfl hl.1 rfl (lv_room (Nat.le_of_ble_eq_true rfl)) dX1_isSame_43 ⟨Nat.le_of_ble_eq_true rfl, Nat.le_of_ble_eq_true rfl⟩) ?_
          have f_79 := bor_bd hI (p : Int)
          refine lv_aload_n hx hb dX1_isSame_46 rfl (lv_at hl 5 rfl) ?_
          refine lv_iconst (v := iI (-1)) hx hb dX1_isSame_47 rfl ?_
          refine lv_iload_n hx hb dX1_isSame_48 rfl (lv_at hl 4 rfl) ?_
          refine zc_i (va_runV (As := [.int (iI (-1)), .int (iI s2)]) (rest := [.int (iI (bor σ (p : Int)))]) ⟨hx, hb, hml, hown, hts⟩ (c_done_b l G y P S rp rs B σ s2 hI (by omega)) (cwV 2 hts gX1_isSame_X1_done rfl rfl rfl (by decide +kernel) ⟨Nat.le_of_ble_eq_true rfl, Nat.le_of_ble_eq_true rfl⟩) (preVU hK (va_Pr (va_Pl hP))) rfl rfl hl.1 rfl (lv_room (Nat.le_of_ble_eq_true rfl)) dX1_isSame_49 ⟨Nat.le_of_ble_eq_true rfl, Nat.le_of_ble_eq_true rfl⟩) ?_
          have f_80 := bor_bd hI s2
          refine z_icmp_le (tgt := 58) hx hb dX1_isSame_52 (by decide) (by omega) (by omega) (fun c_81 => ?_) (fun c_81 => ?_)
          ·
            exact JN58 s2 (by rw [arg_s, ← hv13_3]; (try dsimp only); simp only [true_and]; (try rw [show ((s2.toNat : Nat) : Int) = s2 from by omega]); split <;> omega) ls (lv_sub hl [0, 1, 2, 3, 4, 5, 6] rfl)
          ·
            refine lv_iload hx hb dX1_isSame_55 (lv_at hl 1 rfl) ?_
            refine lv_istore_n (lv' := [(3, .int (iI (p : Int))), (2, .int (iI (s1 + (σ.2 1 p)))), (6, .int (iI (p : Int))), (5, .int (iI 0)), (4, .int (iI (-1))), (0, .ref y), (1, .ref x)]) hx hb dX1_isSame_57 rfl hl (by decide) rfl (fun ls hl => ?_)
            exact JN58 (p : Int) (by rw [arg_s, ← hv13_3]; (try dsimp only); simp only [true_and]; (try rw [show ((s2.toNat : Nat) : Int) = s2 from by omega]); split <;> omega) ls (lv_sub hl [1, 2, 3, 4, 0, 5, 6] rfl)
  exact LP13 (σ.1 0 - 0 + 1) 0 0 (-1) (by omega) (by omega) (by rfl) (by rfl) ls (lv_sub hl [0, 1, 2, 3, 4, 5, 6] rfl)
