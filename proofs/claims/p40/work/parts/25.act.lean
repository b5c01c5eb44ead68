/-! SOMETHING DONE TO BOTH, and told alike. -/
set_option maxHeartbeats 8000000 in
set_option maxRecDepth 100000 in
theorem c_L_act (l : Launch) (hfl : l.stackTraces = false) (G : zG) (x : Nat) (a : Nat → Nat) (y P S : Nat) (rp rs : Nat → Nat) (sz : Nat) (B : Nat) (σ : zS) (z : Int32) (hJ : zJ B σ) (hB : B + 60 ≤ 100000) : Met l yL_act wsL_act ({ frames := 8, cells := 2, slots := 27, locals := 134 } : Room) (va_Pc [.ref x, .ref y, .int z] (wJ G x a y P S rp rs σ sz)) (va_Qi (fun r (u : zU) => r = iI 1 ∧ zJ (B + 60) u.1 ∧ σ.1 0 ≤ u.1.1 0 ∧ min 2 (σ.1 0 + 1) ≤ u.1.1 0) (fun u t => va_P G.1 vwCl (jU G x a y u) t.heap ∧ va_D (va_A (xW G x a σ ++ uW G y P S rp rs σ) sz) (jU G x a y u)) (va_A (xW G x a σ ++ uW G y P S rp rs σ) sz)) 2 27 (va_A (xW G x a σ ++ uW G y P S rp rs σ) sz) := by
  refine va_MetW (cc := cL_act) (maxL := 13) (ret := (some .boolean)) (hh := [(426, 467, 592, 72), (468, 517, 592, 72), (518, 591, 592, 72)]) (by decide) rfl ?_
  intro pp ee s m args below meth c s₁ B9 hml hv
  obtain ⟨rfl, hsz, hP, hK, hD0, hO, hE⟩ := hv
  subst hsz
  have hx := B9.exec
  have hb := B9.bytes
  have hr := B9.returns
  have hts := atoms_spec (ws := wsL_act) B9.pre
  have hown : s.vm.findClass RL = some m.cls := findClass_of_methodNamed B9.named
  have hlocks := B9.notSynchronized
  have htab : c.exceptionTable.toList = tableOf [(426, 467, 592, 72), (468, 517, 592, 72), (518, 591, 592, 72)] := vx_table (x := yL_act) B9 (hts (.codeWith yL_act cL_act 13 (some .boolean) [(426, 467, 592, 72), (468, 517, 592, 72), (518, 591, 592, 72)]) List.mem_cons_self)
  have hin0 : ∀ w ∈ wsX10, w ∈ wsL_act := by decide +kernel
  have w_0 := hts (.fieldLink RL 9 "ApologyLedgerLaw$Sim" "persons" "[[I") (by decide +kernel)
  have w_1 := hts (.fieldLink RL 15 "ApologyLedgerLaw$Sim" "slights" "[[I") (by decide +kernel)
  have w_2 := hts (.arrayClass .int) (by decide +kernel)
  have w_3 := hts (.classLink RL 72 zISE) (by decide +kernel)
  have hD : va_D (va_A (xW G x a σ ++ uW G y P S rp rs σ) s.heap.size) (xW G x a σ ++ uW G y P S rp rs σ) := hD0.self
  have hA : ∀ q : Nat, s.heap.size ≤ q → va_A (xW G x a σ ++ uW G y P S rp rs σ) s.heap.size q := a_in
  have hS : va_S (va_A (xW G x a σ ++ uW G y P S rp rs σ) s.heap.size) s.heap s.heap [] := va_S.rf
  have hP : va_P G.1 vwCl (xW G x a σ ++ uW G y P S rp rs σ ++ []) s.heap := by rw [List.append_nil]; exact hP
  have hD : va_D (va_A (xW G x a σ ++ uW G y P S rp rs σ) s.heap.size) (xW G x a σ ++ uW G y P S rp rs σ ++ []) := by rw [List.append_nil]; exact hD
  have hI := hJ.1
  have hIn := hI.n
  have hIb := hI.b
  have hl := lv_entry ([.ref x, .ref y, .int z]) (n := 13) (Nat.le_of_ble_eq_true rfl)
  rw [lg_entry_eq]
  generalize (lg_sl ([.ref x, .ref y, .int z]) ++ List.replicate (13 - (lg_sl ([.ref x, .ref y, .int z])).length) Slot.unset).toArray = ls at hl ⊢
  have hl : lv_has ls 13 [(0, .ref x), (1, .ref y), (2, .int z)] := hl
  refine lv_aload_n hx hb dL_act_0 rfl (lv_at hl 1 rfl) ?_
  refine u_get (v := .ref P) hx hb hts hin0 hown hK (va_Pr (va_Pl hP)) 0 rfl 0 (by decide) w_0 rfl rfl dL_act_1 ?_
  refine u_lenP hx hb hK (va_Pr (va_Pl hP)) dL_act_4 ?_
  refine lv_istore_n (lv' := [(3, .int (iI (σ.1 0 : Nat))), (0, .ref x), (1, .ref y), (2, .int z)]) hx hb dL_act_5 rfl hl (by decide) rfl (fun ls hl => ?_)
  refine lv_aload_n hx hb dL_act_6 rfl (lv_at hl 2 rfl) ?_
  refine u_get (v := .ref S) hx hb hts hin0 hown hK (va_Pr (va_Pl hP)) 0 rfl 1 (by decide) w_1 rfl rfl dL_act_7 ?_
  refine u_lenS hx hb hK (va_Pr (va_Pl hP)) dL_act_10 ?_
  refine lv_istore (lv' := [(4, .int (iI (σ.1 1 : Nat))), (3, .int (iI (σ.1 0 : Nat))), (0, .ref x), (1, .ref y), (2, .int z)]) hx hb dL_act_11 hl (by decide) rfl (fun ls hl => ?_)
  refine lv_iload_n hx hb dL_act_13 rfl (lv_at hl 4 rfl) ?_
  refine lv_bipush (v := iI 16) hx hb dL_act_14 (by decide) ?_
  refine zc_i (va_runS (As := [.int z, .int (iI 16)]) (rest := []) ⟨hx, hb, hml, hown, hts⟩ (c_L_below l z 16 (by omega)) (va_cwS 2 hts gL_act_L_below rfl rfl rfl (by decide +kernel) ⟨Nat.le_of_ble_eq_true rfl, Nat.le_of_ble_eq_true rfl⟩) preS0 rfl rfl hl.1 rfl (lv_room (Nat.le_of_ble_eq_true rfl)) dL_act_16 ⟨Nat.le_of_ble_eq_true rfl, Nat.le_of_ble_eq_true rfl⟩) ?_
  have f_1 := bel_bd z 16 (by omega)
  refine lv_istore (lv' := [(5, .int (iI (bel z 16))), (4, .int (iI (σ.1 1 : Nat))), (3, .int (iI (σ.1 0 : Nat))), (0, .ref x), (1, .ref y), (2, .int z)]) hx hb dL_act_19 hl (by decide) rfl (fun ls hl => ?_)
  refine lv_iload_n hx hb dL_act_21 rfl (lv_at hl 2 rfl) ?_
  refine lv_iconst (v := iI 2) hx hb dL_act_22 rfl ?_
  refine z_icmp_lt (tgt := 31) hx hb dL_act_23 (by decide) (by omega) (by omega) (fun c_2 => ?_) (fun c_2 => ?_)
  ·
    refine lv_iload_n hx hb dL_act_31 rfl (lv_at hl 2 rfl) ?_
    refine lv_bipush (v := iI 6) hx hb dL_act_32 (by decide) ?_
    refine z_icmp_ne (tgt := 39) hx hb dL_act_34 (by decide) (by omega) (by omega) (fun c_3 => ?_) (fun c_3 => ?_)
    ·
      refine lv_iload_n hx hb dL_act_39 rfl (lv_at hl 5 rfl) ?_
      refine lv_iconst (v := iI 4) hx hb dL_act_40 rfl ?_
      refine lv_ishr hx hb dL_act_41 ?_
      refine lv_bipush (v := iI 10) hx hb dL_act_42 (by decide) ?_
      refine zc_i (va_runS (As := [.int (z >>> ((iI 4) &&& 31)), .int (iI 10)]) (rest := []) ⟨hx, hb, hml, hown, hts⟩ (c_L_below l (z >>> ((iI 4) &&& 31)) 10 (by omega)) (va_cwS 2 hts gL_act_L_below rfl rfl rfl (by decide +kernel) ⟨Nat.le_of_ble_eq_true rfl, Nat.le_of_ble_eq_true rfl⟩) preS0 rfl rfl hl.1 rfl (lv_room (Nat.le_of_ble_eq_true rfl)) dL_act_44 ⟨Nat.le_of_ble_eq_true rfl, Nat.le_of_ble_eq_true rfl⟩) ?_
      have f_4 := bel_bd (z >>> ((iI 4) &&& 31)) 10 (by omega)
      refine lv_istore (lv' := [(6, .int (iI (bel (z >>> ((iI 4) &&& 31)) 10))), (5, .int (iI (bel z 16))), (4, .int (iI (σ.1 1 : Nat))), (3, .int (iI (σ.1 0 : Nat))), (0, .ref x), (1, .ref y), (2, .int z)]) hx hb dL_act_47 hl (by decide) rfl (fun ls hl => ?_)
      refine lv_aload_n hx hb dL_act_49 rfl (lv_at hl 5 rfl) ?_
      refine lv_aload_n hx hb dL_act_50 rfl (lv_at hl 5 rfl) ?_
      refine u_get (v := .ref P) hx hb hts hin0 hown hK (va_Pr (va_Pl hP)) 0 rfl 0 (by decide) w_0 rfl rfl dL_act_51 ?_
      refine lv_iconst (v := iI 2) hx hb dL_act_54 rfl ?_
      refine z_newi (N := 2) hx hb w_2 hK hP hD hS hA (by decide) (Nat.le_of_ble_eq_true rfl) (Nat.le_of_ble_eq_true rfl) dL_act_55 (fun q_5 H hP hD hS => ?_)
      rw [List.append_nil] at hP hD
      have hP : va_P G.1 vwCl (xW G x a σ ++ uW G y P S rp rs σ ++ [(q_5, .inl (G.2.1, 2, .inl (fun _ => 0)))]) H := hP
      have hD : va_D (va_A (xW G x a σ ++ uW G y P S rp rs σ) s.heap.size) (xW G x a σ ++ uW G y P S rp rs σ ++ [(q_5, .inl (G.2.1, 2, .inl (fun _ => 0)))]) := hD
      refine lv_dup hx hb dL_act_57 rfl ?_
      refine lv_iconst (v := iI 0) hx hb dL_act_58 rfl ?_
      refine lv_iload hx hb dL_act_59 (lv_at hl 0 rfl) ?_
      refine j_istN hx hb hK (ws := xW G x a σ ++ uW G y P S rp rs σ) hP hD hS (i := 0) (by decide) (by decide) dL_act_61 (fun H locs hP hD hS => ?_)
      refine lv_dup hx hb dL_act_62 rfl ?_
      refine lv_iconst (v := iI 1) hx hb dL_act_63 rfl ?_
      refine lv_iconst (v := iI 0) hx hb dL_act_64 rfl ?_
      refine j_istN hx hb hK (ws := xW G x a σ ++ uW G y P S rp rs σ) hP hD hS (i := 1) (by decide) (by decide) dL_act_65 (fun H locs hP hD hS => ?_)
      refine va_callr (va_runS (As := [.ref P, .ref q_5]) (rest := [.ref y]) ⟨hx, hb, hml, hown, hts⟩ (c_X1_with l G (xW G x a σ ++ uW G y P S rp rs σ ++ [(q_5, .inl (G.2.1, 2, .inl (upd (upd (fun _ => 0) 0 (iI (bel (z >>> ((iI 4) &&& 31)) 10))) 1 (iI 0))))]) P q_5 (σ.1 0) rp _ (by omega) 10 rfl (fun k hk => ⟨9 + (3 + k), 2, pf σ k, app_mid (uW_p hk)⟩) ⟨_, _, _, app_lst (k := 0) rfl⟩) (va_cwS 2 hts gL_act_X1_with rfl rfl rfl (by decide +kernel) ⟨Nat.le_of_ble_eq_true rfl, Nat.le_of_ble_eq_true rfl⟩) (preWith hK hP hO) rfl rfl hl.1 rfl (lv_room (Nat.le_of_ble_eq_true rfl)) dL_act_66 ⟨Nat.le_of_ble_eq_true rfl, Nat.le_of_ble_eq_true rfl⟩) hS (fun q _ h => hA q (Nat.le_trans hS.1 h)) (fun q h => hA q (Nat.le_trans hS.1 h)) (fun _ ra t H1 locs1 ht _ _ hB hz hkk hS1 => ?_)
      obtain ⟨hN, hra⟩ := hB
      rw [ht] at hN
      have hPo : va_P G.1 vwCl (xW G x a σ ++ uW G y P S rp rs σ ++ [(q_5, .inl (G.2.1, 2, .inl (upd (upd (fun _ => 0) 0 (iI (bel (z >>> ((iI 4) &&& 31)) 10))) 1 (iI 0))))]) H1 := hP.kept fun k q hq => hkk q.1 (hP k q hq).lt (fun h => by have h9 : _ ≤ q.1 := h; have := (hP k q hq).lt; omega)
      have hne : ∀ (k : Nat) (q : Nat × va_E), ((xW G x a σ ++ uW G y P S rp rs σ ++ [(q_5, .inl (G.2.1, 2, .inl (upd (upd (fun _ => 0) 0 (iI (bel (z >>> ((iI 4) &&& 31)) 10))) 1 (iI 0))))]) : va_W)[k]? = some q → q.1 ≠ ra := fun k q hq => by have := (hP k q hq).lt; omega
      have hD := j_addq (e := oR G ra ((σ.1 0) + 1) (sn rp (σ.1 0) q_5)) hD hne (hA ra (Nat.le_trans hS.1 hra))
      have hP := hPo.app hN
      rw [List.append_assoc] at hP hD
      have hP : va_P G.1 vwCl (xW G x a σ ++ uX G y P S rp rs σ (uF P S σ) ++ [(q_5, .inl (G.2.1, 2, .inl (upd (upd (fun _ => 0) 0 (iI (bel (z >>> ((iI 4) &&& 31)) 10))) 1 (iI 0)))), oR G ra ((σ.1 0) + 1) (sn rp (σ.1 0) q_5)]) H1 := hP
      have hD : va_D (va_A (xW G x a σ ++ uW G y P S rp rs σ) s.heap.size) (xW G x a σ ++ uX G y P S rp rs σ (uF P S σ) ++ [(q_5, .inl (G.2.1, 2, .inl (upd (upd (fun _ => 0) 0 (iI (bel (z >>> ((iI 4) &&& 31)) 10))) 1 (iI 0)))), oR G ra ((σ.1 0) + 1) (sn rp (σ.1 0) q_5)]) := hD
      have hS := hS1
      refine u_putq hx hb hts hin0 hown hK hP hD hS 9 rfl 0 (by decide) w_0 rfl rfl (by decide +kernel) (Nat.le_of_ble_eq_true rfl) uX_put dL_act_69 (fun H locs hP hD hS => ?_)
      obtain ⟨hP, hD⟩ := grow_P (τ := σ) (τ' := adp σ (bel (z >>> ((iI 4) &&& 31)) 10)) rfl rfl rfl rfl (fun p hp => adp_pf hp) (adp_pfn hJ) (fun k => adp_sf k) hP hD
      refine lv_aload_n hx hb dL_act_72 rfl (lv_at hl 4 rfl) ?_
      refine lv_iload hx hb dL_act_73 (lv_at hl 0 rfl) ?_
      refine zc_wi (va_runV (As := [.int (iI (bel (z >>> ((iI 4) &&& 31)) 10))]) (rest := []) ⟨hx, hb, hml, hown, hts⟩ (c_X0_addPerson l G x a _ B σ (bel (z >>> ((iI 4) &&& 31)) 10) hI (by omega) (by omega)) (cwV 1 hts gL_act_X0_addPerson rfl rfl rfl (by decide +kernel) ⟨Nat.le_of_ble_eq_true rfl, Nat.le_of_ble_eq_true rfl⟩) (preWX hK (va_Pl (va_Pl hP)) (va_Dl (va_Dl hD))) rfl rfl hl.1 rfl (lv_room (Nat.le_of_ble_eq_true rfl)) dL_act_75 ⟨Nat.le_of_ble_eq_true rfl, Nat.le_of_ble_eq_true rfl⟩) hS (jA_x hD hA hS.1) (fun H locs hP1 hS _ hkk => ?_)
      have hP := jx_keep hP hD hP1 hkk
      have hD := jx_D (σ' := (adp σ (bel (z >>> ((iI 4) &&& 31)) 10))) hD
      have hP : va_P G.1 vwCl (xW G x a (adp σ (bel (z >>> ((iI 4) &&& 31)) 10)) ++ uW G y ra S (sn rp (σ.1 0) q_5) rs (adp σ (bel (z >>> ((iI 4) &&& 31)) 10)) ++ []) H := hP
      have hD : va_D (va_A (xW G x a σ ++ uW G y P S rp rs σ) s.heap.size) (xW G x a (adp σ (bel (z >>> ((iI 4) &&& 31)) 10)) ++ uW G y ra S (sn rp (σ.1 0) q_5) rs (adp σ (bel (z >>> ((iI 4) &&& 31)) 10)) ++ []) := hD
      refine lv_iload_n hx hb dL_act_78 rfl (lv_at hl 3 rfl) ?_
      refine z_icmp_ne (tgt := 86) hx hb dL_act_79 (by decide) (by omega) (by omega) (fun c_6 => ?_) (fun c_6 => ?_)
      · exfalso; omega
      ·
        refine lv_iconst (v := iI 1) hx hb dL_act_82 rfl ?_
        refine lv_goto (tgt := 87) hx hb dL_act_83 (by decide) ?_
        have hc0 : ((adp σ (bel (z >>> ((iI 4) &&& 31)) 10))).1 0 = σ.1 0 + 1 := rfl
        refine W.widen (k := 2) (n := 27) (Nat.le_of_ble_eq_true rfl) (Nat.le_of_ble_eq_true rfl) ?_
        exact W.zret hx hb hr (z_nb (Or.inr rfl)) (fun t ht hW => ⟨⟨_, ((adp σ (bel (z >>> ((iI 4) &&& 31)) 10)), ra, S, (sn rp (σ.1 0) q_5), rs), rfl, ⟨rfl, mono_zJ (adp_zJ hJ (by omega) (by omega)) (by omega) (by omega), by (try dsimp only); rw [hc0]; omega, by (try dsimp only); rw [hc0]; omega⟩, by show va_P _ _ _ t.heap; rw [ht]; exact va_Pl hP, va_Dl hD⟩, hS.F ht⟩) hS.2.2 dL_act_87
    ·
      refine lv_iconst (v := iI 1) hx hb dL_act_37 rfl ?_
      have hc0 : (σ).1 0 = σ.1 0 := rfl
      refine W.widen (k := 2) (n := 27) (Nat.le_of_ble_eq_true rfl) (Nat.le_of_ble_eq_true rfl) ?_
      exact W.zret hx hb hr (z_nb (Or.inr rfl)) (fun t ht hW => ⟨⟨_, (σ, P, S, rp, rs), rfl, ⟨rfl, mono_zJ hJ (by omega) (by omega), by (try dsimp only); rw [hc0]; omega, by (try dsimp only); rw [hc0]; omega⟩, by show va_P _ _ _ t.heap; rw [ht]; exact va_Pl hP, va_Dl hD⟩, hS.F ht⟩) hS.2.2 dL_act_38
  ·
    refine lv_iload hx hb dL_act_26 (lv_at hl 0 rfl) ?_
    refine z_if_ne (tgt := 88) hx hb dL_act_28 (by decide) (by omega) (fun c_7 => ?_) (fun c_7 => ?_)
    ·
      refine lv_iload_n hx hb dL_act_88 rfl (lv_at hl 5 rfl) ?_
      refine lv_iconst (v := iI 4) hx hb dL_act_89 rfl ?_
      refine lv_ishr hx hb dL_act_90 ?_
      refine lv_iload_n hx hb dL_act_91 rfl (lv_at hl 2 rfl) ?_
      refine zc_i (va_runS (As := [.int (z >>> ((iI 4) &&& 31)), .int (iI (σ.1 0 : Nat))]) (rest := []) ⟨hx, hb, hml, hown, hts⟩ (c_L_below l (z >>> ((iI 4) &&& 31)) (σ.1 0 : Nat) (by omega)) (va_cwS 2 hts gL_act_L_below rfl rfl rfl (by decide +kernel) ⟨Nat.le_of_ble_eq_true rfl, Nat.le_of_ble_eq_true rfl⟩) preS0 rfl rfl hl.1 rfl (lv_room (Nat.le_of_ble_eq_true rfl)) dL_act_92 ⟨Nat.le_of_ble_eq_true rfl, Nat.le_of_ble_eq_true rfl⟩) ?_
      have f_8 := bel_bd (z >>> ((iI 4) &&& 31)) (σ.1 0 : Nat) (by omega)
      obtain ⟨i, e_9⟩ : ∃ i : Nat, bel (z >>> ((iI 4) &&& 31)) (σ.1 0 : Nat) = (i : Int) := ⟨(bel (z >>> ((iI 4) &&& 31)) (σ.1 0 : Nat)).toNat, by omega⟩
      refine z_re (v' := iI (i : Int)) (congrArg iI e_9) ?_
      refine lv_istore (lv' := [(6, .int (iI (i : Int))), (5, .int (iI (bel z 16))), (4, .int (iI (σ.1 1 : Nat))), (3, .int (iI (σ.1 0 : Nat))), (0, .ref x), (1, .ref y), (2, .int z)]) hx hb dL_act_95 hl (by decide) rfl (fun ls hl => ?_)
      refine lv_iconst (v := iI 1) hx hb dL_act_97 rfl ?_
      refine lv_iload_n hx hb dL_act_98 rfl (lv_at hl 6 rfl) ?_
      refine lv_bipush (v := iI 6) hx hb dL_act_99 (by decide) ?_
      refine lv_ishr hx hb dL_act_101 ?_
      refine lv_bipush (v := iI 20) hx hb dL_act_102 (by decide) ?_
      refine zc_i (va_runS (As := [.int (z >>> ((iI 6) &&& 31)), .int (iI 20)]) (rest := [.int (iI 1)]) ⟨hx, hb, hml, hown, hts⟩ (c_L_below l (z >>> ((iI 6) &&& 31)) 20 (by omega)) (va_cwS 2 hts gL_act_L_below rfl rfl rfl (by decide +kernel) ⟨Nat.le_of_ble_eq_true rfl, Nat.le_of_ble_eq_true rfl⟩) preS0 rfl rfl hl.1 rfl (lv_room (Nat.le_of_ble_eq_true rfl)) dL_act_104 ⟨Nat.le_of_ble_eq_true rfl, Nat.le_of_ble_eq_true rfl⟩) ?_
      have f_10 := bel_bd (z >>> ((iI 6) &&& 31)) 20 (by omega)
      refine z_iadd hx hb dL_act_107 ?_
      refine lv_istore (lv' := [(7, .int (iI (1 + (bel (z >>> ((iI 6) &&& 31)) 20)))), (6, .int (iI (i : Int))), (5, .int (iI (bel z 16))), (4, .int (iI (σ.1 1 : Nat))), (3, .int (iI (σ.1 0 : Nat))), (0, .ref x), (1, .ref y), (2, .int z)]) hx hb dL_act_108 hl (by decide) rfl (fun ls hl => ?_)
      refine lv_iload hx hb dL_act_110 (lv_at hl 2 rfl) ?_
      refine lv_iconst (v := iI 5) hx hb dL_act_112 rfl ?_
      refine z_icmp_ge (tgt := 207) hx hb dL_act_113 (by decide) (by omega) (by omega) (fun c_11 => ?_) (fun c_11 => ?_)
      ·
        refine lv_iload hx hb dL_act_207 (lv_at hl 2 rfl) ?_
        refine lv_bipush (v := iI 7) hx hb dL_act_209 (by decide) ?_
        refine z_icmp_ge (tgt := 267) hx hb dL_act_211 (by decide) (by omega) (by omega) (fun c_12 => ?_) (fun c_12 => ?_)
        ·
          refine lv_iload hx hb dL_act_267 (lv_at hl 2 rfl) ?_
          refine lv_bipush (v := iI 7) hx hb dL_act_269 (by decide) ?_
          refine z_icmp_ne (tgt := 329) hx hb dL_act_271 (by decide) (by omega) (by omega) (fun c_13 => ?_) (fun c_13 => ?_)
          ·
            refine lv_iload hx hb dL_act_329 (lv_at hl 2 rfl) ?_
            refine lv_bipush (v := iI 12) hx hb dL_act_331 (by decide) ?_
            refine z_icmp_le (tgt := 386) hx hb dL_act_333 (by decide) (by omega) (by omega) (fun c_14 => ?_) (fun c_14 => ?_)
            ·
              refine lv_iload hx hb dL_act_386 (lv_at hl 3 rfl) ?_
              refine z_if_ne (tgt := 393) hx hb dL_act_388 (by decide) (by omega) (fun c_15 => ?_) (fun c_15 => ?_)
              ·
                refine lv_iload_n hx hb dL_act_393 rfl (lv_at hl 7 rfl) ?_
                refine lv_iconst (v := iI 5) hx hb dL_act_394 rfl ?_
                refine lv_ishr hx hb dL_act_395 ?_
                refine lv_iload hx hb dL_act_396 (lv_at hl 3 rfl) ?_
                refine zc_i (va_runS (As := [.int (z >>> ((iI 5) &&& 31)), .int (iI (σ.1 1 : Nat))]) (rest := []) ⟨hx, hb, hml, hown, hts⟩ (c_L_below l (z >>> ((iI 5) &&& 31)) (σ.1 1 : Nat) (by omega)) (va_cwS 2 hts gL_act_L_below rfl rfl rfl (by decide +kernel) ⟨Nat.le_of_ble_eq_true rfl, Nat.le_of_ble_eq_true rfl⟩) preS0 rfl rfl hl.1 rfl (lv_room (Nat.le_of_ble_eq_true rfl)) dL_act_398 ⟨Nat.le_of_ble_eq_true rfl, Nat.le_of_ble_eq_true rfl⟩) ?_
                have f_16 := bel_bd (z >>> ((iI 5) &&& 31)) (σ.1 1 : Nat) (by omega)
                obtain ⟨k, e_17⟩ : ∃ k : Nat, bel (z >>> ((iI 5) &&& 31)) (σ.1 1 : Nat) = (k : Int) := ⟨(bel (z >>> ((iI 5) &&& 31)) (σ.1 1 : Nat)).toNat, by omega⟩
                refine z_re (v' := iI (k : Int)) (congrArg iI e_17) ?_
                refine lv_istore (lv' := [(8, .int (iI (k : Int))), (7, .int (iI (1 + (bel (z >>> ((iI 6) &&& 31)) 20)))), (6, .int (iI (i : Int))), (5, .int (iI (bel z 16))), (4, .int (iI (σ.1 1 : Nat))), (3, .int (iI (σ.1 0 : Nat))), (0, .ref x), (1, .ref y), (2, .int z)]) hx hb dL_act_401 hl (by decide) rfl (fun ls hl => ?_)
                refine lv_aload_n hx hb dL_act_403 rfl (lv_at hl 7 rfl) ?_
                refine u_get (v := .ref S) hx hb hts hin0 hown hK (va_Pr (va_Pl hP)) 0 rfl 1 (by decide) w_1 rfl rfl dL_act_404 ?_
                refine lv_iload hx hb dL_act_407 (lv_at hl 0 rfl) ?_
                refine u_aalS hx hb hK (va_Pr (va_Pl hP)) (k := k) (show k < σ.1 1 from by omega) (show σ.1 1 < 2147483648 from by omega) dL_act_409 ?_
                refine lv_astore (lv' := [(9, .ref (rs k)), (8, .int (iI (k : Int))), (7, .int (iI (1 + (bel (z >>> ((iI 6) &&& 31)) 20)))), (6, .int (iI (i : Int))), (5, .int (iI (bel z 16))), (4, .int (iI (σ.1 1 : Nat))), (3, .int (iI (σ.1 0 : Nat))), (0, .ref x), (1, .ref y), (2, .int z)]) hx hb dL_act_410 hl (by decide) rfl (fun ls hl => ?_)
                refine lv_aload hx hb dL_act_412 (lv_at hl 0 rfl) ?_
                refine lv_iconst (v := iI 3) hx hb dL_act_414 rfl ?_
                refine u_ildS hx hb hK (va_Pr (va_Pl hP)) (k := k) (i := 3) (v := iI (σ.2 5 k)) (show k < σ.1 1 from by omega) (by decide) rfl dL_act_415 ?_
                have f_18 := hI.r5 k
                refine z_if_ne (tgt := 423) hx hb dL_act_416 (by decide) (by omega) (fun c_19 => ?_) (fun c_19 => ?_)
                ·
                  refine lv_iconst (v := iI 0) hx hb dL_act_423 rfl ?_
                  refine lv_istore (lv' := [(10, .int (iI 0)), (9, .ref (rs k)), (8, .int (iI (k : Int))), (7, .int (iI (1 + (bel (z >>> ((iI 6) &&& 31)) 20)))), (6, .int (iI (i : Int))), (5, .int (iI (bel z 16))), (4, .int (iI (σ.1 1 : Nat))), (3, .int (iI (σ.1 0 : Nat))), (0, .ref x), (1, .ref y), (2, .int z)]) hx hb dL_act_424 hl (by decide) rfl (fun ls hl => ?_)
                  refine lv_iload hx hb dL_act_426 (lv_at hl 5 rfl) ?_
                  refine lv_bipush (v := iI 10) hx hb dL_act_428 (by decide) ?_
                  refine z_icmp_ge (tgt := 468) hx hb dL_act_430 (by decide) (by omega) (by omega) (fun c_20 => ?_) (fun c_20 => ?_)
                  ·
                    refine lv_iload hx hb dL_act_468 (lv_at hl 5 rfl) ?_
                    refine lv_bipush (v := iI 12) hx hb dL_act_470 (by decide) ?_
                    refine z_icmp_ge (tgt := 518) hx hb dL_act_472 (by decide) (by omega) (by omega) (fun c_21 => ?_) (fun c_21 => ?_)
                    ·
                      refine lv_iload_n hx hb dL_act_518 rfl (lv_at hl 10 rfl) ?_
                      refine lv_bipush (v := iI 7) hx hb dL_act_519 (by decide) ?_
                      refine lv_ishr hx hb dL_act_521 ?_
                      refine lv_iload hx hb dL_act_522 (lv_at hl 6 rfl) ?_
                      refine zc_i (va_runS (As := [.int (z >>> ((iI 7) &&& 31)), .int (iI (σ.1 1 : Nat))]) (rest := []) ⟨hx, hb, hml, hown, hts⟩ (c_L_below l (z >>> ((iI 7) &&& 31)) (σ.1 1 : Nat) (by omega)) (va_cwS 2 hts gL_act_L_below rfl rfl rfl (by decide +kernel) ⟨Nat.le_of_ble_eq_true rfl, Nat.le_of_ble_eq_true rfl⟩) preS0 rfl rfl hl.1 rfl (lv_room (Nat.le_of_ble_eq_true rfl)) dL_act_524 ⟨Nat.le_of_ble_eq_true rfl, Nat.le_of_ble_eq_true rfl⟩) ?_
                      have f_22 := bel_bd (z >>> ((iI 7) &&& 31)) (σ.1 1 : Nat) (by omega)
                      obtain ⟨o, e_23⟩ : ∃ o : Nat, bel (z >>> ((iI 7) &&& 31)) (σ.1 1 : Nat) = (o : Int) := ⟨(bel (z >>> ((iI 7) &&& 31)) (σ.1 1 : Nat)).toNat, by omega⟩
                      refine z_re (v' := iI (o : Int)) (congrArg iI e_23) ?_
                      refine lv_istore (lv' := [(11, .int (iI (o : Int))), (10, .int (iI 0)), (9, .ref (rs k)), (8, .int (iI (k : Int))), (7, .int (iI (1 + (bel (z >>> ((iI 6) &&& 31)) 20)))), (6, .int (iI (i : Int))), (5, .int (iI (bel z 16))), (4, .int (iI (σ.1 1 : Nat))), (3, .int (iI (σ.1 0 : Nat))), (0, .ref x), (1, .ref y), (2, .int z)]) hx hb dL_act_527 hl (by decide) rfl (fun ls hl => ?_)
                      refine lv_aload_n hx hb dL_act_529 rfl (lv_at hl 10 rfl) ?_
                      refine lv_aload hx hb dL_act_530 (lv_at hl 2 rfl) ?_
                      refine lv_aload_n hx hb dL_act_532 rfl (lv_at hl 10 rfl) ?_
                      refine u_get (v := .ref S) hx hb hts hin0 hown hK (va_Pr (va_Pl hP)) 0 rfl 1 (by decide) w_1 rfl rfl dL_act_533 ?_
                      refine lv_iload hx hb dL_act_536 (lv_at hl 0 rfl) ?_
                      refine u_aalS hx hb hK (va_Pr (va_Pl hP)) (k := o) (show o < σ.1 1 from by omega) (show σ.1 1 < 2147483648 from by omega) dL_act_538 ?_
                      refine zc_i (va_runV (As := [.ref (rs k), .ref (rs o)]) (rest := []) ⟨hx, hb, hml, hown, hts⟩ (c_X1_areOpposite l G y P S rp rs B σ k o hI (by omega) (by omega)) (cwV 2 hts gL_act_X1_areOpposite rfl rfl rfl (by decide +kernel) ⟨Nat.le_of_ble_eq_true rfl, Nat.le_of_ble_eq_true rfl⟩) (preVU hK (va_Pr (va_Pl hP))) rfl rfl hl.1 rfl (lv_room (Nat.le_of_ble_eq_true rfl)) dL_act_539 ⟨Nat.le_of_ble_eq_true rfl, Nat.le_of_ble_eq_true rfl⟩) ?_
                      have f_24 := pq_or σ k o
                      refine lv_istore (lv' := [(10, .int (iI (pq σ k o))), (11, .int (iI (o : Int))), (9, .ref (rs k)), (8, .int (iI (k : Int))), (7, .int (iI (1 + (bel (z >>> ((iI 6) &&& 31)) 20)))), (6, .int (iI (i : Int))), (5, .int (iI (bel z 16))), (4, .int (iI (σ.1 1 : Nat))), (3, .int (iI (σ.1 0 : Nat))), (0, .ref x), (1, .ref y), (2, .int z)]) hx hb dL_act_542 hl (by decide) rfl (fun ls hl => ?_)
                      refine lv_iload hx hb dL_act_544 (lv_at hl 0 rfl) ?_
                      refine z_if_eq (tgt := 565) hx hb dL_act_546 (by decide) (by omega) (fun c_25 => ?_) (fun c_25 => ?_)
                      ·
                        refine lv_iconst (v := iI 0) hx hb dL_act_565 rfl ?_
                        refine lv_istore (lv' := [(12, .int (iI 0)), (10, .int (iI (pq σ k o))), (11, .int (iI (o : Int))), (9, .ref (rs k)), (8, .int (iI (k : Int))), (7, .int (iI (1 + (bel (z >>> ((iI 6) &&& 31)) 20)))), (6, .int (iI (i : Int))), (5, .int (iI (bel z 16))), (4, .int (iI (σ.1 1 : Nat))), (3, .int (iI (σ.1 0 : Nat))), (0, .ref x), (1, .ref y), (2, .int z)]) hx hb dL_act_566 hl (by decide) rfl (fun ls hl => ?_)
                        refine lv_aload_n hx hb dL_act_568 rfl (lv_at hl 10 rfl) ?_
                        refine lv_iload hx hb dL_act_569 (lv_at hl 4 rfl) ?_
                        refine lv_iload hx hb dL_act_571 (lv_at hl 2 rfl) ?_
                        rcases pq_no (σ := σ) (i := k) (o := o) (by omega) with h9 | ⟨h8, h9⟩ | ⟨h8, h9, h7⟩
                        ·
                          refine vx_calli (vx_runV (As := [.int (iI (k : Int)), .int (iI (o : Int))]) (rest := []) ⟨hx, hb, hml, hown, hts⟩ (t3_X0_setOff l hfl G x a s.heap.size B σ k o hI (by omega) (by omega) h9) (cwV 2 hts gL_act_X0_setOff rfl rfl rfl (by decide +kernel) ⟨Nat.le_of_ble_eq_true rfl, Nat.le_of_ble_eq_true rfl⟩) (preTX hK (va_Pl (va_Pl hP)) (hE.narrow (fun q h => a_in q h))) rfl rfl hl.1 rfl (lv_room (Nat.le_of_ble_eq_true rfl)) dL_act_573 ⟨Nat.le_of_ble_eq_true rfl, Nat.le_of_ble_eq_true rfl⟩) hS (fun q _ h => hA q h) (fun q h => hA q h) (fun q _ h => hA q h) (fun E ce q9 u t H locs _ _ _ hE1 hz hk9 hS hce hcv hcl => ?_) (fun r u t H1 locs1 _ _ hf => hf.elim)
                          subst hE1
                          refine vx_catch (name := zISE) hown [⟨426, 467, 592, 72⟩, ⟨468, 517, 592, 72⟩] ⟨518, 591, 592, 72⟩ [] htab (fun z hz => by
                              rcases (by simpa using hz : z = (⟨426, 467, 592, 72⟩ : ExceptionTableEntry) ∨ z = (⟨468, 517, 592, 72⟩ : ExceptionTableEntry)) with h | h <;> subst h <;> exact Or.inl (by decide)) (by decide) (by decide) w_3 (va_tabs rfl rfl (hE.2.2.1 _ (List.mem_of_getElem? (i := 1) rfl))) hce hcv hcl ?_
                          have hP := hP.kept fun k q hq => hk9 q.1 (hP k q hq).lt (fun h => by have h9 : s.heap.size ≤ q.1 := h; have := (hP k q hq).lt; omega)
                          have hP : va_P G.1 vwCl (xW G x a σ ++ uW G y P S rp rs σ ++ []) H := hP
                          have hD : va_D (va_A (xW G x a σ ++ uW G y P S rp rs σ) s.heap.size) (xW G x a σ ++ uW G y P S rp rs σ ++ []) := hD
                          refine lv_astore (lv' := [(11, .ref q9), (12, .int (iI 0)), (10, .int (iI (pq σ k o))), (9, .ref (rs k)), (8, .int (iI (k : Int))), (7, .int (iI (1 + (bel (z >>> ((iI 6) &&& 31)) 20)))), (6, .int (iI (i : Int))), (5, .int (iI (bel z 16))), (4, .int (iI (σ.1 1 : Nat))), (3, .int (iI (σ.1 0 : Nat))), (0, .ref x), (1, .ref y), (2, .int z)]) hx hb dL_act_592 hl (by decide) rfl (fun ls hl => ?_)
                          refine lv_iload hx hb dL_act_594 (lv_at hl 2 rfl) ?_
                          refine z_if_ne (tgt := 603) hx hb dL_act_596 (by decide) (by omega) (fun c_26 => ?_) (fun c_26 => ?_)
                          · exfalso; omega
                          ·
                            refine lv_iconst (v := iI 1) hx hb dL_act_599 rfl ?_
                            refine lv_goto (tgt := 604) hx hb dL_act_600 (by decide) ?_
                            have hc0 : (σ).1 0 = σ.1 0 := rfl
                            refine W.widen (k := 2) (n := 27) (Nat.le_of_ble_eq_true rfl) (Nat.le_of_ble_eq_true rfl) ?_
                            exact W.zret hx hb hr (z_nb (Or.inr rfl)) (fun t ht hW => ⟨⟨_, (σ, P, S, rp, rs), rfl, ⟨rfl, mono_zJ hJ (by omega) (by omega), by (try dsimp only); rw [hc0]; omega, by (try dsimp only); rw [hc0]; omega⟩, by show va_P _ _ _ t.heap; rw [ht]; exact va_Pl hP, va_Dl hD⟩, hS.F ht⟩) hS.2.2 dL_act_604
                        ·
                          refine vx_calli (vx_runV (As := [.int (iI (k : Int)), .int (iI (o : Int))]) (rest := []) ⟨hx, hb, hml, hown, hts⟩ (t4_X0_setOff l hfl G x a s.heap.size B σ k o hI (by omega) (by omega) h8 h9) (cwV 2 hts gL_act_X0_setOff rfl rfl rfl (by decide +kernel) ⟨Nat.le_of_ble_eq_true rfl, Nat.le_of_ble_eq_true rfl⟩) (preTX hK (va_Pl (va_Pl hP)) (hE.narrow (fun q h => a_in q h))) rfl rfl hl.1 rfl (lv_room (Nat.le_of_ble_eq_true rfl)) dL_act_573 ⟨Nat.le_of_ble_eq_true rfl, Nat.le_of_ble_eq_true rfl⟩) hS (fun q _ h => hA q h) (fun q h => hA q h) (fun q _ h => hA q h) (fun E ce q9 u t H locs _ _ _ hE1 hz hk9 hS hce hcv hcl => ?_) (fun r u t H1 locs1 _ _ hf => hf.elim)
                          subst hE1
                          refine vx_catch (name := zISE) hown [⟨426, 467, 592, 72⟩, ⟨468, 517, 592, 72⟩] ⟨518, 591, 592, 72⟩ [] htab (fun z hz => by
                              rcases (by simpa using hz : z = (⟨426, 467, 592, 72⟩ : ExceptionTableEntry) ∨ z = (⟨468, 517, 592, 72⟩ : ExceptionTableEntry)) with h | h <;> subst h <;> exact Or.inl (by decide)) (by decide) (by decide) w_3 (va_tabs rfl rfl (hE.2.2.1 _ (List.mem_of_getElem? (i := 1) rfl))) hce hcv hcl ?_
                          have hP := hP.kept fun k q hq => hk9 q.1 (hP k q hq).lt (fun h => by have h9 : s.heap.size ≤ q.1 := h; have := (hP k q hq).lt; omega)
                          have hP : va_P G.1 vwCl (xW G x a σ ++ uW G y P S rp rs σ ++ []) H := hP
                          have hD : va_D (va_A (xW G x a σ ++ uW G y P S rp rs σ) s.heap.size) (xW G x a σ ++ uW G y P S rp rs σ ++ []) := hD
                          refine lv_astore (lv' := [(11, .ref q9), (12, .int (iI 0)), (10, .int (iI (pq σ k o))), (9, .ref (rs k)), (8, .int (iI (k : Int))), (7, .int (iI (1 + (bel (z >>> ((iI 6) &&& 31)) 20)))), (6, .int (iI (i : Int))), (5, .int (iI (bel z 16))), (4, .int (iI (σ.1 1 : Nat))), (3, .int (iI (σ.1 0 : Nat))), (0, .ref x), (1, .ref y), (2, .int z)]) hx hb dL_act_592 hl (by decide) rfl (fun ls hl => ?_)
                          refine lv_iload hx hb dL_act_594 (lv_at hl 2 rfl) ?_
                          refine z_if_ne (tgt := 603) hx hb dL_act_596 (by decide) (by omega) (fun c_27 => ?_) (fun c_27 => ?_)
                          · exfalso; omega
                          ·
                            refine lv_iconst (v := iI 1) hx hb dL_act_599 rfl ?_
                            refine lv_goto (tgt := 604) hx hb dL_act_600 (by decide) ?_
                            have hc0 : (σ).1 0 = σ.1 0 := rfl
                            refine W.widen (k := 2) (n := 27) (Nat.le_of_ble_eq_true rfl) (Nat.le_of_ble_eq_true rfl) ?_
                            exact W.zret hx hb hr (z_nb (Or.inr rfl)) (fun t ht hW => ⟨⟨_, (σ, P, S, rp, rs), rfl, ⟨rfl, mono_zJ hJ (by omega) (by omega), by (try dsimp only); rw [hc0]; omega, by (try dsimp only); rw [hc0]; omega⟩, by show va_P _ _ _ t.heap; rw [ht]; exact va_Pl hP, va_Dl hD⟩, hS.F ht⟩) hS.2.2 dL_act_604
                        ·
                          refine vx_calli (vx_runV (As := [.int (iI (k : Int)), .int (iI (o : Int))]) (rest := []) ⟨hx, hb, hml, hown, hts⟩ (t5_X0_setOff l hfl G x a s.heap.size B σ k o hI (by omega) (by omega) h8 h9 h7) (cwV 2 hts gL_act_X0_setOff rfl rfl rfl (by decide +kernel) ⟨Nat.le_of_ble_eq_true rfl, Nat.le_of_ble_eq_true rfl⟩) (preTX hK (va_Pl (va_Pl hP)) (hE.narrow (fun q h => a_in q h))) rfl rfl hl.1 rfl (lv_room (Nat.le_of_ble_eq_true rfl)) dL_act_573 ⟨Nat.le_of_ble_eq_true rfl, Nat.le_of_ble_eq_true rfl⟩) hS (fun q _ h => hA q h) (fun q h => hA q h) (fun q _ h => hA q h) (fun E ce q9 u t H locs _ _ _ hE1 hz hk9 hS hce hcv hcl => ?_) (fun r u t H1 locs1 _ _ hf => hf.elim)
                          subst hE1
                          refine vx_catch (name := zISE) hown [⟨426, 467, 592, 72⟩, ⟨468, 517, 592, 72⟩] ⟨518, 591, 592, 72⟩ [] htab (fun z hz => by
                              rcases (by simpa using hz : z = (⟨426, 467, 592, 72⟩ : ExceptionTableEntry) ∨ z = (⟨468, 517, 592, 72⟩ : ExceptionTableEntry)) with h | h <;> subst h <;> exact Or.inl (by decide)) (by decide) (by decide) w_3 (va_tabs rfl rfl (hE.2.2.1 _ (List.mem_of_getElem? (i := 1) rfl))) hce hcv hcl ?_
                          have hP := hP.kept fun k q hq => hk9 q.1 (hP k q hq).lt (fun h => by have h9 : s.heap.size ≤ q.1 := h; have := (hP k q hq).lt; omega)
                          have hP : va_P G.1 vwCl (xW G x a σ ++ uW G y P S rp rs σ ++ []) H := hP
                          have hD : va_D (va_A (xW G x a σ ++ uW G y P S rp rs σ) s.heap.size) (xW G x a σ ++ uW G y P S rp rs σ ++ []) := hD
                          refine lv_astore (lv' := [(11, .ref q9), (12, .int (iI 0)), (10, .int (iI (pq σ k o))), (9, .ref (rs k)), (8, .int (iI (k : Int))), (7, .int (iI (1 + (bel (z >>> ((iI 6) &&& 31)) 20)))), (6, .int (iI (i : Int))), (5, .int (iI (bel z 16))), (4, .int (iI (σ.1 1 : Nat))), (3, .int (iI (σ.1 0 : Nat))), (0, .ref x), (1, .ref y), (2, .int z)]) hx hb dL_act_592 hl (by decide) rfl (fun ls hl => ?_)
                          refine lv_iload hx hb dL_act_594 (lv_at hl 2 rfl) ?_
                          refine z_if_ne (tgt := 603) hx hb dL_act_596 (by decide) (by omega) (fun c_28 => ?_) (fun c_28 => ?_)
                          · exfalso; omega
                          ·
                            refine lv_iconst (v := iI 1) hx hb dL_act_599 rfl ?_
                            refine lv_goto (tgt := 604) hx hb dL_act_600 (by decide) ?_
                            have hc0 : (σ).1 0 = σ.1 0 := rfl
                            refine W.widen (k := 2) (n := 27) (Nat.le_of_ble_eq_true rfl) (Nat.le_of_ble_eq_true rfl) ?_
                            exact W.zret hx hb hr (z_nb (Or.inr rfl)) (fun t ht hW => ⟨⟨_, (σ, P, S, rp, rs), rfl, ⟨rfl, mono_zJ hJ (by omega) (by omega), by (try dsimp only); rw [hc0]; omega, by (try dsimp only); rw [hc0]; omega⟩, by show va_P _ _ _ t.heap; rw [ht]; exact va_Pl hP, va_Dl hD⟩, hS.F ht⟩) hS.2.2 dL_act_604
                      ·
                        have hq4 := pq_use (σ := σ) (i := k) (o := o) (by omega)
                        have hne : o ≠ k := agn_ne hI (by omega) hq4.2.2
                        refine lv_aload_n hx hb dL_act_549 rfl (lv_at hl 10 rfl) ?_
                        refine lv_aload hx hb dL_act_550 (lv_at hl 2 rfl) ?_
                        refine lv_aload_n hx hb dL_act_552 rfl (lv_at hl 10 rfl) ?_
                        refine u_get (v := .ref S) hx hb hts hin0 hown hK (va_Pr (va_Pl hP)) 0 rfl 1 (by decide) w_1 rfl rfl dL_act_553 ?_
                        refine lv_iload hx hb dL_act_556 (lv_at hl 1 rfl) ?_
                        refine u_aalS hx hb hK (va_Pr (va_Pl hP)) (k := o) (show o < σ.1 1 from by omega) (show σ.1 1 < 2147483648 from by omega) dL_act_558 ?_
                        refine zc_wi (va_runV (As := [.ref (rs k), .ref (rs o)]) (rest := []) ⟨hx, hb, hml, hown, hts⟩ (c_X1_setOff l G y P S rp rs _ B σ k o hI (by omega) (by omega) (by omega)) (cwV 2 hts gL_act_X1_setOff rfl rfl rfl (by decide +kernel) ⟨Nat.le_of_ble_eq_true rfl, Nat.le_of_ble_eq_true rfl⟩) (preWU hK (va_Pr (va_Pl hP)) (va_Dr (va_Dl hD))) rfl rfl hl.1 rfl (lv_room (Nat.le_of_ble_eq_true rfl)) dL_act_559 ⟨Nat.le_of_ble_eq_true rfl, Nat.le_of_ble_eq_true rfl⟩) hS (jA_u hD hA hS.1) (fun H locs hP1 hS _ hkk => ?_)
                        have hP := ju_keep hP hD hP1 hkk
                        have hD := ju_D (σ := σ) (σ' := (sof σ k o)) (by unfold sof; rw [lit_n, lit_n]) (by unfold sof; rw [lit_n, lit_n]) hD
                        have hP : va_P G.1 vwCl (xW G x a σ ++ uW G y P S rp rs (sof σ k o) ++ []) H := hP
                        have hD : va_D (va_A (xW G x a σ ++ uW G y P S rp rs σ) s.heap.size) (xW G x a σ ++ uW G y P S rp rs (sof σ k o) ++ []) := hD
                        refine lv_goto (tgt := 566) hx hb dL_act_562 (by decide) ?_
                        refine lv_istore (lv' := [(12, .int (iI (min (σ.2 4 k) (σ.2 4 o)))), (10, .int (iI (pq σ k o))), (11, .int (iI (o : Int))), (9, .ref (rs k)), (8, .int (iI (k : Int))), (7, .int (iI (1 + (bel (z >>> ((iI 6) &&& 31)) 20)))), (6, .int (iI (i : Int))), (5, .int (iI (bel z 16))), (4, .int (iI (σ.1 1 : Nat))), (3, .int (iI (σ.1 0 : Nat))), (0, .ref x), (1, .ref y), (2, .int z)]) hx hb dL_act_566 hl (by decide) rfl (fun ls hl => ?_)
                        refine lv_aload_n hx hb dL_act_568 rfl (lv_at hl 10 rfl) ?_
                        refine lv_iload hx hb dL_act_569 (lv_at hl 4 rfl) ?_
                        refine lv_iload hx hb dL_act_571 (lv_at hl 2 rfl) ?_
                        refine zc_wi (va_runV (As := [.int (iI (k : Int)), .int (iI (o : Int))]) (rest := []) ⟨hx, hb, hml, hown, hts⟩ (c_X0_setOff l G x a _ B σ k o hI (by omega) (by omega) (by omega) (by omega) (by omega)) (cwV 2 hts gL_act_X0_setOff rfl rfl rfl (by decide +kernel) ⟨Nat.le_of_ble_eq_true rfl, Nat.le_of_ble_eq_true rfl⟩) (preWX hK (va_Pl (va_Pl hP)) (va_Dl (va_Dl hD))) rfl rfl hl.1 rfl (lv_room (Nat.le_of_ble_eq_true rfl)) dL_act_573 ⟨Nat.le_of_ble_eq_true rfl, Nat.le_of_ble_eq_true rfl⟩) hS (jA_x hD hA hS.1) (fun H locs hP1 hS _ hkk => ?_)
                        have hP := jx_keep hP hD hP1 hkk
                        have hD := jx_D (σ' := (sof σ k o)) hD
                        have hP : va_P G.1 vwCl (xW G x a (sof σ k o) ++ uW G y P S rp rs (sof σ k o) ++ []) H := hP
                        have hD : va_D (va_A (xW G x a σ ++ uW G y P S rp rs σ) s.heap.size) (xW G x a (sof σ k o) ++ uW G y P S rp rs (sof σ k o) ++ []) := hD
                        refine lv_iload hx hb dL_act_576 (lv_at hl 0 rfl) ?_
                        have f_29 := hI.r4 k
                        have f_30 := hI.r4 o
                        refine z_icmp_ne (tgt := 590) hx hb dL_act_578 (by decide) (by omega) (by omega) (fun c_31 => ?_) (fun c_31 => ?_)
                        · exfalso; omega
                        ·
                          refine lv_iload hx hb dL_act_581 (lv_at hl 1 rfl) ?_
                          refine z_if_eq (tgt := 590) hx hb dL_act_583 (by decide) (by omega) (fun c_32 => ?_) (fun c_32 => ?_)
                          · exfalso; omega
                          ·
                            refine lv_iconst (v := iI 1) hx hb dL_act_586 rfl ?_
                            refine lv_goto (tgt := 591) hx hb dL_act_587 (by decide) ?_
                            have hc0 : ((sof σ k o)).1 0 = σ.1 0 := congrFun sof_1 0
                            refine W.widen (k := 2) (n := 27) (Nat.le_of_ble_eq_true rfl) (Nat.le_of_ble_eq_true rfl) ?_
                            exact W.zret hx hb hr (z_nb (Or.inr rfl)) (fun t ht hW => ⟨⟨_, ((sof σ k o), P, S, rp, rs), rfl, ⟨rfl, mono_zJ (sof_zJ hJ (by omega) (by omega)) (by omega) (by omega), by (try dsimp only); rw [hc0]; omega, by (try dsimp only); rw [hc0]; omega⟩, by show va_P _ _ _ t.heap; rw [ht]; exact va_Pl hP, va_Dl hD⟩, hS.F ht⟩) hS.2.2 dL_act_591
                    ·
                      refine lv_iload hx hb dL_act_475 (lv_at hl 0 rfl) ?_
                      refine z_if_eq (tgt := 491) hx hb dL_act_477 (by decide) (by omega) (fun c_33 => ?_) (fun c_33 => ?_)
                      ·
                        refine lv_iconst (v := iI 0) hx hb dL_act_491 rfl ?_
                        refine lv_istore (lv' := [(11, .int (iI 0)), (10, .int (iI 0)), (9, .ref (rs k)), (8, .int (iI (k : Int))), (7, .int (iI (1 + (bel (z >>> ((iI 6) &&& 31)) 20)))), (6, .int (iI (i : Int))), (5, .int (iI (bel z 16))), (4, .int (iI (σ.1 1 : Nat))), (3, .int (iI (σ.1 0 : Nat))), (0, .ref x), (1, .ref y), (2, .int z)]) hx hb dL_act_492 hl (by decide) rfl (fun ls hl => ?_)
                        refine lv_aload_n hx hb dL_act_494 rfl (lv_at hl 9 rfl) ?_
                        refine lv_iload hx hb dL_act_495 (lv_at hl 3 rfl) ?_
                        refine lv_iload hx hb dL_act_497 (lv_at hl 4 rfl) ?_
                        refine vx_calli (vx_runV (As := [.int (iI (k : Int)), .int (iI (1 + (bel (z >>> ((iI 6) &&& 31)) 20)))]) (rest := []) ⟨hx, hb, hml, hown, hts⟩ (t3_X0_apologize l hfl G x a s.heap.size B σ k (1 + (bel (z >>> ((iI 6) &&& 31)) 20)) hI (by omega) (by omega) (by omega)) (cwV 2 hts gL_act_X0_apologize rfl rfl rfl (by decide +kernel) ⟨Nat.le_of_ble_eq_true rfl, Nat.le_of_ble_eq_true rfl⟩) (preTX hK (va_Pl (va_Pl hP)) (hE.narrow (fun q h => a_in q h))) rfl rfl hl.1 rfl (lv_room (Nat.le_of_ble_eq_true rfl)) dL_act_499 ⟨Nat.le_of_ble_eq_true rfl, Nat.le_of_ble_eq_true rfl⟩) hS (fun q _ h => hA q h) (fun q h => hA q h) (fun q _ h => hA q h) (fun E ce q9 u t H locs _ _ _ hE1 hz hk9 hS hce hcv hcl => ?_) (fun r u t H1 locs1 _ _ hf => hf.elim)
                        subst hE1
                        refine vx_catch (name := zISE) hown [⟨426, 467, 592, 72⟩] ⟨468, 517, 592, 72⟩ [⟨518, 591, 592, 72⟩] htab (fun z hz => by
                            rcases (by simpa using hz : z = (⟨426, 467, 592, 72⟩ : ExceptionTableEntry)) with h <;> subst h <;> exact Or.inl (by decide)) (by decide) (by decide) w_3 (va_tabs rfl rfl (hE.2.2.1 _ (List.mem_of_getElem? (i := 1) rfl))) hce hcv hcl ?_
                        have hP := hP.kept fun k q hq => hk9 q.1 (hP k q hq).lt (fun h => by have h9 : s.heap.size ≤ q.1 := h; have := (hP k q hq).lt; omega)
                        have hP : va_P G.1 vwCl (xW G x a σ ++ uW G y P S rp rs σ ++ []) H := hP
                        have hD : va_D (va_A (xW G x a σ ++ uW G y P S rp rs σ) s.heap.size) (xW G x a σ ++ uW G y P S rp rs σ ++ []) := hD
                        refine lv_astore (lv' := [(11, .ref q9), (10, .int (iI 0)), (9, .ref (rs k)), (8, .int (iI (k : Int))), (7, .int (iI (1 + (bel (z >>> ((iI 6) &&& 31)) 20)))), (6, .int (iI (i : Int))), (5, .int (iI (bel z 16))), (4, .int (iI (σ.1 1 : Nat))), (3, .int (iI (σ.1 0 : Nat))), (0, .ref x), (1, .ref y), (2, .int z)]) hx hb dL_act_592 hl (by decide) rfl (fun ls hl => ?_)
                        refine lv_iload hx hb dL_act_594 (lv_at hl 1 rfl) ?_
                        refine z_if_ne (tgt := 603) hx hb dL_act_596 (by decide) (by omega) (fun c_34 => ?_) (fun c_34 => ?_)
                        · exfalso; revert c_34; decide
                        ·
                          refine lv_iconst (v := iI 1) hx hb dL_act_599 rfl ?_
                          refine lv_goto (tgt := 604) hx hb dL_act_600 (by decide) ?_
                          have hc0 : (σ).1 0 = σ.1 0 := rfl
                          refine W.widen (k := 2) (n := 27) (Nat.le_of_ble_eq_true rfl) (Nat.le_of_ble_eq_true rfl) ?_
                          exact W.zret hx hb hr (z_nb (Or.inr rfl)) (fun t ht hW => ⟨⟨_, (σ, P, S, rp, rs), rfl, ⟨rfl, mono_zJ hJ (by omega) (by omega), by (try dsimp only); rw [hc0]; omega, by (try dsimp only); rw [hc0]; omega⟩, by show va_P _ _ _ t.heap; rw [ht]; exact va_Pl hP, va_Dl hD⟩, hS.F ht⟩) hS.2.2 dL_act_604
                      · exfalso; revert c_33; decide
                  ·
                    refine lv_iload hx hb dL_act_433 (lv_at hl 0 rfl) ?_
                    refine z_if_eq (tgt := 444) hx hb dL_act_435 (by decide) (by omega) (fun c_35 => ?_) (fun c_35 => ?_)
                    ·
                      refine lv_aload_n hx hb dL_act_444 rfl (lv_at hl 8 rfl) ?_
                      refine lv_iload hx hb dL_act_445 (lv_at hl 2 rfl) ?_
                      refine vx_calli (vx_runV (As := [.int (iI (k : Int))]) (rest := []) ⟨hx, hb, hml, hown, hts⟩ (t2_X0_mention l hfl G x a s.heap.size B σ k hI (by omega) (by omega)) (cwV 1 hts gL_act_X0_mention rfl rfl rfl (by decide +kernel) ⟨Nat.le_of_ble_eq_true rfl, Nat.le_of_ble_eq_true rfl⟩) (preTX hK (va_Pl (va_Pl hP)) (hE.narrow (fun q h => a_in q h))) rfl rfl hl.1 rfl (lv_room (Nat.le_of_ble_eq_true rfl)) dL_act_447 ⟨Nat.le_of_ble_eq_true rfl, Nat.le_of_ble_eq_true rfl⟩) hS (fun q _ h => hA q h) (fun q h => hA q h) (fun q _ h => hA q h) (fun E ce q9 u t H locs _ _ _ hE1 hz hk9 hS hce hcv hcl => ?_) (fun r u t H1 locs1 _ _ hf => hf.elim)
                      subst hE1
                      refine vx_catch (name := zISE) hown [] ⟨426, 467, 592, 72⟩ [⟨468, 517, 592, 72⟩, ⟨518, 591, 592, 72⟩] htab (fun z hz => by cases hz) (by decide) (by decide) w_3 (va_tabs rfl rfl (hE.2.2.1 _ (List.mem_of_getElem? (i := 1) rfl))) hce hcv hcl ?_
                      have hP := hP.kept fun k q hq => hk9 q.1 (hP k q hq).lt (fun h => by have h9 : s.heap.size ≤ q.1 := h; have := (hP k q hq).lt; omega)
                      have hP : va_P G.1 vwCl (xW G x a σ ++ uW G y P S rp rs σ ++ []) H := hP
                      have hD : va_D (va_A (xW G x a σ ++ uW G y P S rp rs σ) s.heap.size) (xW G x a σ ++ uW G y P S rp rs σ ++ []) := hD
                      refine lv_astore (lv' := [(11, .ref q9), (10, .int (iI 0)), (9, .ref (rs k)), (8, .int (iI (k : Int))), (7, .int (iI (1 + (bel (z >>> ((iI 6) &&& 31)) 20)))), (6, .int (iI (i : Int))), (5, .int (iI (bel z 16))), (4, .int (iI (σ.1 1 : Nat))), (3, .int (iI (σ.1 0 : Nat))), (0, .ref x), (1, .ref y), (2, .int z)]) hx hb dL_act_592 hl (by decide) rfl (fun ls hl => ?_)
                      refine lv_iload hx hb dL_act_594 (lv_at hl 1 rfl) ?_
                      refine z_if_ne (tgt := 603) hx hb dL_act_596 (by decide) (by omega) (fun c_36 => ?_) (fun c_36 => ?_)
                      · exfalso; revert c_36; decide
                      ·
                        refine lv_iconst (v := iI 1) hx hb dL_act_599 rfl ?_
                        refine lv_goto (tgt := 604) hx hb dL_act_600 (by decide) ?_
                        have hc0 : (σ).1 0 = σ.1 0 := rfl
                        refine W.widen (k := 2) (n := 27) (Nat.le_of_ble_eq_true rfl) (Nat.le_of_ble_eq_true rfl) ?_
                        exact W.zret hx hb hr (z_nb (Or.inr rfl)) (fun t ht hW => ⟨⟨_, (σ, P, S, rp, rs), rfl, ⟨rfl, mono_zJ hJ (by omega) (by omega), by (try dsimp only); rw [hc0]; omega, by (try dsimp only); rw [hc0]; omega⟩, by show va_P _ _ _ t.heap; rw [ht]; exact va_Pl hP, va_Dl hD⟩, hS.F ht⟩) hS.2.2 dL_act_604
                    · exfalso; revert c_35; decide
                ·
                  refine lv_iconst (v := iI 1) hx hb dL_act_419 rfl ?_
                  refine lv_goto (tgt := 424) hx hb dL_act_420 (by decide) ?_
                  refine lv_istore (lv' := [(10, .int (iI 1)), (9, .ref (rs k)), (8, .int (iI (k : Int))), (7, .int (iI (1 + (bel (z >>> ((iI 6) &&& 31)) 20)))), (6, .int (iI (i : Int))), (5, .int (iI (bel z 16))), (4, .int (iI (σ.1 1 : Nat))), (3, .int (iI (σ.1 0 : Nat))), (0, .ref x), (1, .ref y), (2, .int z)]) hx hb dL_act_424 hl (by decide) rfl (fun ls hl => ?_)
                  refine lv_iload hx hb dL_act_426 (lv_at hl 5 rfl) ?_
                  refine lv_bipush (v := iI 10) hx hb dL_act_428 (by decide) ?_
                  refine z_icmp_ge (tgt := 468) hx hb dL_act_430 (by decide) (by omega) (by omega) (fun c_37 => ?_) (fun c_37 => ?_)
                  ·
                    refine lv_iload hx hb dL_act_468 (lv_at hl 5 rfl) ?_
                    refine lv_bipush (v := iI 12) hx hb dL_act_470 (by decide) ?_
                    refine z_icmp_ge (tgt := 518) hx hb dL_act_472 (by decide) (by omega) (by omega) (fun c_38 => ?_) (fun c_38 => ?_)
                    ·
                      refine lv_iload_n hx hb dL_act_518 rfl (lv_at hl 10 rfl) ?_
                      refine lv_bipush (v := iI 7) hx hb dL_act_519 (by decide) ?_
                      refine lv_ishr hx hb dL_act_521 ?_
                      refine lv_iload hx hb dL_act_522 (lv_at hl 6 rfl) ?_
                      refine zc_i (va_runS (As := [.int (z >>> ((iI 7) &&& 31)), .int (iI (σ.1 1 : Nat))]) (rest := []) ⟨hx, hb, hml, hown, hts⟩ (c_L_below l (z >>> ((iI 7) &&& 31)) (σ.1 1 : Nat) (by omega)) (va_cwS 2 hts gL_act_L_below rfl rfl rfl (by decide +kernel) ⟨Nat.le_of_ble_eq_true rfl, Nat.le_of_ble_eq_true rfl⟩) preS0 rfl rfl hl.1 rfl (lv_room (Nat.le_of_ble_eq_true rfl)) dL_act_524 ⟨Nat.le_of_ble_eq_true rfl, Nat.le_of_ble_eq_true rfl⟩) ?_
                      have f_39 := bel_bd (z >>> ((iI 7) &&& 31)) (σ.1 1 : Nat) (by omega)
                      obtain ⟨o, e_40⟩ : ∃ o : Nat, bel (z >>> ((iI 7) &&& 31)) (σ.1 1 : Nat) = (o : Int) := ⟨(bel (z >>> ((iI 7) &&& 31)) (σ.1 1 : Nat)).toNat, by omega⟩
                      refine z_re (v' := iI (o : Int)) (congrArg iI e_40) ?_
                      refine lv_istore (lv' := [(11, .int (iI (o : Int))), (10, .int (iI 1)), (9, .ref (rs k)), (8, .int (iI (k : Int))), (7, .int (iI (1 + (bel (z >>> ((iI 6) &&& 31)) 20)))), (6, .int (iI (i : Int))), (5, .int (iI (bel z 16))), (4, .int (iI (σ.1 1 : Nat))), (3, .int (iI (σ.1 0 : Nat))), (0, .ref x), (1, .ref y), (2, .int z)]) hx hb dL_act_527 hl (by decide) rfl (fun ls hl => ?_)
                      refine lv_aload_n hx hb dL_act_529 rfl (lv_at hl 10 rfl) ?_
                      refine lv_aload hx hb dL_act_530 (lv_at hl 2 rfl) ?_
                      refine lv_aload_n hx hb dL_act_532 rfl (lv_at hl 10 rfl) ?_
                      refine u_get (v := .ref S) hx hb hts hin0 hown hK (va_Pr (va_Pl hP)) 0 rfl 1 (by decide) w_1 rfl rfl dL_act_533 ?_
                      refine lv_iload hx hb dL_act_536 (lv_at hl 0 rfl) ?_
                      refine u_aalS hx hb hK (va_Pr (va_Pl hP)) (k := o) (show o < σ.1 1 from by omega) (show σ.1 1 < 2147483648 from by omega) dL_act_538 ?_
                      refine zc_i (va_runV (As := [.ref (rs k), .ref (rs o)]) (rest := []) ⟨hx, hb, hml, hown, hts⟩ (c_X1_areOpposite l G y P S rp rs B σ k o hI (by omega) (by omega)) (cwV 2 hts gL_act_X1_areOpposite rfl rfl rfl (by decide +kernel) ⟨Nat.le_of_ble_eq_true rfl, Nat.le_of_ble_eq_true rfl⟩) (preVU hK (va_Pr (va_Pl hP))) rfl rfl hl.1 rfl (lv_room (Nat.le_of_ble_eq_true rfl)) dL_act_539 ⟨Nat.le_of_ble_eq_true rfl, Nat.le_of_ble_eq_true rfl⟩) ?_
                      have f_41 := pq_or σ k o
                      refine lv_istore (lv' := [(10, .int (iI (pq σ k o))), (11, .int (iI (o : Int))), (9, .ref (rs k)), (8, .int (iI (k : Int))), (7, .int (iI (1 + (bel (z >>> ((iI 6) &&& 31)) 20)))), (6, .int (iI (i : Int))), (5, .int (iI (bel z 16))), (4, .int (iI (σ.1 1 : Nat))), (3, .int (iI (σ.1 0 : Nat))), (0, .ref x), (1, .ref y), (2, .int z)]) hx hb dL_act_542 hl (by decide) rfl (fun ls hl => ?_)
                      refine lv_iload hx hb dL_act_544 (lv_at hl 0 rfl) ?_
                      refine z_if_eq (tgt := 565) hx hb dL_act_546 (by decide) (by omega) (fun c_42 => ?_) (fun c_42 => ?_)
                      ·
                        refine lv_iconst (v := iI 0) hx hb dL_act_565 rfl ?_
                        refine lv_istore (lv' := [(12, .int (iI 0)), (10, .int (iI (pq σ k o))), (11, .int (iI (o : Int))), (9, .ref (rs k)), (8, .int (iI (k : Int))), (7, .int (iI (1 + (bel (z >>> ((iI 6) &&& 31)) 20)))), (6, .int (iI (i : Int))), (5, .int (iI (bel z 16))), (4, .int (iI (σ.1 1 : Nat))), (3, .int (iI (σ.1 0 : Nat))), (0, .ref x), (1, .ref y), (2, .int z)]) hx hb dL_act_566 hl (by decide) rfl (fun ls hl => ?_)
                        refine lv_aload_n hx hb dL_act_568 rfl (lv_at hl 10 rfl) ?_
                        refine lv_iload hx hb dL_act_569 (lv_at hl 4 rfl) ?_
                        refine lv_iload hx hb dL_act_571 (lv_at hl 2 rfl) ?_
                        rcases pq_no (σ := σ) (i := k) (o := o) (by omega) with h9 | ⟨h8, h9⟩ | ⟨h8, h9, h7⟩
                        ·
                          refine vx_calli (vx_runV (As := [.int (iI (k : Int)), .int (iI (o : Int))]) (rest := []) ⟨hx, hb, hml, hown, hts⟩ (t3_X0_setOff l hfl G x a s.heap.size B σ k o hI (by omega) (by omega) h9) (cwV 2 hts gL_act_X0_setOff rfl rfl rfl (by decide +kernel) ⟨Nat.le_of_ble_eq_true rfl, Nat.le_of_ble_eq_true rfl⟩) (preTX hK (va_Pl (va_Pl hP)) (hE.narrow (fun q h => a_in q h))) rfl rfl hl.1 rfl (lv_room (Nat.le_of_ble_eq_true rfl)) dL_act_573 ⟨Nat.le_of_ble_eq_true rfl, Nat.le_of_ble_eq_true rfl⟩) hS (fun q _ h => hA q h) (fun q h => hA q h) (fun q _ h => hA q h) (fun E ce q9 u t H locs _ _ _ hE1 hz hk9 hS hce hcv hcl => ?_) (fun r u t H1 locs1 _ _ hf => hf.elim)
                          subst hE1
                          refine vx_catch (name := zISE) hown [⟨426, 467, 592, 72⟩, ⟨468, 517, 592, 72⟩] ⟨518, 591, 592, 72⟩ [] htab (fun z hz => by
                              rcases (by simpa using hz : z = (⟨426, 467, 592, 72⟩ : ExceptionTableEntry) ∨ z = (⟨468, 517, 592, 72⟩ : ExceptionTableEntry)) with h | h <;> subst h <;> exact Or.inl (by decide)) (by decide) (by decide) w_3 (va_tabs rfl rfl (hE.2.2.1 _ (List.mem_of_getElem? (i := 1) rfl))) hce hcv hcl ?_
                          have hP := hP.kept fun k q hq => hk9 q.1 (hP k q hq).lt (fun h => by have h9 : s.heap.size ≤ q.1 := h; have := (hP k q hq).lt; omega)
                          have hP : va_P G.1 vwCl (xW G x a σ ++ uW G y P S rp rs σ ++ []) H := hP
                          have hD : va_D (va_A (xW G x a σ ++ uW G y P S rp rs σ) s.heap.size) (xW G x a σ ++ uW G y P S rp rs σ ++ []) := hD
                          refine lv_astore (lv' := [(11, .ref q9), (12, .int (iI 0)), (10, .int (iI (pq σ k o))), (9, .ref (rs k)), (8, .int (iI (k : Int))), (7, .int (iI (1 + (bel (z >>> ((iI 6) &&& 31)) 20)))), (6, .int (iI (i : Int))), (5, .int (iI (bel z 16))), (4, .int (iI (σ.1 1 : Nat))), (3, .int (iI (σ.1 0 : Nat))), (0, .ref x), (1, .ref y), (2, .int z)]) hx hb dL_act_592 hl (by decide) rfl (fun ls hl => ?_)
                          refine lv_iload hx hb dL_act_594 (lv_at hl 2 rfl) ?_
                          refine z_if_ne (tgt := 603) hx hb dL_act_596 (by decide) (by omega) (fun c_43 => ?_) (fun c_43 => ?_)
                          · exfalso; omega
                          ·
                            refine lv_iconst (v := iI 1) hx hb dL_act_599 rfl ?_
                            refine lv_goto (tgt := 604) hx hb dL_act_600 (by decide) ?_
                            have hc0 : (σ).1 0 = σ.1 0 := rfl
                            refine W.widen (k := 2) (n := 27) (Nat.le_of_ble_eq_true rfl) (Nat.le_of_ble_eq_true rfl) ?_
                            exact W.zret hx hb hr (z_nb (Or.inr rfl)) (fun t ht hW => ⟨⟨_, (σ, P, S, rp, rs), rfl, ⟨rfl, mono_zJ hJ (by omega) (by omega), by (try dsimp only); rw [hc0]; omega, by (try dsimp only); rw [hc0]; omega⟩, by show va_P _ _ _ t.heap; rw [ht]; exact va_Pl hP, va_Dl hD⟩, hS.F ht⟩) hS.2.2 dL_act_604
                        ·
                          refine vx_calli (vx_runV (As := [.int (iI (k : Int)), .int (iI (o : Int))]) (rest := []) ⟨hx, hb, hml, hown, hts⟩ (t4_X0_setOff l hfl G x a s.heap.size B σ k o hI (by omega) (by omega) h8 h9) (cwV 2 hts gL_act_X0_setOff rfl rfl rfl (by decide +kernel) ⟨Nat.le_of_ble_eq_true rfl, Nat.le_of_ble_eq_true rfl⟩) (preTX hK (va_Pl (va_Pl hP)) (hE.narrow (fun q h => a_in q h))) rfl rfl hl.1 rfl (lv_room (Nat.le_of_ble_eq_true rfl)) dL_act_573 ⟨Nat.le_of_ble_eq_true rfl, Nat.le_of_ble_eq_true rfl⟩) hS (fun q _ h => hA q h) (fun q h => hA q h) (fun q _ h => hA q h) (fun E ce q9 u t H locs _ _ _ hE1 hz hk9 hS hce hcv hcl => ?_) (fun r u t H1 locs1 _ _ hf => hf.elim)
                          subst hE1
                          refine vx_catch (name := zISE) hown [⟨426, 467, 592, 72⟩, ⟨468, 517, 592, 72⟩] ⟨518, 591, 592, 72⟩ [] htab (fun z hz => by
                              rcases (by simpa using hz : z = (⟨426, 467, 592, 72⟩ : ExceptionTableEntry) ∨ z = (⟨468, 517, 592, 72⟩ : ExceptionTableEntry)) with h | h <;> subst h <;> exact Or.inl (by decide)) (by decide) (by decide) w_3 (va_tabs rfl rfl (hE.2.2.1 _ (List.mem_of_getElem? (i := 1) rfl))) hce hcv hcl ?_
                          have hP := hP.kept fun k q hq => hk9 q.1 (hP k q hq).lt (fun h => by have h9 : s.heap.size ≤ q.1 := h; have := (hP k q hq).lt; omega)
                          have hP : va_P G.1 vwCl (xW G x a σ ++ uW G y P S rp rs σ ++ []) H := hP
                          have hD : va_D (va_A (xW G x a σ ++ uW G y P S rp rs σ) s.heap.size) (xW G x a σ ++ uW G y P S rp rs σ ++ []) := hD
                          refine lv_astore (lv' := [(11, .ref q9), (12, .int (iI 0)), (10, .int (iI (pq σ k o))), (9, .ref (rs k)), (8, .int (iI (k : Int))), (7, .int (iI (1 + (bel (z >>> ((iI 6) &&& 31)) 20)))), (6, .int (iI (i : Int))), (5, .int (iI (bel z 16))), (4, .int (iI (σ.1 1 : Nat))), (3, .int (iI (σ.1 0 : Nat))), (0, .ref x), (1, .ref y), (2, .int z)]) hx hb dL_act_592 hl (by decide) rfl (fun ls hl => ?_)
                          refine lv_iload hx hb dL_act_594 (lv_at hl 2 rfl) ?_
                          refine z_if_ne (tgt := 603) hx hb dL_act_596 (by decide) (by omega) (fun c_44 => ?_) (fun c_44 => ?_)
                          · exfalso; omega
                          ·
                            refine lv_iconst (v := iI 1) hx hb dL_act_599 rfl ?_
                            refine lv_goto (tgt := 604) hx hb dL_act_600 (by decide) ?_
                            have hc0 : (σ).1 0 = σ.1 0 := rfl
                            refine W.widen (k := 2) (n := 27) (Nat.le_of_ble_eq_true rfl) (Nat.le_of_ble_eq_true rfl) ?_
                            exact W.zret hx hb hr (z_nb (Or.inr rfl)) (fun t ht hW => ⟨⟨_, (σ, P, S, rp, rs), rfl, ⟨rfl, mono_zJ hJ (by omega) (by omega), by (try dsimp only); rw [hc0]; omega, by (try dsimp only); rw [hc0]; omega⟩, by show va_P _ _ _ t.heap; rw [ht]; exact va_Pl hP, va_Dl hD⟩, hS.F ht⟩) hS.2.2 dL_act_604
                        ·
                          refine vx_calli (vx_runV (As := [.int (iI (k : Int)), .int (iI (o : Int))]) (rest := []) ⟨hx, hb, hml, hown, hts⟩ (t5_X0_setOff l hfl G x a s.heap.size B σ k o hI (by omega) (by omega) h8 h9 h7) (cwV 2 hts gL_act_X0_setOff rfl rfl rfl (by decide +kernel) ⟨Nat.le_of_ble_eq_true rfl, Nat.le_of_ble_eq_true rfl⟩) (preTX hK (va_Pl (va_Pl hP)) (hE.narrow (fun q h => a_in q h))) rfl rfl hl.1 rfl (lv_room (Nat.le_of_ble_eq_true rfl)) dL_act_573 ⟨Nat.le_of_ble_eq_true rfl, Nat.le_of_ble_eq_true rfl⟩) hS (fun q _ h => hA q h) (fun q h => hA q h) (fun q _ h => hA q h) (fun E ce q9 u t H locs _ _ _ hE1 hz hk9 hS hce hcv hcl => ?_) (fun r u t H1 locs1 _ _ hf => hf.elim)
                          subst hE1
                          refine vx_catch (name := zISE) hown [⟨426, 467, 592, 72⟩, ⟨468, 517, 592, 72⟩] ⟨518, 591, 592, 72⟩ [] htab (fun z hz => by
                              rcases (by simpa using hz : z = (⟨426, 467, 592, 72⟩ : ExceptionTableEntry) ∨ z = (⟨468, 517, 592, 72⟩ : ExceptionTableEntry)) with h | h <;> subst h <;> exact Or.inl (by decide)) (by decide) (by decide) w_3 (va_tabs rfl rfl (hE.2.2.1 _ (List.mem_of_getElem? (i := 1) rfl))) hce hcv hcl ?_
                          have hP := hP.kept fun k q hq => hk9 q.1 (hP k q hq).lt (fun h => by have h9 : s.heap.size ≤ q.1 := h; have := (hP k q hq).lt; omega)
                          have hP : va_P G.1 vwCl (xW G x a σ ++ uW G y P S rp rs σ ++ []) H := hP
                          have hD : va_D (va_A (xW G x a σ ++ uW G y P S rp rs σ) s.heap.size) (xW G x a σ ++ uW G y P S rp rs σ ++ []) := hD
                          refine lv_astore (lv' := [(11, .ref q9), (12, .int (iI 0)), (10, .int (iI (pq σ k o))), (9, .ref (rs k)), (8, .int (iI (k : Int))), (7, .int (iI (1 + (bel (z >>> ((iI 6) &&& 31)) 20)))), (6, .int (iI (i : Int))), (5, .int (iI (bel z 16))), (4, .int (iI (σ.1 1 : Nat))), (3, .int (iI (σ.1 0 : Nat))), (0, .ref x), (1, .ref y), (2, .int z)]) hx hb dL_act_592 hl (by decide) rfl (fun ls hl => ?_)
                          refine lv_iload hx hb dL_act_594 (lv_at hl 2 rfl) ?_
                          refine z_if_ne (tgt := 603) hx hb dL_act_596 (by decide) (by omega) (fun c_45 => ?_) (fun c_45 => ?_)
                          · exfalso; omega
                          ·
                            refine lv_iconst (v := iI 1) hx hb dL_act_599 rfl ?_
                            refine lv_goto (tgt := 604) hx hb dL_act_600 (by decide) ?_
                            have hc0 : (σ).1 0 = σ.1 0 := rfl
                            refine W.widen (k := 2) (n := 27) (Nat.le_of_ble_eq_true rfl) (Nat.le_of_ble_eq_true rfl) ?_
                            exact W.zret hx hb hr (z_nb (Or.inr rfl)) (fun t ht hW => ⟨⟨_, (σ, P, S, rp, rs), rfl, ⟨rfl, mono_zJ hJ (by omega) (by omega), by (try dsimp only); rw [hc0]; omega, by (try dsimp only); rw [hc0]; omega⟩, by show va_P _ _ _ t.heap; rw [ht]; exact va_Pl hP, va_Dl hD⟩, hS.F ht⟩) hS.2.2 dL_act_604
                      ·
                        have hq4 := pq_use (σ := σ) (i := k) (o := o) (by omega)
                        have hne : o ≠ k := agn_ne hI (by omega) hq4.2.2
                        refine lv_aload_n hx hb dL_act_549 rfl (lv_at hl 10 rfl) ?_
                        refine lv_aload hx hb dL_act_550 (lv_at hl 2 rfl) ?_
                        refine lv_aload_n hx hb dL_act_552 rfl (lv_at hl 10 rfl) ?_
                        refine u_get (v := .ref S) hx hb hts hin0 hown hK (va_Pr (va_Pl hP)) 0 rfl 1 (by decide) w_1 rfl rfl dL_act_553 ?_
                        refine lv_iload hx hb dL_act_556 (lv_at hl 1 rfl) ?_
                        refine u_aalS hx hb hK (va_Pr (va_Pl hP)) (k := o) (show o < σ.1 1 from by omega) (show σ.1 1 < 2147483648 from by omega) dL_act_558 ?_
                        refine zc_wi (va_runV (As := [.ref (rs k), .ref (rs o)]) (rest := []) ⟨hx, hb, hml, hown, hts⟩ (c_X1_setOff l G y P S rp rs _ B σ k o hI (by omega) (by omega) (by omega)) (cwV 2 hts gL_act_X1_setOff rfl rfl rfl (by decide +kernel) ⟨Nat.le_of_ble_eq_true rfl, Nat.le_of_ble_eq_true rfl⟩) (preWU hK (va_Pr (va_Pl hP)) (va_Dr (va_Dl hD))) rfl rfl hl.1 rfl (lv_room (Nat.le_of_ble_eq_true rfl)) dL_act_559 ⟨Nat.le_of_ble_eq_true rfl, Nat.le_of_ble_eq_true rfl⟩) hS (jA_u hD hA hS.1) (fun H locs hP1 hS _ hkk => ?_)
                        have hP := ju_keep hP hD hP1 hkk
                        have hD := ju_D (σ := σ) (σ' := (sof σ k o)) (by unfold sof; rw [lit_n, lit_n]) (by unfold sof; rw [lit_n, lit_n]) hD
                        have hP : va_P G.1 vwCl (xW G x a σ ++ uW G y P S rp rs (sof σ k o) ++ []) H := hP
                        have hD : va_D (va_A (xW G x a σ ++ uW G y P S rp rs σ) s.heap.size) (xW G x a σ ++ uW G y P S rp rs (sof σ k o) ++ []) := hD
                        refine lv_goto (tgt := 566) hx hb dL_act_562 (by decide) ?_
                        refine lv_istore (lv' := [(12, .int (iI (min (σ.2 4 k) (σ.2 4 o)))), (10, .int (iI (pq σ k o))), (11, .int (iI (o : Int))), (9, .ref (rs k)), (8, .int (iI (k : Int))), (7, .int (iI (1 + (bel (z >>> ((iI 6) &&& 31)) 20)))), (6, .int (iI (i : Int))), (5, .int (iI (bel z 16))), (4, .int (iI (σ.1 1 : Nat))), (3, .int (iI (σ.1 0 : Nat))), (0, .ref x), (1, .ref y), (2, .int z)]) hx hb dL_act_566 hl (by decide) rfl (fun ls hl => ?_)
                        refine lv_aload_n hx hb dL_act_568 rfl (lv_at hl 10 rfl) ?_
                        refine lv_iload hx hb dL_act_569 (lv_at hl 4 rfl) ?_
                        refine lv_iload hx hb dL_act_571 (lv_at hl 2 rfl) ?_
                        refine zc_wi (va_runV (As := [.int (iI (k : Int)), .int (iI (o : Int))]) (rest := []) ⟨hx, hb, hml, hown, hts⟩ (c_X0_setOff l G x a _ B σ k o hI (by omega) (by omega) (by omega) (by omega) (by omega)) (cwV 2 hts gL_act_X0_setOff rfl rfl rfl (by decide +kernel) ⟨Nat.le_of_ble_eq_true rfl, Nat.le_of_ble_eq_true rfl⟩) (preWX hK (va_Pl (va_Pl hP)) (va_Dl (va_Dl hD))) rfl rfl hl.1 rfl (lv_room (Nat.le_of_ble_eq_true rfl)) dL_act_573 ⟨Nat.le_of_ble_eq_true rfl, Nat.le_of_ble_eq_true rfl⟩) hS (jA_x hD hA hS.1) (fun H locs hP1 hS _ hkk => ?_)
                        have hP := jx_keep hP hD hP1 hkk
                        have hD := jx_D (σ' := (sof σ k o)) hD
                        have hP : va_P G.1 vwCl (xW G x a (sof σ k o) ++ uW G y P S rp rs (sof σ k o) ++ []) H := hP
                        have hD : va_D (va_A (xW G x a σ ++ uW G y P S rp rs σ) s.heap.size) (xW G x a (sof σ k o) ++ uW G y P S rp rs (sof σ k o) ++ []) := hD
                        refine lv_iload hx hb dL_act_576 (lv_at hl 0 rfl) ?_
                        have f_46 := hI.r4 k
                        have f_47 := hI.r4 o
                        refine z_icmp_ne (tgt := 590) hx hb dL_act_578 (by decide) (by omega) (by omega) (fun c_48 => ?_) (fun c_48 => ?_)
                        · exfalso; omega
                        ·
                          refine lv_iload hx hb dL_act_581 (lv_at hl 1 rfl) ?_
                          refine z_if_eq (tgt := 590) hx hb dL_act_583 (by decide) (by omega) (fun c_49 => ?_) (fun c_49 => ?_)
                          · exfalso; omega
                          ·
                            refine lv_iconst (v := iI 1) hx hb dL_act_586 rfl ?_
                            refine lv_goto (tgt := 591) hx hb dL_act_587 (by decide) ?_
                            have hc0 : ((sof σ k o)).1 0 = σ.1 0 := congrFun sof_1 0
                            refine W.widen (k := 2) (n := 27) (Nat.le_of_ble_eq_true rfl) (Nat.le_of_ble_eq_true rfl) ?_
                            exact W.zret hx hb hr (z_nb (Or.inr rfl)) (fun t ht hW => ⟨⟨_, ((sof σ k o), P, S, rp, rs), rfl, ⟨rfl, mono_zJ (sof_zJ hJ (by omega) (by omega)) (by omega) (by omega), by (try dsimp only); rw [hc0]; omega, by (try dsimp only); rw [hc0]; omega⟩, by show va_P _ _ _ t.heap; rw [ht]; exact va_Pl hP, va_Dl hD⟩, hS.F ht⟩) hS.2.2 dL_act_591
                    ·
                      refine lv_iload hx hb dL_act_475 (lv_at hl 0 rfl) ?_
                      refine z_if_eq (tgt := 491) hx hb dL_act_477 (by decide) (by omega) (fun c_50 => ?_) (fun c_50 => ?_)
                      · exfalso; revert c_50; decide
                      ·
                        refine lv_aload_n hx hb dL_act_480 rfl (lv_at hl 9 rfl) ?_
                        refine lv_aload hx hb dL_act_481 (lv_at hl 1 rfl) ?_
                        refine lv_iload hx hb dL_act_483 (lv_at hl 3 rfl) ?_
                        refine zc_wi (va_runV (As := [.ref (rs k), .int (iI (1 + (bel (z >>> ((iI 6) &&& 31)) 20)))]) (rest := []) ⟨hx, hb, hml, hown, hts⟩ (c_X1_apologize l G y P S rp rs _ B σ k (1 + (bel (z >>> ((iI 6) &&& 31)) 20)) hI (by omega) (by omega) (by omega)) (cwV 2 hts gL_act_X1_apologize rfl rfl rfl (by decide +kernel) ⟨Nat.le_of_ble_eq_true rfl, Nat.le_of_ble_eq_true rfl⟩) (preWU hK (va_Pr (va_Pl hP)) (va_Dr (va_Dl hD))) rfl rfl hl.1 rfl (lv_room (Nat.le_of_ble_eq_true rfl)) dL_act_485 ⟨Nat.le_of_ble_eq_true rfl, Nat.le_of_ble_eq_true rfl⟩) hS (jA_u hD hA hS.1) (fun H locs hP1 hS _ hkk => ?_)
                        have hP := ju_keep hP hD hP1 hkk
                        have hD := ju_D (σ := σ) (σ' := (apo σ k (1 + (bel (z >>> ((iI 6) &&& 31)) 20)))) (apo_1 (by decide)) (apo_1 (by decide)) hD
                        have hP : va_P G.1 vwCl (xW G x a σ ++ uW G y P S rp rs (apo σ k (1 + (bel (z >>> ((iI 6) &&& 31)) 20))) ++ []) H := hP
                        have hD : va_D (va_A (xW G x a σ ++ uW G y P S rp rs σ) s.heap.size) (xW G x a σ ++ uW G y P S rp rs (apo σ k (1 + (bel (z >>> ((iI 6) &&& 31)) 20))) ++ []) := hD
                        refine lv_goto (tgt := 492) hx hb dL_act_488 (by decide) ?_
                        refine lv_istore (lv' := [(11, .int (iI ((apo σ k (1 + (bel (z >>> ((iI 6) &&& 31)) 20))).2 4 k))), (10, .int (iI 1)), (9, .ref (rs k)), (8, .int (iI (k : Int))), (7, .int (iI (1 + (bel (z >>> ((iI 6) &&& 31)) 20)))), (6, .int (iI (i : Int))), (5, .int (iI (bel z 16))), (4, .int (iI (σ.1 1 : Nat))), (3, .int (iI (σ.1 0 : Nat))), (0, .ref x), (1, .ref y), (2, .int z)]) hx hb dL_act_492 hl (by decide) rfl (fun ls hl => ?_)
                        refine lv_aload_n hx hb dL_act_494 rfl (lv_at hl 9 rfl) ?_
                        refine lv_iload hx hb dL_act_495 (lv_at hl 3 rfl) ?_
                        refine lv_iload hx hb dL_act_497 (lv_at hl 4 rfl) ?_
                        refine zc_wi (va_runV (As := [.int (iI (k : Int)), .int (iI (1 + (bel (z >>> ((iI 6) &&& 31)) 20)))]) (rest := []) ⟨hx, hb, hml, hown, hts⟩ (c_X0_apologize l G x a _ B σ k (1 + (bel (z >>> ((iI 6) &&& 31)) 20)) hI (by omega) (by omega) (by omega)) (cwV 2 hts gL_act_X0_apologize rfl rfl rfl (by decide +kernel) ⟨Nat.le_of_ble_eq_true rfl, Nat.le_of_ble_eq_true rfl⟩) (preWX hK (va_Pl (va_Pl hP)) (va_Dl (va_Dl hD))) rfl rfl hl.1 rfl (lv_room (Nat.le_of_ble_eq_true rfl)) dL_act_499 ⟨Nat.le_of_ble_eq_true rfl, Nat.le_of_ble_eq_true rfl⟩) hS (jA_x hD hA hS.1) (fun H locs hP1 hS _ hkk => ?_)
                        have hP := jx_keep hP hD hP1 hkk
                        have hD := jx_D (σ' := (apo σ k (1 + (bel (z >>> ((iI 6) &&& 31)) 20)))) hD
                        have hP : va_P G.1 vwCl (xW G x a (apo σ k (1 + (bel (z >>> ((iI 6) &&& 31)) 20))) ++ uW G y P S rp rs (apo σ k (1 + (bel (z >>> ((iI 6) &&& 31)) 20))) ++ []) H := hP
                        have hD : va_D (va_A (xW G x a σ ++ uW G y P S rp rs σ) s.heap.size) (xW G x a (apo σ k (1 + (bel (z >>> ((iI 6) &&& 31)) 20))) ++ uW G y P S rp rs (apo σ k (1 + (bel (z >>> ((iI 6) &&& 31)) 20))) ++ []) := hD
                        refine lv_iload hx hb dL_act_502 (lv_at hl 0 rfl) ?_
                        have f_51 := (apo_zI (k := k) (w := 1 + (bel (z >>> ((iI 6) &&& 31)) 20)) hI (by omega) (by omega) (by omega) (by omega)).r4 k
                        refine z_icmp_ne (tgt := 516) hx hb dL_act_504 (by decide) (by omega) (by omega) (fun c_52 => ?_) (fun c_52 => ?_)
                        · exfalso; omega
                        ·
                          refine lv_iload hx hb dL_act_507 (lv_at hl 1 rfl) ?_
                          refine z_if_eq (tgt := 516) hx hb dL_act_509 (by decide) (by omega) (fun c_53 => ?_) (fun c_53 => ?_)
                          · exfalso; revert c_53; decide
                          ·
                            refine lv_iconst (v := iI 1) hx hb dL_act_512 rfl ?_
                            refine lv_goto (tgt := 517) hx hb dL_act_513 (by decide) ?_
                            have hc0 : ((apo σ k (1 + (bel (z >>> ((iI 6) &&& 31)) 20)))).1 0 = σ.1 0 := apo_1 (by decide)
                            refine W.widen (k := 2) (n := 27) (Nat.le_of_ble_eq_true rfl) (Nat.le_of_ble_eq_true rfl) ?_
                            exact W.zret hx hb hr (z_nb (Or.inr rfl)) (fun t ht hW => ⟨⟨_, ((apo σ k (1 + (bel (z >>> ((iI 6) &&& 31)) 20))), P, S, rp, rs), rfl, ⟨rfl, mono_zJ (apo_zJ hJ (by omega) (by omega) (by omega) (by omega)) (by omega) (by omega), by (try dsimp only); rw [hc0]; omega, by (try dsimp only); rw [hc0]; omega⟩, by show va_P _ _ _ t.heap; rw [ht]; exact va_Pl hP, va_Dl hD⟩, hS.F ht⟩) hS.2.2 dL_act_517
                  ·
                    refine lv_iload hx hb dL_act_433 (lv_at hl 0 rfl) ?_
                    refine z_if_eq (tgt := 444) hx hb dL_act_435 (by decide) (by omega) (fun c_54 => ?_) (fun c_54 => ?_)
                    · exfalso; revert c_54; decide
                    ·
                      refine lv_aload_n hx hb dL_act_438 rfl (lv_at hl 9 rfl) ?_
                      refine lv_aload hx hb dL_act_439 (lv_at hl 1 rfl) ?_
                      have f_55 := hI.r4 k
                      refine zc_wv (va_runV (As := [.ref (rs k)]) (rest := []) ⟨hx, hb, hml, hown, hts⟩ (c_X1_speak l G y P S rp rs _ σ k (by omega) (by omega) (by omega)) (cwV 1 hts gL_act_X1_speak rfl rfl rfl (by decide +kernel) ⟨Nat.le_of_ble_eq_true rfl, Nat.le_of_ble_eq_true rfl⟩) (preWU hK (va_Pr (va_Pl hP)) (va_Dr (va_Dl hD))) rfl rfl hl.1 rfl (lv_room (Nat.le_of_ble_eq_true rfl)) dL_act_441 ⟨Nat.le_of_ble_eq_true rfl, Nat.le_of_ble_eq_true rfl⟩) hS (jA_u hD hA hS.1) (fun H locs hP1 hS _ hkk => ?_)
                      have hP := ju_keep hP hD hP1 hkk
                      have hD := ju_D (σ := σ) (σ' := (spk σ k)) rfl rfl hD
                      have hP : va_P G.1 vwCl (xW G x a σ ++ uW G y P S rp rs (spk σ k) ++ []) H := hP
                      have hD : va_D (va_A (xW G x a σ ++ uW G y P S rp rs σ) s.heap.size) (xW G x a σ ++ uW G y P S rp rs (spk σ k) ++ []) := hD
                      refine lv_aload_n hx hb dL_act_444 rfl (lv_at hl 8 rfl) ?_
                      refine lv_iload hx hb dL_act_445 (lv_at hl 2 rfl) ?_
                      refine zc_wi (va_runV (As := [.int (iI (k : Int))]) (rest := []) ⟨hx, hb, hml, hown, hts⟩ (c_X0_mention l G x a _ B σ k hI (by omega) (by omega)) (cwV 1 hts gL_act_X0_mention rfl rfl rfl (by decide +kernel) ⟨Nat.le_of_ble_eq_true rfl, Nat.le_of_ble_eq_true rfl⟩) (preWX hK (va_Pl (va_Pl hP)) (va_Dl (va_Dl hD))) rfl rfl hl.1 rfl (lv_room (Nat.le_of_ble_eq_true rfl)) dL_act_447 ⟨Nat.le_of_ble_eq_true rfl, Nat.le_of_ble_eq_true rfl⟩) hS (jA_x hD hA hS.1) (fun H locs hP1 hS _ hkk => ?_)
                      have hP := jx_keep hP hD hP1 hkk
                      have hD := jx_D (σ' := (spk σ k)) hD
                      have hP : va_P G.1 vwCl (xW G x a (spk σ k) ++ uW G y P S rp rs (spk σ k) ++ []) H := hP
                      have hD : va_D (va_A (xW G x a σ ++ uW G y P S rp rs σ) s.heap.size) (xW G x a (spk σ k) ++ uW G y P S rp rs (spk σ k) ++ []) := hD
                      refine lv_aload hx hb dL_act_450 (lv_at hl 1 rfl) ?_
                      refine lv_iconst (v := iI 2) hx hb dL_act_452 rfl ?_
                      refine u_ildS hx hb hK (va_Pr (va_Pl hP)) (k := k) (i := 2) (v := iI ((spk σ k).2 4 k)) (show k < σ.1 1 from by omega) (by decide) rfl dL_act_453 ?_
                      have f_56 := show (spk σ k).2 4 k = min (σ.2 4 k + 1) 99 from by simp [spk, stA]
                      refine z_icmp_ne (tgt := 466) hx hb dL_act_454 (by decide) (by omega) (by omega) (fun c_57 => ?_) (fun c_57 => ?_)
                      · exfalso; omega
                      ·
                        refine lv_iload hx hb dL_act_457 (lv_at hl 0 rfl) ?_
                        refine z_if_eq (tgt := 466) hx hb dL_act_459 (by decide) (by omega) (fun c_58 => ?_) (fun c_58 => ?_)
                        · exfalso; revert c_58; decide
                        ·
                          refine lv_iconst (v := iI 1) hx hb dL_act_462 rfl ?_
                          refine lv_goto (tgt := 467) hx hb dL_act_463 (by decide) ?_
                          have hc0 : ((spk σ k)).1 0 = σ.1 0 := rfl
                          refine W.widen (k := 2) (n := 27) (Nat.le_of_ble_eq_true rfl) (Nat.le_of_ble_eq_true rfl) ?_
                          exact W.zret hx hb hr (z_nb (Or.inr rfl)) (fun t ht hW => ⟨⟨_, ((spk σ k), P, S, rp, rs), rfl, ⟨rfl, mono_zJ (spk_zJ hJ (by omega) (by omega)) (by omega) (by omega), by (try dsimp only); rw [hc0]; omega, by (try dsimp only); rw [hc0]; omega⟩, by show va_P _ _ _ t.heap; rw [ht]; exact va_Pl hP, va_Dl hD⟩, hS.F ht⟩) hS.2.2 dL_act_467
              ·
                refine lv_iconst (v := iI 1) hx hb dL_act_391 rfl ?_
                have hc0 : (σ).1 0 = σ.1 0 := rfl
                refine W.widen (k := 2) (n := 27) (Nat.le_of_ble_eq_true rfl) (Nat.le_of_ble_eq_true rfl) ?_
                exact W.zret hx hb hr (z_nb (Or.inr rfl)) (fun t ht hW => ⟨⟨_, (σ, P, S, rp, rs), rfl, ⟨rfl, mono_zJ hJ (by omega) (by omega), by (try dsimp only); rw [hc0]; omega, by (try dsimp only); rw [hc0]; omega⟩, by show va_P _ _ _ t.heap; rw [ht]; exact va_Pl hP, va_Dl hD⟩, hS.F ht⟩) hS.2.2 dL_act_392
            ·
              refine lv_iconst (v := iI 1) hx hb dL_act_336 rfl ?_
              refine lv_iload_n hx hb dL_act_337 rfl (lv_at hl 7 rfl) ?_
              refine lv_iconst (v := iI 4) hx hb dL_act_338 rfl ?_
              refine lv_ishr hx hb dL_act_339 ?_
              refine lv_iload_n hx hb dL_act_340 rfl (lv_at hl 7 rfl) ?_
              refine lv_bipush (v := iI 8) hx hb dL_act_341 (by decide) ?_
              refine lv_ishr hx hb dL_act_343 ?_
              refine lv_bipush (v := iI 7) hx hb dL_act_344 (by decide) ?_
              refine zc_i (va_runS (As := [.int (z >>> ((iI 8) &&& 31)), .int (iI 7)]) (rest := [.int (z >>> ((iI 4) &&& 31)), .int (iI 1)]) ⟨hx, hb, hml, hown, hts⟩ (c_L_below l (z >>> ((iI 8) &&& 31)) 7 (by omega)) (va_cwS 2 hts gL_act_L_below rfl rfl rfl (by decide +kernel) ⟨Nat.le_of_ble_eq_true rfl, Nat.le_of_ble_eq_true rfl⟩) preS0 rfl rfl hl.1 rfl (lv_room (Nat.le_of_ble_eq_true rfl)) dL_act_346 ⟨Nat.le_of_ble_eq_true rfl, Nat.le_of_ble_eq_true rfl⟩) ?_
              have f_59 := bel_bd (z >>> ((iI 8) &&& 31)) 7 (by omega)
              refine z_if_ne (tgt := 357) hx hb dL_act_349 (by decide) (by omega) (fun c_60 => ?_) (fun c_60 => ?_)
              ·
                refine lv_bipush (v := iI 6) hx hb dL_act_357 (by decide) ?_
                refine zc_i (va_runS (As := [.int (z >>> ((iI 4) &&& 31)), .int (iI 6)]) (rest := [.int (iI 1)]) ⟨hx, hb, hml, hown, hts⟩ (c_L_below l (z >>> ((iI 4) &&& 31)) 6 (by omega)) (va_cwS 2 hts gL_act_L_below rfl rfl rfl (by decide +kernel) ⟨Nat.le_of_ble_eq_true rfl, Nat.le_of_ble_eq_true rfl⟩) preS0 rfl rfl hl.1 rfl (lv_room (Nat.le_of_ble_eq_true rfl)) dL_act_359 ⟨Nat.le_of_ble_eq_true rfl, Nat.le_of_ble_eq_true rfl⟩) ?_
                have f_61 := bel_bd (z >>> ((iI 4) &&& 31)) 6 (by omega)
                refine z_iadd hx hb dL_act_362 ?_
                obtain ⟨d, e_62⟩ : ∃ d : Nat, 1 + (bel (z >>> ((iI 4) &&& 31)) 6) = (d : Int) := ⟨(1 + (bel (z >>> ((iI 4) &&& 31)) 6)).toNat, by omega⟩
                refine z_re (v' := iI (d : Int)) (congrArg iI e_62) ?_
                refine lv_istore (lv' := [(8, .int (iI (d : Int))), (7, .int (iI (1 + (bel (z >>> ((iI 6) &&& 31)) 20)))), (6, .int (iI (i : Int))), (5, .int (iI (bel z 16))), (4, .int (iI (σ.1 1 : Nat))), (3, .int (iI (σ.1 0 : Nat))), (0, .ref x), (1, .ref y), (2, .int z)]) hx hb dL_act_363 hl (by decide) rfl (fun ls hl => ?_)
                refine lv_aload_n hx hb dL_act_365 rfl (lv_at hl 6 rfl) ?_
                refine lv_iload hx hb dL_act_366 (lv_at hl 0 rfl) ?_
                refine zc_wi (va_runV (As := [.int (iI (d : Int))]) (rest := []) ⟨hx, hb, hml, hown, hts⟩ (c_X0_pass l G x a _ B σ d hI (by omega) (by omega)) (cwV 1 hts gL_act_X0_pass rfl rfl rfl (by decide +kernel) ⟨Nat.le_of_ble_eq_true rfl, Nat.le_of_ble_eq_true rfl⟩) (preWX hK (va_Pl (va_Pl hP)) (va_Dl (va_Dl hD))) rfl rfl hl.1 rfl (lv_room (Nat.le_of_ble_eq_true rfl)) dL_act_368 ⟨Nat.le_of_ble_eq_true rfl, Nat.le_of_ble_eq_true rfl⟩) hS (jA_x hD hA hS.1) (fun H locs hP1 hS _ hkk => ?_)
                have hP := jx_keep hP hD hP1 hkk
                have hD := jx_D (σ' := ((dyn σ d).1)) hD
                have hP : va_P G.1 vwCl (xW G x a ((dyn σ d).1) ++ uW G y P S rp rs σ ++ []) H := hP
                have hD : va_D (va_A (xW G x a σ ++ uW G y P S rp rs σ) s.heap.size) (xW G x a ((dyn σ d).1) ++ uW G y P S rp rs σ ++ []) := hD
                refine lv_aload_n hx hb dL_act_371 rfl (lv_at hl 7 rfl) ?_
                refine lv_iload hx hb dL_act_372 (lv_at hl 0 rfl) ?_
                refine zc_wi (va_runV (As := [.int (iI (d : Int))]) (rest := [.int (iI ((dyn σ d).2))]) ⟨hx, hb, hml, hown, hts⟩ (c_X1_pass_ l G y P S rp rs _ B σ d hI (by omega) (by omega)) (cwV 1 hts gL_act_X1_pass_ rfl rfl rfl (by decide +kernel) ⟨Nat.le_of_ble_eq_true rfl, Nat.le_of_ble_eq_true rfl⟩) (preWU hK (va_Pr (va_Pl hP)) (va_Dr (va_Dl hD))) rfl rfl hl.1 rfl (lv_room (Nat.le_of_ble_eq_true rfl)) dL_act_374 ⟨Nat.le_of_ble_eq_true rfl, Nat.le_of_ble_eq_true rfl⟩) hS (jA_u hD hA hS.1) (fun H locs hP1 hS _ hkk => ?_)
                have hP := ju_keep hP hD hP1 hkk
                have hD := ju_D (σ := σ) (σ' := ((dyn σ d).1)) (dyn_01 σ d).1 (dyn_01 σ d).2 hD
                have hP : va_P G.1 vwCl (xW G x a ((dyn σ d).1) ++ uW G y P S rp rs ((dyn σ d).1) ++ []) H := hP
                have hD : va_D (va_A (xW G x a σ ++ uW G y P S rp rs σ) s.heap.size) (xW G x a ((dyn σ d).1) ++ uW G y P S rp rs ((dyn σ d).1) ++ []) := hD
                have f_63 := dyn_b hIn.2 d
                refine z_icmp_ne (tgt := 384) hx hb dL_act_377 (by decide) (by omega) (by omega) (fun c_64 => ?_) (fun c_64 => ?_)
                · exfalso; omega
                ·
                  refine lv_iconst (v := iI 1) hx hb dL_act_380 rfl ?_
                  refine lv_goto (tgt := 385) hx hb dL_act_381 (by decide) ?_
                  have hc0 : (((dyn σ d).1)).1 0 = σ.1 0 := (dyn_01 σ d).1
                  refine W.widen (k := 2) (n := 27) (Nat.le_of_ble_eq_true rfl) (Nat.le_of_ble_eq_true rfl) ?_
                  exact W.zret hx hb hr (z_nb (Or.inr rfl)) (fun t ht hW => ⟨⟨_, (((dyn σ d).1), P, S, rp, rs), rfl, ⟨rfl, mono_zJ (dyn_zJ hJ d (by omega)) (by omega) (by omega), by (try dsimp only); rw [hc0]; omega, by (try dsimp only); rw [hc0]; omega⟩, by show va_P _ _ _ t.heap; rw [ht]; exact va_Pl hP, va_Dl hD⟩, hS.F ht⟩) hS.2.2 dL_act_385
              ·
                refine lv_bipush (v := iI 60) hx hb dL_act_352 (by decide) ?_
                refine lv_goto (tgt := 359) hx hb dL_act_354 (by decide) ?_
                refine zc_i (va_runS (As := [.int (z >>> ((iI 4) &&& 31)), .int (iI 60)]) (rest := [.int (iI 1)]) ⟨hx, hb, hml, hown, hts⟩ (c_L_below l (z >>> ((iI 4) &&& 31)) 60 (by omega)) (va_cwS 2 hts gL_act_L_below rfl rfl rfl (by decide +kernel) ⟨Nat.le_of_ble_eq_true rfl, Nat.le_of_ble_eq_true rfl⟩) preS0 rfl rfl hl.1 rfl (lv_room (Nat.le_of_ble_eq_true rfl)) dL_act_359 ⟨Nat.le_of_ble_eq_true rfl, Nat.le_of_ble_eq_true rfl⟩) ?_
                have f_65 := bel_bd (z >>> ((iI 4) &&& 31)) 60 (by omega)
                refine z_iadd hx hb dL_act_362 ?_
                obtain ⟨d, e_66⟩ : ∃ d : Nat, 1 + (bel (z >>> ((iI 4) &&& 31)) 60) = (d : Int) := ⟨(1 + (bel (z >>> ((iI 4) &&& 31)) 60)).toNat, by omega⟩
                refine z_re (v' := iI (d : Int)) (congrArg iI e_66) ?_
                refine lv_istore (lv' := [(8, .int (iI (d : Int))), (7, .int (iI (1 + (bel (z >>> ((iI 6) &&& 31)) 20)))), (6, .int (iI (i : Int))), (5, .int (iI (bel z 16))), (4, .int (iI (σ.1 1 : Nat))), (3, .int (iI (σ.1 0 : Nat))), (0, .ref x), (1, .ref y), (2, .int z)]) hx hb dL_act_363 hl (by decide) rfl (fun ls hl => ?_)
                refine lv_aload_n hx hb dL_act_365 rfl (lv_at hl 6 rfl) ?_
                refine lv_iload hx hb dL_act_366 (lv_at hl 0 rfl) ?_
                refine zc_wi (va_runV (As := [.int (iI (d : Int))]) (rest := []) ⟨hx, hb, hml, hown, hts⟩ (c_X0_pass l G x a _ B σ d hI (by omega) (by omega)) (cwV 1 hts gL_act_X0_pass rfl rfl rfl (by decide +kernel) ⟨Nat.le_of_ble_eq_true rfl, Nat.le_of_ble_eq_true rfl⟩) (preWX hK (va_Pl (va_Pl hP)) (va_Dl (va_Dl hD))) rfl rfl hl.1 rfl (lv_room (Nat.le_of_ble_eq_true rfl)) dL_act_368 ⟨Nat.le_of_ble_eq_true rfl, Nat.le_of_ble_eq_true rfl⟩) hS (jA_x hD hA hS.1) (fun H locs hP1 hS _ hkk => ?_)
                have hP := jx_keep hP hD hP1 hkk
                have hD := jx_D (σ' := ((dyn σ d).1)) hD
                have hP : va_P G.1 vwCl (xW G x a ((dyn σ d).1) ++ uW G y P S rp rs σ ++ []) H := hP
                have hD : va_D (va_A (xW G x a σ ++ uW G y P S rp rs σ) s.heap.size) (xW G x a ((dyn σ d).1) ++ uW G y P S rp rs σ ++ []) := hD
                refine lv_aload_n hx hb dL_act_371 rfl (lv_at hl 7 rfl) ?_
                refine lv_iload hx hb dL_act_372 (lv_at hl 0 rfl) ?_
                refine zc_wi (va_runV (As := [.int (iI (d : Int))]) (rest := [.int (iI ((dyn σ d).2))]) ⟨hx, hb, hml, hown, hts⟩ (c_X1_pass_ l G y P S rp rs _ B σ d hI (by omega) (by omega)) (cwV 1 hts gL_act_X1_pass_ rfl rfl rfl (by decide +kernel) ⟨Nat.le_of_ble_eq_true rfl, Nat.le_of_ble_eq_true rfl⟩) (preWU hK (va_Pr (va_Pl hP)) (va_Dr (va_Dl hD))) rfl rfl hl.1 rfl (lv_room (Nat.le_of_ble_eq_true rfl)) dL_act_374 ⟨Nat.le_of_ble_eq_true rfl, Nat.le_of_ble_eq_true rfl⟩) hS (jA_u hD hA hS.1) (fun H locs hP1 hS _ hkk => ?_)
                have hP := ju_keep hP hD hP1 hkk
                have hD := ju_D (σ := σ) (σ' := ((dyn σ d).1)) (dyn_01 σ d).1 (dyn_01 σ d).2 hD
                have hP : va_P G.1 vwCl (xW G x a ((dyn σ d).1) ++ uW G y P S rp rs ((dyn σ d).1) ++ []) H := hP
                have hD : va_D (va_A (xW G x a σ ++ uW G y P S rp rs σ) s.heap.size) (xW G x a ((dyn σ d).1) ++ uW G y P S rp rs ((dyn σ d).1) ++ []) := hD
                have f_67 := dyn_b hIn.2 d
                refine z_icmp_ne (tgt := 384) hx hb dL_act_377 (by decide) (by omega) (by omega) (fun c_68 => ?_) (fun c_68 => ?_)
                · exfalso; omega
                ·
                  refine lv_iconst (v := iI 1) hx hb dL_act_380 rfl ?_
                  refine lv_goto (tgt := 385) hx hb dL_act_381 (by decide) ?_
                  have hc0 : (((dyn σ d).1)).1 0 = σ.1 0 := (dyn_01 σ d).1
                  refine W.widen (k := 2) (n := 27) (Nat.le_of_ble_eq_true rfl) (Nat.le_of_ble_eq_true rfl) ?_
                  exact W.zret hx hb hr (z_nb (Or.inr rfl)) (fun t ht hW => ⟨⟨_, (((dyn σ d).1), P, S, rp, rs), rfl, ⟨rfl, mono_zJ (dyn_zJ hJ d (by omega)) (by omega) (by omega), by (try dsimp only); rw [hc0]; omega, by (try dsimp only); rw [hc0]; omega⟩, by show va_P _ _ _ t.heap; rw [ht]; exact va_Pl hP, va_Dl hD⟩, hS.F ht⟩) hS.2.2 dL_act_385
          ·
            refine lv_aload_n hx hb dL_act_274 rfl (lv_at hl 6 rfl) ?_
            refine u_get (v := .ref P) hx hb hts hin0 hown hK (va_Pr (va_Pl hP)) 0 rfl 0 (by decide) w_0 rfl rfl dL_act_275 ?_
            refine lv_iload hx hb dL_act_278 (lv_at hl 1 rfl) ?_
            refine u_aalP hx hb hK (va_Pr (va_Pl hP)) (k := i) (show i < σ.1 0 from by omega) (show σ.1 0 < 2147483648 from by omega) dL_act_280 ?_
            refine lv_iconst (v := iI 0) hx hb dL_act_281 rfl ?_
            refine u_ildP hx hb hK (va_Pr (va_Pl hP)) (k := i) (i := 0) (v := iI (σ.2 0 i)) (show i < σ.1 0 from by omega) (by decide) rfl dL_act_282 ?_
            have f_69 := hI.r0 i
            refine lv_istore (lv' := [(8, .int (iI (σ.2 0 i))), (7, .int (iI (1 + (bel (z >>> ((iI 6) &&& 31)) 20)))), (6, .int (iI (i : Int))), (5, .int (iI (bel z 16))), (4, .int (iI (σ.1 1 : Nat))), (3, .int (iI (σ.1 0 : Nat))), (0, .ref x), (1, .ref y), (2, .int z)]) hx hb dL_act_283 hl (by decide) rfl (fun ls hl => ?_)
            refine lv_aload_n hx hb dL_act_285 rfl (lv_at hl 7 rfl) ?_
            refine u_get (v := .ref P) hx hb hts hin0 hown hK (va_Pr (va_Pl hP)) 0 rfl 0 (by decide) w_0 rfl rfl dL_act_286 ?_
            refine lv_iload hx hb dL_act_289 (lv_at hl 2 rfl) ?_
            refine u_aalP hx hb hK (va_Pr (va_Pl hP)) (k := i) (show i < σ.1 0 from by omega) (show σ.1 0 < 2147483648 from by omega) dL_act_291 ?_
            refine lv_iconst (v := iI 0) hx hb dL_act_292 rfl ?_
            refine lv_iload_n hx hb dL_act_293 rfl (lv_at hl 8 rfl) ?_
            refine lv_bipush (v := iI 6) hx hb dL_act_294 (by decide) ?_
            refine lv_ishr hx hb dL_act_296 ?_
            refine lv_bipush (v := iI 10) hx hb dL_act_297 (by decide) ?_
            refine zc_i (va_runS (As := [.int (z >>> ((iI 6) &&& 31)), .int (iI 10)]) (rest := [.int (iI 0), .ref (rp i)]) ⟨hx, hb, hml, hown, hts⟩ (c_L_below l (z >>> ((iI 6) &&& 31)) 10 (by omega)) (va_cwS 2 hts gL_act_L_below rfl rfl rfl (by decide +kernel) ⟨Nat.le_of_ble_eq_true rfl, Nat.le_of_ble_eq_true rfl⟩) preS0 rfl rfl hl.1 rfl (lv_room (Nat.le_of_ble_eq_true rfl)) dL_act_299 ⟨Nat.le_of_ble_eq_true rfl, Nat.le_of_ble_eq_true rfl⟩) ?_
            have f_70 := bel_bd (z >>> ((iI 6) &&& 31)) 10 (by omega)
            refine j_istP hx hb hK hP hD hS (k := i) (i := 0) (v := (bel (z >>> ((iI 6) &&& 31)) 10)) (show i < σ.1 0 from by omega) (by decide) dL_act_302 (fun H locs hP hD hS => ?_)
            refine lv_aload_n hx hb dL_act_303 rfl (lv_at hl 6 rfl) ?_
            refine lv_iload hx hb dL_act_304 (lv_at hl 2 rfl) ?_
            refine lv_aload_n hx hb dL_act_306 rfl (lv_at hl 7 rfl) ?_
            refine u_get (v := .ref P) hx hb hts hin0 hown hK (va_Pr (va_Pl hP)) 0 rfl 0 (by decide) w_0 rfl rfl dL_act_307 ?_
            refine lv_iload hx hb dL_act_310 (lv_at hl 2 rfl) ?_
            refine u_aalP hx hb hK (va_Pr (va_Pl hP)) (k := i) (show i < σ.1 0 from by omega) (show σ.1 0 < 2147483648 from by omega) dL_act_312 ?_
            refine lv_iconst (v := iI 0) hx hb dL_act_313 rfl ?_
            refine u_ildP hx hb hK (va_Pr (va_Pl hP)) (k := i) (i := 0) (v := iI (bel (z >>> ((iI 6) &&& 31)) 10)) (show i < σ.1 0 from by omega) (by decide) (congrArg iI (by simp [stA, stS])) dL_act_314 ?_
            refine zc_wi (va_runV (As := [.int (iI (i : Int)), .int (iI (bel (z >>> ((iI 6) &&& 31)) 10))]) (rest := []) ⟨hx, hb, hml, hown, hts⟩ (c_X0_setPride l G x a _ B σ i (bel (z >>> ((iI 6) &&& 31)) 10) hI (by omega) (by omega)) (cwV 2 hts gL_act_X0_setPride rfl rfl rfl (by decide +kernel) ⟨Nat.le_of_ble_eq_true rfl, Nat.le_of_ble_eq_true rfl⟩) (preWX hK (va_Pl (va_Pl hP)) (va_Dl (va_Dl hD))) rfl rfl hl.1 rfl (lv_room (Nat.le_of_ble_eq_true rfl)) dL_act_315 ⟨Nat.le_of_ble_eq_true rfl, Nat.le_of_ble_eq_true rfl⟩) hS (jA_x hD hA hS.1) (fun H locs hP1 hS _ hkk => ?_)
            have hP := jx_keep hP hD hP1 hkk
            have hD := jx_D (σ' := (stA σ 0 i (bel (z >>> ((iI 6) &&& 31)) 10))) hD
            have hP : va_P G.1 vwCl (xW G x a (stA σ 0 i (bel (z >>> ((iI 6) &&& 31)) 10)) ++ uW G y P S rp rs (stA σ 0 i (bel (z >>> ((iI 6) &&& 31)) 10)) ++ []) H := hP
            have hD : va_D (va_A (xW G x a σ ++ uW G y P S rp rs σ) s.heap.size) (xW G x a (stA σ 0 i (bel (z >>> ((iI 6) &&& 31)) 10)) ++ uW G y P S rp rs (stA σ 0 i (bel (z >>> ((iI 6) &&& 31)) 10)) ++ []) := hD
            refine lv_iload hx hb dL_act_318 (lv_at hl 0 rfl) ?_
            refine z_icmp_ne (tgt := 327) hx hb dL_act_320 (by decide) (by omega) (by omega) (fun c_71 => ?_) (fun c_71 => ?_)
            · exfalso; omega
            ·
              refine lv_iconst (v := iI 1) hx hb dL_act_323 rfl ?_
              refine lv_goto (tgt := 328) hx hb dL_act_324 (by decide) ?_
              have hc0 : ((stA σ 0 i (bel (z >>> ((iI 6) &&& 31)) 10))).1 0 = σ.1 0 := rfl
              refine W.widen (k := 2) (n := 27) (Nat.le_of_ble_eq_true rfl) (Nat.le_of_ble_eq_true rfl) ?_
              exact W.zret hx hb hr (z_nb (Or.inr rfl)) (fun t ht hW => ⟨⟨_, ((stA σ 0 i (bel (z >>> ((iI 6) &&& 31)) 10)), P, S, rp, rs), rfl, ⟨rfl, mono_zJ (pri_zJ hJ (by omega)) (by omega) (by omega), by (try dsimp only); rw [hc0]; omega, by (try dsimp only); rw [hc0]; omega⟩, by show va_P _ _ _ t.heap; rw [ht]; exact va_Pl hP, va_Dl hD⟩, hS.F ht⟩) hS.2.2 dL_act_328
        ·
          refine lv_aload_n hx hb dL_act_214 rfl (lv_at hl 6 rfl) ?_
          refine u_get (v := .ref P) hx hb hts hin0 hown hK (va_Pr (va_Pl hP)) 0 rfl 0 (by decide) w_0 rfl rfl dL_act_215 ?_
          refine lv_iload hx hb dL_act_218 (lv_at hl 1 rfl) ?_
          refine u_aalP hx hb hK (va_Pr (va_Pl hP)) (k := i) (show i < σ.1 0 from by omega) (show σ.1 0 < 2147483648 from by omega) dL_act_220 ?_
          refine lv_iconst (v := iI 1) hx hb dL_act_221 rfl ?_
          refine lv_iconst (v := iI 1) hx hb dL_act_222 rfl ?_
          refine lv_aload_n hx hb dL_act_223 rfl (lv_at hl 6 rfl) ?_
          refine u_get (v := .ref P) hx hb hts hin0 hown hK (va_Pr (va_Pl hP)) 0 rfl 0 (by decide) w_0 rfl rfl dL_act_224 ?_
          refine lv_iload hx hb dL_act_227 (lv_at hl 1 rfl) ?_
          refine u_aalP hx hb hK (va_Pr (va_Pl hP)) (k := i) (show i < σ.1 0 from by omega) (show σ.1 0 < 2147483648 from by omega) dL_act_229 ?_
          refine lv_iconst (v := iI 1) hx hb dL_act_230 rfl ?_
          refine u_ildP hx hb hK (va_Pr (va_Pl hP)) (k := i) (i := 1) (v := iI (σ.2 1 i)) (show i < σ.1 0 from by omega) (by decide) rfl dL_act_231 ?_
          have f_72 := hI.r1 i
          refine z_isub hx hb dL_act_232 ?_
          refine j_istP hx hb hK hP hD hS (k := i) (i := 1) (v := (1 - (σ.2 1 i))) (show i < σ.1 0 from by omega) (by decide) dL_act_233 (fun H locs hP hD hS => ?_)
          refine lv_aload_n hx hb dL_act_234 rfl (lv_at hl 5 rfl) ?_
          refine lv_iload hx hb dL_act_235 (lv_at hl 1 rfl) ?_
          refine zc_wi (va_runV (As := [.int (iI (i : Int))]) (rest := []) ⟨hx, hb, hml, hown, hts⟩ (c_X0_enter l G x a _ B σ i hI (by omega)) (cwV 1 hts gL_act_X0_enter rfl rfl rfl (by decide +kernel) ⟨Nat.le_of_ble_eq_true rfl, Nat.le_of_ble_eq_true rfl⟩) (preWX hK (va_Pl (va_Pl hP)) (va_Dl (va_Dl hD))) rfl rfl hl.1 rfl (lv_room (Nat.le_of_ble_eq_true rfl)) dL_act_237 ⟨Nat.le_of_ble_eq_true rfl, Nat.le_of_ble_eq_true rfl⟩) hS (jA_x hD hA hS.1) (fun H locs hP1 hS _ hkk => ?_)
          have hP := jx_keep hP hD hP1 hkk
          have hD := jx_D (σ' := (ent σ i)) hD
          have hP : va_P G.1 vwCl (xW G x a (ent σ i) ++ uW G y P S rp rs (stA σ 1 i (1 - (σ.2 1 i))) ++ []) H := hP
          have hD : va_D (va_A (xW G x a σ ++ uW G y P S rp rs σ) s.heap.size) (xW G x a (ent σ i) ++ uW G y P S rp rs (stA σ 1 i (1 - (σ.2 1 i))) ++ []) := hD
          refine lv_aload_n hx hb dL_act_240 rfl (lv_at hl 6 rfl) ?_
          refine u_get (v := .ref P) hx hb hts hin0 hown hK (va_Pr (va_Pl hP)) 0 rfl 0 (by decide) w_0 rfl rfl dL_act_241 ?_
          refine lv_iload hx hb dL_act_244 (lv_at hl 1 rfl) ?_
          refine u_aalP hx hb hK (va_Pr (va_Pl hP)) (k := i) (show i < σ.1 0 from by omega) (show σ.1 0 < 2147483648 from by omega) dL_act_246 ?_
          refine lv_iconst (v := iI 1) hx hb dL_act_247 rfl ?_
          refine u_ildP hx hb hK (va_Pr (va_Pl hP)) (k := i) (i := 1) (v := iI (1 - (σ.2 1 i))) (show i < σ.1 0 from by omega) (by decide) (congrArg iI (by simp [stA, stS])) dL_act_248 ?_
          refine lv_iconst (v := iI 1) hx hb dL_act_249 rfl ?_
          refine z_icmp_ne (tgt := 257) hx hb dL_act_250 (by decide) (by omega) (by omega) (fun c_73 => ?_) (fun c_73 => ?_)
          ·
            refine lv_iconst (v := iI 0) hx hb dL_act_257 rfl ?_
            refine z_icmp_ne (tgt := 265) hx hb dL_act_258 (by decide) (by omega) (by omega) (fun c_74 => ?_) (fun c_74 => ?_)
            · exfalso; omega
            ·
              refine lv_iconst (v := iI 1) hx hb dL_act_261 rfl ?_
              refine lv_goto (tgt := 266) hx hb dL_act_262 (by decide) ?_
              have hc0 : ((ent σ i)).1 0 = σ.1 0 := rfl
              refine W.widen (k := 2) (n := 27) (Nat.le_of_ble_eq_true rfl) (Nat.le_of_ble_eq_true rfl) ?_
              exact W.zret hx hb hr (z_nb (Or.inr rfl)) (fun t ht hW => ⟨⟨_, ((ent σ i), P, S, rp, rs), rfl, ⟨rfl, mono_zJ (ent_zJ hJ (by omega)) (by omega) (by omega), by (try dsimp only); rw [hc0]; omega, by (try dsimp only); rw [hc0]; omega⟩, by show va_P _ _ _ t.heap; rw [ht]; exact va_Pl hP, va_Dl hD⟩, hS.F ht⟩) hS.2.2 dL_act_266
          ·
            refine lv_iconst (v := iI 1) hx hb dL_act_253 rfl ?_
            refine lv_goto (tgt := 258) hx hb dL_act_254 (by decide) ?_
            refine z_icmp_ne (tgt := 265) hx hb dL_act_258 (by decide) (by omega) (by omega) (fun c_75 => ?_) (fun c_75 => ?_)
            · exfalso; omega
            ·
              refine lv_iconst (v := iI 1) hx hb dL_act_261 rfl ?_
              refine lv_goto (tgt := 266) hx hb dL_act_262 (by decide) ?_
              have hc0 : ((ent σ i)).1 0 = σ.1 0 := rfl
              refine W.widen (k := 2) (n := 27) (Nat.le_of_ble_eq_true rfl) (Nat.le_of_ble_eq_true rfl) ?_
              exact W.zret hx hb hr (z_nb (Or.inr rfl)) (fun t ht hW => ⟨⟨_, ((ent σ i), P, S, rp, rs), rfl, ⟨rfl, mono_zJ (ent_zJ hJ (by omega)) (by omega) (by omega), by (try dsimp only); rw [hc0]; omega, by (try dsimp only); rw [hc0]; omega⟩, by show va_P _ _ _ t.heap; rw [ht]; exact va_Pl hP, va_Dl hD⟩, hS.F ht⟩) hS.2.2 dL_act_266
      ·
        refine lv_iload hx hb dL_act_116 (lv_at hl 1 rfl) ?_
        refine lv_iconst (v := iI 1) hx hb dL_act_118 rfl ?_
        refine z_iadd hx hb dL_act_119 ?_
        refine lv_iload_n hx hb dL_act_120 rfl (lv_at hl 7 rfl) ?_
        refine lv_bipush (v := iI 7) hx hb dL_act_121 (by decide) ?_
        refine lv_ishr hx hb dL_act_123 ?_
        refine lv_iload_n hx hb dL_act_124 rfl (lv_at hl 4 rfl) ?_
        refine lv_iconst (v := iI 1) hx hb dL_act_125 rfl ?_
        refine z_isub hx hb dL_act_126 ?_
        refine zc_i (va_runS (As := [.int (z >>> ((iI 7) &&& 31)), .int (iI ((σ.1 0 : Nat) - 1))]) (rest := [.int (iI ((i : Int) + 1))]) ⟨hx, hb, hml, hown, hts⟩ (c_L_below l (z >>> ((iI 7) &&& 31)) ((σ.1 0 : Nat) - 1) (by omega)) (va_cwS 2 hts gL_act_L_below rfl rfl rfl (by decide +kernel) ⟨Nat.le_of_ble_eq_true rfl, Nat.le_of_ble_eq_true rfl⟩) preS0 rfl rfl hl.1 rfl (lv_room (Nat.le_of_ble_eq_true rfl)) dL_act_127 ⟨Nat.le_of_ble_eq_true rfl, Nat.le_of_ble_eq_true rfl⟩) ?_
        have f_76 := bel_bd (z >>> ((iI 7) &&& 31)) ((σ.1 0 : Nat) - 1) (by omega)
        refine z_iadd hx hb dL_act_130 ?_
        refine lv_iload_n hx hb dL_act_131 rfl (lv_at hl 4 rfl) ?_
        have hoth : 0 ≤ (((i : Int) + 1) + (bel (z >>> ((iI 7) &&& 31)) ((σ.1 0 : Nat) - 1))) % (σ.1 0 : Nat) ∧ (((i : Int) + 1) + (bel (z >>> ((iI 7) &&& 31)) ((σ.1 0 : Nat) - 1))) % (σ.1 0 : Nat) < (σ.1 0 : Nat) ∧ (((i : Int) + 1) + (bel (z >>> ((iI 7) &&& 31)) ((σ.1 0 : Nat) - 1))) % (σ.1 0 : Nat) ≠ (i : Int) := oth _ _ _ (by omega)
        refine z_irem hx hb dL_act_132 (by omega) (by omega) ?_
        obtain ⟨o, e_77⟩ : ∃ o : Nat, (((i : Int) + 1) + (bel (z >>> ((iI 7) &&& 31)) ((σ.1 0 : Nat) - 1))) % (σ.1 0 : Nat) = (o : Int) := ⟨((((i : Int) + 1) + (bel (z >>> ((iI 7) &&& 31)) ((σ.1 0 : Nat) - 1))) % (σ.1 0 : Nat)).toNat, by omega⟩
        refine z_re (v' := iI (o : Int)) (congrArg iI e_77) ?_
        refine lv_istore (lv' := [(8, .int (iI (o : Int))), (7, .int (iI (1 + (bel (z >>> ((iI 6) &&& 31)) 20)))), (6, .int (iI (i : Int))), (5, .int (iI (bel z 16))), (4, .int (iI (σ.1 1 : Nat))), (3, .int (iI (σ.1 0 : Nat))), (0, .ref x), (1, .ref y), (2, .int z)]) hx hb dL_act_133 hl (by decide) rfl (fun ls hl => ?_)
        refine lv_iload hx hb dL_act_135 (lv_at hl 4 rfl) ?_
        refine lv_bipush (v := iI 20) hx hb dL_act_137 (by decide) ?_
        refine z_icmp_ne (tgt := 144) hx hb dL_act_139 (by decide) (by omega) (by omega) (fun c_78 => ?_) (fun c_78 => ?_)
        ·
          refine lv_aload_n hx hb dL_act_144 rfl (lv_at hl 7 rfl) ?_
          refine lv_aload_n hx hb dL_act_145 rfl (lv_at hl 7 rfl) ?_
          refine u_get (v := .ref S) hx hb hts hin0 hown hK (va_Pr (va_Pl hP)) 0 rfl 1 (by decide) w_1 rfl rfl dL_act_146 ?_
          refine lv_bipush (v := iI 6) hx hb dL_act_149 (by decide) ?_
          refine z_newi (N := 6) hx hb w_2 hK hP hD hS hA (by decide) (Nat.le_of_ble_eq_true rfl) (Nat.le_of_ble_eq_true rfl) dL_act_151 (fun q_79 H hP hD hS => ?_)
          rw [List.append_nil] at hP hD
          have hP : va_P G.1 vwCl (xW G x a σ ++ uW G y P S rp rs σ ++ [(q_79, .inl (G.2.1, 6, .inl (fun _ => 0)))]) H := hP
          have hD : va_D (va_A (xW G x a σ ++ uW G y P S rp rs σ) s.heap.size) (xW G x a σ ++ uW G y P S rp rs σ ++ [(q_79, .inl (G.2.1, 6, .inl (fun _ => 0)))]) := hD
          refine lv_dup hx hb dL_act_153 rfl ?_
          refine lv_iconst (v := iI 0) hx hb dL_act_154 rfl ?_
          refine lv_iload hx hb dL_act_155 (lv_at hl 2 rfl) ?_
          refine j_istN hx hb hK (ws := xW G x a σ ++ uW G y P S rp rs σ) hP hD hS (i := 0) (by decide) (by decide) dL_act_157 (fun H locs hP hD hS => ?_)
          refine lv_dup hx hb dL_act_158 rfl ?_
          refine lv_iconst (v := iI 1) hx hb dL_act_159 rfl ?_
          refine lv_iload hx hb dL_act_160 (lv_at hl 0 rfl) ?_
          refine j_istN hx hb hK (ws := xW G x a σ ++ uW G y P S rp rs σ) hP hD hS (i := 1) (by decide) (by decide) dL_act_162 (fun H locs hP hD hS => ?_)
          refine lv_dup hx hb dL_act_163 rfl ?_
          refine lv_iconst (v := iI 2) hx hb dL_act_164 rfl ?_
          refine lv_iload hx hb dL_act_165 (lv_at hl 1 rfl) ?_
          refine j_istN hx hb hK (ws := xW G x a σ ++ uW G y P S rp rs σ) hP hD hS (i := 2) (by decide) (by decide) dL_act_167 (fun H locs hP hD hS => ?_)
          refine lv_dup hx hb dL_act_168 rfl ?_
          refine lv_iconst (v := iI 3) hx hb dL_act_169 rfl ?_
          refine lv_iconst (v := iI 0) hx hb dL_act_170 rfl ?_
          refine j_istN hx hb hK (ws := xW G x a σ ++ uW G y P S rp rs σ) hP hD hS (i := 3) (by decide) (by decide) dL_act_171 (fun H locs hP hD hS => ?_)
          refine lv_dup hx hb dL_act_172 rfl ?_
          refine lv_iconst (v := iI 4) hx hb dL_act_173 rfl ?_
          refine lv_iconst (v := iI 0) hx hb dL_act_174 rfl ?_
          refine j_istN hx hb hK (ws := xW G x a σ ++ uW G y P S rp rs σ) hP hD hS (i := 4) (by decide) (by decide) dL_act_175 (fun H locs hP hD hS => ?_)
          refine lv_dup hx hb dL_act_176 rfl ?_
          refine lv_iconst (v := iI 5) hx hb dL_act_177 rfl ?_
          refine lv_iconst (v := iI 0) hx hb dL_act_178 rfl ?_
          refine j_istN hx hb hK (ws := xW G x a σ ++ uW G y P S rp rs σ) hP hD hS (i := 5) (by decide) (by decide) dL_act_179 (fun H locs hP hD hS => ?_)
          refine va_callr (va_runS (As := [.ref S, .ref q_79]) (rest := [.ref y]) ⟨hx, hb, hml, hown, hts⟩ (c_X1_with l G (xW G x a σ ++ uW G y P S rp rs σ ++ [(q_79, .inl (G.2.1, 6, .inl (upd (upd (upd (upd (upd (upd (fun _ => 0) 0 (iI (i : Int))) 1 (iI (o : Int))) 2 (iI (1 + (bel (z >>> ((iI 6) &&& 31)) 20)))) 3 (iI 0)) 4 (iI 0)) 5 (iI 0))))]) S q_79 (σ.1 1) rs _ (by omega) 11 rfl (fun k hk => ⟨9 + (3 + σ.1 0 + k), 6, sf σ k, app_mid (uW_s hk)⟩) ⟨_, _, _, app_lst (k := 0) rfl⟩) (va_cwS 2 hts gL_act_X1_with rfl rfl rfl (by decide +kernel) ⟨Nat.le_of_ble_eq_true rfl, Nat.le_of_ble_eq_true rfl⟩) (preWith hK hP hO) rfl rfl hl.1 rfl (lv_room (Nat.le_of_ble_eq_true rfl)) dL_act_180 ⟨Nat.le_of_ble_eq_true rfl, Nat.le_of_ble_eq_true rfl⟩) hS (fun q _ h => hA q (Nat.le_trans hS.1 h)) (fun q h => hA q (Nat.le_trans hS.1 h)) (fun _ ra t H1 locs1 ht _ _ hB hz hkk hS1 => ?_)
          obtain ⟨hN, hra⟩ := hB
          rw [ht] at hN
          have hPo : va_P G.1 vwCl (xW G x a σ ++ uW G y P S rp rs σ ++ [(q_79, .inl (G.2.1, 6, .inl (upd (upd (upd (upd (upd (upd (fun _ => 0) 0 (iI (i : Int))) 1 (iI (o : Int))) 2 (iI (1 + (bel (z >>> ((iI 6) &&& 31)) 20)))) 3 (iI 0)) 4 (iI 0)) 5 (iI 0))))]) H1 := hP.kept fun k q hq => hkk q.1 (hP k q hq).lt (fun h => by have h9 : _ ≤ q.1 := h; have := (hP k q hq).lt; omega)
          have hne : ∀ (k : Nat) (q : Nat × va_E), ((xW G x a σ ++ uW G y P S rp rs σ ++ [(q_79, .inl (G.2.1, 6, .inl (upd (upd (upd (upd (upd (upd (fun _ => 0) 0 (iI (i : Int))) 1 (iI (o : Int))) 2 (iI (1 + (bel (z >>> ((iI 6) &&& 31)) 20)))) 3 (iI 0)) 4 (iI 0)) 5 (iI 0))))]) : va_W)[k]? = some q → q.1 ≠ ra := fun k q hq => by have := (hP k q hq).lt; omega
          have hD := j_addq (e := oR G ra ((σ.1 1) + 1) (sn rs (σ.1 1) q_79)) hD hne (hA ra (Nat.le_trans hS.1 hra))
          have hP := hPo.app hN
          rw [List.append_assoc] at hP hD
          have hP : va_P G.1 vwCl (xW G x a σ ++ uX G y P S rp rs σ (uF P S σ) ++ [(q_79, .inl (G.2.1, 6, .inl (upd (upd (upd (upd (upd (upd (fun _ => 0) 0 (iI (i : Int))) 1 (iI (o : Int))) 2 (iI (1 + (bel (z >>> ((iI 6) &&& 31)) 20)))) 3 (iI 0)) 4 (iI 0)) 5 (iI 0)))), oR G ra ((σ.1 1) + 1) (sn rs (σ.1 1) q_79)]) H1 := hP
          have hD : va_D (va_A (xW G x a σ ++ uW G y P S rp rs σ) s.heap.size) (xW G x a σ ++ uX G y P S rp rs σ (uF P S σ) ++ [(q_79, .inl (G.2.1, 6, .inl (upd (upd (upd (upd (upd (upd (fun _ => 0) 0 (iI (i : Int))) 1 (iI (o : Int))) 2 (iI (1 + (bel (z >>> ((iI 6) &&& 31)) 20)))) 3 (iI 0)) 4 (iI 0)) 5 (iI 0)))), oR G ra ((σ.1 1) + 1) (sn rs (σ.1 1) q_79)]) := hD
          have hS := hS1
          refine u_putq hx hb hts hin0 hown hK hP hD hS 9 rfl 1 (by decide) w_1 rfl rfl (by decide +kernel) (Nat.le_of_ble_eq_true rfl) uX_put dL_act_183 (fun H locs hP hD hS => ?_)
          obtain ⟨hP, hD⟩ := grow_S (τ := σ) (τ' := sli σ i o (1 + (bel (z >>> ((iI 6) &&& 31)) 20))) rfl rfl rfl rfl (fun p => sli_pf p) (sli_sfn hI) (fun k hk => sli_sf hk) hP hD
          refine lv_aload_n hx hb dL_act_186 rfl (lv_at hl 6 rfl) ?_
          refine lv_iload hx hb dL_act_187 (lv_at hl 2 rfl) ?_
          refine lv_iload hx hb dL_act_189 (lv_at hl 0 rfl) ?_
          refine lv_iload hx hb dL_act_191 (lv_at hl 1 rfl) ?_
          refine zc_wi (va_runV (As := [.int (iI (i : Int)), .int (iI (o : Int)), .int (iI (1 + (bel (z >>> ((iI 6) &&& 31)) 20)))]) (rest := []) ⟨hx, hb, hml, hown, hts⟩ (c_X0_slight l G x a _ B σ i o (1 + (bel (z >>> ((iI 6) &&& 31)) 20)) hI (by omega) (by omega) (by omega) (by omega) (by omega)) (cwV 3 hts gL_act_X0_slight rfl rfl rfl (by decide +kernel) ⟨Nat.le_of_ble_eq_true rfl, Nat.le_of_ble_eq_true rfl⟩) (preWX hK (va_Pl (va_Pl hP)) (va_Dl (va_Dl hD))) rfl rfl hl.1 rfl (lv_room (Nat.le_of_ble_eq_true rfl)) dL_act_193 ⟨Nat.le_of_ble_eq_true rfl, Nat.le_of_ble_eq_true rfl⟩) hS (jA_x hD hA hS.1) (fun H locs hP1 hS _ hkk => ?_)
          have hP := jx_keep hP hD hP1 hkk
          have hD := jx_D (σ' := (sli σ i o (1 + (bel (z >>> ((iI 6) &&& 31)) 20)))) hD
          have hP : va_P G.1 vwCl (xW G x a (sli σ i o (1 + (bel (z >>> ((iI 6) &&& 31)) 20))) ++ uW G y P ra rp (sn rs (σ.1 1) q_79) (sli σ i o (1 + (bel (z >>> ((iI 6) &&& 31)) 20))) ++ []) H := hP
          have hD : va_D (va_A (xW G x a σ ++ uW G y P S rp rs σ) s.heap.size) (xW G x a (sli σ i o (1 + (bel (z >>> ((iI 6) &&& 31)) 20))) ++ uW G y P ra rp (sn rs (σ.1 1) q_79) (sli σ i o (1 + (bel (z >>> ((iI 6) &&& 31)) 20))) ++ []) := hD
          refine lv_iload hx hb dL_act_196 (lv_at hl 4 rfl) ?_
          refine z_icmp_ne (tgt := 205) hx hb dL_act_198 (by decide) (by omega) (by omega) (fun c_80 => ?_) (fun c_80 => ?_)
          · exfalso; omega
          ·
            refine lv_iconst (v := iI 1) hx hb dL_act_201 rfl ?_
            refine lv_goto (tgt := 206) hx hb dL_act_202 (by decide) ?_
            have hc0 : ((sli σ i o (1 + (bel (z >>> ((iI 6) &&& 31)) 20)))).1 0 = σ.1 0 := rfl
            refine W.widen (k := 2) (n := 27) (Nat.le_of_ble_eq_true rfl) (Nat.le_of_ble_eq_true rfl) ?_
            exact W.zret hx hb hr (z_nb (Or.inr rfl)) (fun t ht hW => ⟨⟨_, ((sli σ i o (1 + (bel (z >>> ((iI 6) &&& 31)) 20))), P, ra, rp, (sn rs (σ.1 1) q_79)), rfl, ⟨rfl, mono_zJ (sli_zJ hJ (by omega) (by omega) (by omega) (by omega) (by omega)) (by omega) (by omega), by (try dsimp only); rw [hc0]; omega, by (try dsimp only); rw [hc0]; omega⟩, by show va_P _ _ _ t.heap; rw [ht]; exact va_Pl hP, va_Dl hD⟩, hS.F ht⟩) hS.2.2 dL_act_206
        ·
          refine lv_iconst (v := iI 1) hx hb dL_act_142 rfl ?_
          have hc0 : (σ).1 0 = σ.1 0 := rfl
          refine W.widen (k := 2) (n := 27) (Nat.le_of_ble_eq_true rfl) (Nat.le_of_ble_eq_true rfl) ?_
          exact W.zret hx hb hr (z_nb (Or.inr rfl)) (fun t ht hW => ⟨⟨_, (σ, P, S, rp, rs), rfl, ⟨rfl, mono_zJ hJ (by omega) (by omega), by (try dsimp only); rw [hc0]; omega, by (try dsimp only); rw [hc0]; omega⟩, by show va_P _ _ _ t.heap; rw [ht]; exact va_Pl hP, va_Dl hD⟩, hS.F ht⟩) hS.2.2 dL_act_143
    ·
      refine lv_iload_n hx hb dL_act_31 rfl (lv_at hl 2 rfl) ?_
      refine lv_bipush (v := iI 6) hx hb dL_act_32 (by decide) ?_
      refine z_icmp_ne (tgt := 39) hx hb dL_act_34 (by decide) (by omega) (by omega) (fun c_81 => ?_) (fun c_81 => ?_)
      ·
        refine lv_iload_n hx hb dL_act_39 rfl (lv_at hl 5 rfl) ?_
        refine lv_iconst (v := iI 4) hx hb dL_act_40 rfl ?_
        refine lv_ishr hx hb dL_act_41 ?_
        refine lv_bipush (v := iI 10) hx hb dL_act_42 (by decide) ?_
        refine zc_i (va_runS (As := [.int (z >>> ((iI 4) &&& 31)), .int (iI 10)]) (rest := []) ⟨hx, hb, hml, hown, hts⟩ (c_L_below l (z >>> ((iI 4) &&& 31)) 10 (by omega)) (va_cwS 2 hts gL_act_L_below rfl rfl rfl (by decide +kernel) ⟨Nat.le_of_ble_eq_true rfl, Nat.le_of_ble_eq_true rfl⟩) preS0 rfl rfl hl.1 rfl (lv_room (Nat.le_of_ble_eq_true rfl)) dL_act_44 ⟨Nat.le_of_ble_eq_true rfl, Nat.le_of_ble_eq_true rfl⟩) ?_
        have f_82 := bel_bd (z >>> ((iI 4) &&& 31)) 10 (by omega)
        refine lv_istore (lv' := [(6, .int (iI (bel (z >>> ((iI 4) &&& 31)) 10))), (5, .int (iI (bel z 16))), (4, .int (iI (σ.1 1 : Nat))), (3, .int (iI (σ.1 0 : Nat))), (0, .ref x), (1, .ref y), (2, .int z)]) hx hb dL_act_47 hl (by decide) rfl (fun ls hl => ?_)
        refine lv_aload_n hx hb dL_act_49 rfl (lv_at hl 5 rfl) ?_
        refine lv_aload_n hx hb dL_act_50 rfl (lv_at hl 5 rfl) ?_
        refine u_get (v := .ref P) hx hb hts hin0 hown hK (va_Pr (va_Pl hP)) 0 rfl 0 (by decide) w_0 rfl rfl dL_act_51 ?_
        refine lv_iconst (v := iI 2) hx hb dL_act_54 rfl ?_
        refine z_newi (N := 2) hx hb w_2 hK hP hD hS hA (by decide) (Nat.le_of_ble_eq_true rfl) (Nat.le_of_ble_eq_true rfl) dL_act_55 (fun q_83 H hP hD hS => ?_)
        rw [List.append_nil] at hP hD
        have hP : va_P G.1 vwCl (xW G x a σ ++ uW G y P S rp rs σ ++ [(q_83, .inl (G.2.1, 2, .inl (fun _ => 0)))]) H := hP
        have hD : va_D (va_A (xW G x a σ ++ uW G y P S rp rs σ) s.heap.size) (xW G x a σ ++ uW G y P S rp rs σ ++ [(q_83, .inl (G.2.1, 2, .inl (fun _ => 0)))]) := hD
        refine lv_dup hx hb dL_act_57 rfl ?_
        refine lv_iconst (v := iI 0) hx hb dL_act_58 rfl ?_
        refine lv_iload hx hb dL_act_59 (lv_at hl 0 rfl) ?_
        refine j_istN hx hb hK (ws := xW G x a σ ++ uW G y P S rp rs σ) hP hD hS (i := 0) (by decide) (by decide) dL_act_61 (fun H locs hP hD hS => ?_)
        refine lv_dup hx hb dL_act_62 rfl ?_
        refine lv_iconst (v := iI 1) hx hb dL_act_63 rfl ?_
        refine lv_iconst (v := iI 0) hx hb dL_act_64 rfl ?_
        refine j_istN hx hb hK (ws := xW G x a σ ++ uW G y P S rp rs σ) hP hD hS (i := 1) (by decide) (by decide) dL_act_65 (fun H locs hP hD hS => ?_)
        refine va_callr (va_runS (As := [.ref P, .ref q_83]) (rest := [.ref y]) ⟨hx, hb, hml, hown, hts⟩ (c_X1_with l G (xW G x a σ ++ uW G y P S rp rs σ ++ [(q_83, .inl (G.2.1, 2, .inl (upd (upd (fun _ => 0) 0 (iI (bel (z >>> ((iI 4) &&& 31)) 10))) 1 (iI 0))))]) P q_83 (σ.1 0) rp _ (by omega) 10 rfl (fun k hk => ⟨9 + (3 + k), 2, pf σ k, app_mid (uW_p hk)⟩) ⟨_, _, _, app_lst (k := 0) rfl⟩) (va_cwS 2 hts gL_act_X1_with rfl rfl rfl (by decide +kernel) ⟨Nat.le_of_ble_eq_true rfl, Nat.le_of_ble_eq_true rfl⟩) (preWith hK hP hO) rfl rfl hl.1 rfl (lv_room (Nat.le_of_ble_eq_true rfl)) dL_act_66 ⟨Nat.le_of_ble_eq_true rfl, Nat.le_of_ble_eq_true rfl⟩) hS (fun q _ h => hA q (Nat.le_trans hS.1 h)) (fun q h => hA q (Nat.le_trans hS.1 h)) (fun _ ra t H1 locs1 ht _ _ hB hz hkk hS1 => ?_)
        obtain ⟨hN, hra⟩ := hB
        rw [ht] at hN
        have hPo : va_P G.1 vwCl (xW G x a σ ++ uW G y P S rp rs σ ++ [(q_83, .inl (G.2.1, 2, .inl (upd (upd (fun _ => 0) 0 (iI (bel (z >>> ((iI 4) &&& 31)) 10))) 1 (iI 0))))]) H1 := hP.kept fun k q hq => hkk q.1 (hP k q hq).lt (fun h => by have h9 : _ ≤ q.1 := h; have := (hP k q hq).lt; omega)
        have hne : ∀ (k : Nat) (q : Nat × va_E), ((xW G x a σ ++ uW G y P S rp rs σ ++ [(q_83, .inl (G.2.1, 2, .inl (upd (upd (fun _ => 0) 0 (iI (bel (z >>> ((iI 4) &&& 31)) 10))) 1 (iI 0))))]) : va_W)[k]? = some q → q.1 ≠ ra := fun k q hq => by have := (hP k q hq).lt; omega
        have hD := j_addq (e := oR G ra ((σ.1 0) + 1) (sn rp (σ.1 0) q_83)) hD hne (hA ra (Nat.le_trans hS.1 hra))
        have hP := hPo.app hN
        rw [List.append_assoc] at hP hD
        have hP : va_P G.1 vwCl (xW G x a σ ++ uX G y P S rp rs σ (uF P S σ) ++ [(q_83, .inl (G.2.1, 2, .inl (upd (upd (fun _ => 0) 0 (iI (bel (z >>> ((iI 4) &&& 31)) 10))) 1 (iI 0)))), oR G ra ((σ.1 0) + 1) (sn rp (σ.1 0) q_83)]) H1 := hP
        have hD : va_D (va_A (xW G x a σ ++ uW G y P S rp rs σ) s.heap.size) (xW G x a σ ++ uX G y P S rp rs σ (uF P S σ) ++ [(q_83, .inl (G.2.1, 2, .inl (upd (upd (fun _ => 0) 0 (iI (bel (z >>> ((iI 4) &&& 31)) 10))) 1 (iI 0)))), oR G ra ((σ.1 0) + 1) (sn rp (σ.1 0) q_83)]) := hD
        have hS := hS1
        refine u_putq hx hb hts hin0 hown hK hP hD hS 9 rfl 0 (by decide) w_0 rfl rfl (by decide +kernel) (Nat.le_of_ble_eq_true rfl) uX_put dL_act_69 (fun H locs hP hD hS => ?_)
        obtain ⟨hP, hD⟩ := grow_P (τ := σ) (τ' := adp σ (bel (z >>> ((iI 4) &&& 31)) 10)) rfl rfl rfl rfl (fun p hp => adp_pf hp) (adp_pfn hJ) (fun k => adp_sf k) hP hD
        refine lv_aload_n hx hb dL_act_72 rfl (lv_at hl 4 rfl) ?_
        refine lv_iload hx hb dL_act_73 (lv_at hl 0 rfl) ?_
        refine zc_wi (va_runV (As := [.int (iI (bel (z >>> ((iI 4) &&& 31)) 10))]) (rest := []) ⟨hx, hb, hml, hown, hts⟩ (c_X0_addPerson l G x a _ B σ (bel (z >>> ((iI 4) &&& 31)) 10) hI (by omega) (by omega)) (cwV 1 hts gL_act_X0_addPerson rfl rfl rfl (by decide +kernel) ⟨Nat.le_of_ble_eq_true rfl, Nat.le_of_ble_eq_true rfl⟩) (preWX hK (va_Pl (va_Pl hP)) (va_Dl (va_Dl hD))) rfl rfl hl.1 rfl (lv_room (Nat.le_of_ble_eq_true rfl)) dL_act_75 ⟨Nat.le_of_ble_eq_true rfl, Nat.le_of_ble_eq_true rfl⟩) hS (jA_x hD hA hS.1) (fun H locs hP1 hS _ hkk => ?_)
        have hP := jx_keep hP hD hP1 hkk
        have hD := jx_D (σ' := (adp σ (bel (z >>> ((iI 4) &&& 31)) 10))) hD
        have hP : va_P G.1 vwCl (xW G x a (adp σ (bel (z >>> ((iI 4) &&& 31)) 10)) ++ uW G y ra S (sn rp (σ.1 0) q_83) rs (adp σ (bel (z >>> ((iI 4) &&& 31)) 10)) ++ []) H := hP
        have hD : va_D (va_A (xW G x a σ ++ uW G y P S rp rs σ) s.heap.size) (xW G x a (adp σ (bel (z >>> ((iI 4) &&& 31)) 10)) ++ uW G y ra S (sn rp (σ.1 0) q_83) rs (adp σ (bel (z >>> ((iI 4) &&& 31)) 10)) ++ []) := hD
        refine lv_iload_n hx hb dL_act_78 rfl (lv_at hl 3 rfl) ?_
        refine z_icmp_ne (tgt := 86) hx hb dL_act_79 (by decide) (by omega) (by omega) (fun c_84 => ?_) (fun c_84 => ?_)
        · exfalso; omega
        ·
          refine lv_iconst (v := iI 1) hx hb dL_act_82 rfl ?_
          refine lv_goto (tgt := 87) hx hb dL_act_83 (by decide) ?_
          have hc0 : ((adp σ (bel (z >>> ((iI 4) &&& 31)) 10))).1 0 = σ.1 0 + 1 := rfl
          refine W.widen (k := 2) (n := 27) (Nat.le_of_ble_eq_true rfl) (Nat.le_of_ble_eq_true rfl) ?_
          exact W.zret hx hb hr (z_nb (Or.inr rfl)) (fun t ht hW => ⟨⟨_, ((adp σ (bel (z >>> ((iI 4) &&& 31)) 10)), ra, S, (sn rp (σ.1 0) q_83), rs), rfl, ⟨rfl, mono_zJ (adp_zJ hJ (by omega) (by omega)) (by omega) (by omega), by (try dsimp only); rw [hc0]; omega, by (try dsimp only); rw [hc0]; omega⟩, by show va_P _ _ _ t.heap; rw [ht]; exact va_Pl hP, va_Dl hD⟩, hS.F ht⟩) hS.2.2 dL_act_87
      ·
        refine lv_iconst (v := iI 1) hx hb dL_act_37 rfl ?_
        have hc0 : (σ).1 0 = σ.1 0 := rfl
        refine W.widen (k := 2) (n := 27) (Nat.le_of_ble_eq_true rfl) (Nat.le_of_ble_eq_true rfl) ?_
        exact W.zret hx hb hr (z_nb (Or.inr rfl)) (fun t ht hW => ⟨⟨_, (σ, P, S, rp, rs), rfl, ⟨rfl, mono_zJ hJ (by omega) (by omega), by (try dsimp only); rw [hc0]; omega, by (try dsimp only); rw [hc0]; omega⟩, by show va_P _ _ _ t.heap; rw [ht]; exact va_Pl hP, va_Dl hD⟩, hS.F ht⟩) hS.2.2 dL_act_38
