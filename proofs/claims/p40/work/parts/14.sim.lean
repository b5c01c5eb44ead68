/-! THE LAW'S OWN LEDGER: what its methods answer and do. -/
set_option maxHeartbeats 4000000 in
set_option maxRecDepth 100000 in
theorem c_X1_speak (l : Launch) (G : zG) (y P S : Nat) (rp rs : Nat → Nat) (sz : Nat) (σ : zS) (k : Nat) (hn : σ.1 1 ≤ 20) (hk : k < σ.1 1) (hw : 0 ≤ σ.2 4 k ∧ σ.2 4 k ≤ 99) : Met l yX1_speak wsX1_speak ({ frames := 0, cells := 0, slots := 0, locals := 0 } : Room) (va_Pc [.ref y, .ref (rs k)] (wU G y P S rp rs σ sz)) (va_Qv (fun (_ : Unit) => True) (fun _ t9 => va_P G.1 vwCl (uW G y P S rp rs (spk σ k)) t9.heap) (uA (σ.1 0) (σ.1 1) y P S rp rs sz)) 0 0 (uA (σ.1 0) (σ.1 1) y P S rp rs sz) := by
  refine Met.ofW (cc := cX1_speak) (maxL := 2) (ret := none) (by decide) rfl ?_
  intro pp ee s m args below meth c s₁ B9 hml hv
  obtain ⟨rfl, hsz, hP, hK, hD0⟩ := hv
  subst hsz
  have hD := uW_uA (sz := s.heap.size) hD0
  have hS : va_S (uA (σ.1 0) (σ.1 1) y P S rp rs s.heap.size) s.heap s.heap [] := va_S.rf
  have hx := B9.exec
  have hb := B9.bytes
  have hr := B9.returns
  have hts := atoms_spec (ws := wsX1_speak) B9.pre
  have hown : s.vm.findClass RX1 = some m.cls := findClass_of_methodNamed B9.named
  have hlocks := B9.notSynchronized
  have hl := lv_entry ([.ref y, .ref (rs k)]) (n := 2) (Nat.le_of_ble_eq_true rfl)
  rw [lg_entry_eq]
  generalize (lg_sl ([.ref y, .ref (rs k)]) ++ List.replicate (2 - (lg_sl ([.ref y, .ref (rs k)])).length) Slot.unset).toArray = ls at hl ⊢
  have hl : lv_has ls 2 [(0, .ref y), (1, .ref (rs k))] := hl
  refine lv_aload_n hx hb dX1_speak_0 rfl (lv_at hl 1 rfl) ?_
  refine lv_iconst (v := iI 2) hx hb dX1_speak_1 rfl ?_
  refine u_ildS hx hb hK hP (k := k) (i := 2) (v := iI (σ.2 4 k)) (show k < σ.1 1 from by omega) (by decide) rfl dX1_speak_2 ?_
  refine lv_bipush (v := iI 99) hx hb dX1_speak_3 (by decide) ?_
  refine z_icmp_ge (tgt := 15) hx hb dX1_speak_5 (by decide) (by omega) (by omega) (fun c_1 => ?_) (fun c_1 => ?_)
  ·
    refine lv_aload_n hx hb dX1_speak_15 rfl (lv_at hl 1 rfl) ?_
    refine lv_iconst (v := iI 5) hx hb dX1_speak_16 rfl ?_
    refine lv_iconst (v := iI 0) hx hb dX1_speak_17 rfl ?_
    refine u_istS hx hb hK hP hD hS (k := k) (i := 5) (j := 7) (v := 0) rfl (show k < σ.1 1 from by omega) (by decide) dX1_speak_18 (fun H locs hP hD hS => ?_)
    have hfin : (stA σ 7 k 0) = spk σ k := by unfold spk; first | rw [show min (σ.2 4 k + 1) 99 = σ.2 4 k + 1 from by omega] | rw [stA_id (show σ.2 4 k = min (σ.2 4 k + 1) 99 from by omega)]
    rw [hfin] at hP
    exact W.vret hx hb hr (fun t ht hW => ⟨⟨(), rfl, trivial, (by show va_P _ _ _ t.heap; rw [ht]; exact hP)⟩, hS.F ht⟩) hS.2.2 dX1_speak_19
  ·
    refine lv_aload_n hx hb dX1_speak_8 rfl (lv_at hl 1 rfl) ?_
    refine lv_iconst (v := iI 2) hx hb dX1_speak_9 rfl ?_
    refine lv_dup2_11 hx hb dX1_speak_10 rfl rfl ?_
    refine u_ildS hx hb hK hP (k := k) (i := 2) (v := iI (σ.2 4 k)) (show k < σ.1 1 from by omega) (by decide) rfl dX1_speak_11 ?_
    refine lv_iconst (v := iI 1) hx hb dX1_speak_12 rfl ?_
    refine z_iadd hx hb dX1_speak_13 ?_
    refine u_istS hx hb hK hP hD hS (k := k) (i := 2) (j := 4) (v := ((σ.2 4 k) + 1)) rfl (show k < σ.1 1 from by omega) (by decide) dX1_speak_14 (fun H locs hP hD hS => ?_)
    refine lv_aload_n hx hb dX1_speak_15 rfl (lv_at hl 1 rfl) ?_
    refine lv_iconst (v := iI 5) hx hb dX1_speak_16 rfl ?_
    refine lv_iconst (v := iI 0) hx hb dX1_speak_17 rfl ?_
    refine u_istS hx hb hK hP hD hS (k := k) (i := 5) (j := 7) (v := 0) rfl (show k < σ.1 1 from by omega) (by decide) dX1_speak_18 (fun H locs hP hD hS => ?_)
    have hfin : (stA (stA σ 4 k ((σ.2 4 k) + 1)) 7 k 0) = spk σ k := by unfold spk; first | rw [show min (σ.2 4 k + 1) 99 = σ.2 4 k + 1 from by omega] | rw [stA_id (show σ.2 4 k = min (σ.2 4 k + 1) 99 from by omega)]
    rw [hfin] at hP
    exact W.vret hx hb hr (fun t ht hW => ⟨⟨(), rfl, trivial, (by show va_P _ _ _ t.heap; rw [ht]; exact hP)⟩, hS.F ht⟩) hS.2.2 dX1_speak_19
set_option maxHeartbeats 4000000 in
set_option maxRecDepth 100000 in
theorem c_X1_witnesses (l : Launch) (G : zG) (y P S : Nat) (rp rs : Nat → Nat) (B : Nat) (σ : zS) (k : Nat) (hI : zI B σ) (hk : k < σ.1 1) : Met l yX1_witnesses wsX1_witnesses ({ frames := 0, cells := 0, slots := 0, locals := 0 } : Room) (va_Pc [.ref y, .ref (rs k)] (pU G y P S rp rs σ)) (vp_Si (fun r => r = iI (wit σ k))) 0 0 (fun _ => False) := by
  refine Met.ofW (cc := cX1_witnesses) (maxL := 4) (ret := (some .int)) (by decide) rfl ?_
  intro pp ee s m args below meth c s₁ B9 hml hv
  obtain ⟨rfl, hP, hK⟩ := hv
  have hx := B9.exec
  have hb := B9.bytes
  have hr := B9.returns
  have hts := atoms_spec (ws := wsX1_witnesses) B9.pre
  have hown : s.vm.findClass RX1 = some m.cls := findClass_of_methodNamed B9.named
  have hlocks := B9.notSynchronized
  have hin0 : ∀ w ∈ wsX10, w ∈ wsX1_witnesses := by decide +kernel
  have w_0 := hts (.fieldLink RX1 9 "ApologyLedgerLaw$Sim" "persons" "[[I") (by decide +kernel)
  have hl := lv_entry ([.ref y, .ref (rs k)]) (n := 4) (Nat.le_of_ble_eq_true rfl)
  rw [lg_entry_eq]
  generalize (lg_sl ([.ref y, .ref (rs k)]) ++ List.replicate (4 - (lg_sl ([.ref y, .ref (rs k)])).length) Slot.unset).toArray = ls at hl ⊢
  have hl : lv_has ls 4 [(0, .ref y), (1, .ref (rs k))] := hl
  have hIn := hI.n
  have hIb := hI.b
  refine lv_iconst (v := iI 0) hx hb dX1_witnesses_0 rfl ?_
  refine lv_istore_n (lv' := [(2, .int (iI 0)), (0, .ref y), (1, .ref (rs k))]) hx hb dX1_witnesses_1 rfl hl (by decide) rfl (fun ls hl => ?_)
  refine lv_iconst (v := iI 0) hx hb dX1_witnesses_2 rfl ?_
  refine lv_istore_n (lv' := [(3, .int (iI 0)), (2, .int (iI 0)), (0, .ref y), (1, .ref (rs k))]) hx hb dX1_witnesses_3 rfl hl (by decide) rfl (fun ls hl => ?_)
  have LP4 : ∀ (r4 : Nat) (j : Nat) (s1 : Int), j ≤ σ.1 0 → σ.1 0 - j < r4 → s1 = zs (fun p => if σ.2 1 p = 1 ∧ (p : Int) ≠ σ.2 2 k ∧ (p : Int) ≠ σ.2 3 k then 1 else 0) j → ∀ (ls : Array Slot), lv_has ls 4 [(3, .int (iI (j : Int))), (2, .int (iI s1)), (0, .ref y), (1, .ref (rs k))] → W pp l ee (headSpec wsX1_witnesses ({ frames := 0, cells := 0, slots := 0, locals := 0 } : Room)).room s m ([.ref y, .ref (rs k)] : List Value).toArray below meth c s.heap [] 0 0 (MQ below (vp_Si (fun r => r = iI (wit σ k))) ([.ref y, .ref (rs k)] : List Value).toArray s 0 0 (fun _ => False)) (F0 m 4 ls []) := by
    intro r4
    induction r4 with
    | zero => intro j s1 hv4_0 hv4_1; exfalso; omega
    | succ r4 ih4 =>
      intro j s1 hv4_0 hv4_1 hv4_2 ls hl
      refine lv_iload_n hx hb dX1_witnesses_4 rfl (lv_at hl 0 rfl) ?_
      refine lv_aload_n hx hb dX1_witnesses_5 rfl (lv_at hl 2 rfl) ?_
      refine u_get (v := .ref P) hx hb hts hin0 hown hK hP 0 rfl 0 (by decide) w_0 rfl rfl dX1_witnesses_6 ?_
      refine u_lenP hx hb hK hP dX1_witnesses_9 ?_
      refine z_icmp_ge (tgt := 44) hx hb dX1_witnesses_10 (by decide) (by omega) (by omega) (fun c_1 => ?_) (fun c_1 => ?_)
      ·
        refine lv_iload_n hx hb dX1_witnesses_44 rfl (lv_at hl 1 rfl) ?_
        refine z_re (v' := iI (wit σ k)) (congrArg iI (by rw [hv4_2, show j = σ.1 0 from by omega]; rfl)) ?_
        exact W.iret hx hb hr (fun t ht _ => ⟨_, rfl, rfl, ht⟩) (fun q hq => absurd hq List.not_mem_nil) dX1_witnesses_45
      ·
        refine lv_iload_n hx hb dX1_witnesses_13 rfl (lv_at hl 0 rfl) ?_
        refine lv_aload_n hx hb dX1_witnesses_14 rfl (lv_at hl 3 rfl) ?_
        refine lv_iconst (v := iI 0) hx hb dX1_witnesses_15 rfl ?_
        refine u_ildS hx hb hK hP (k := k) (i := 0) (v := iI (σ.2 2 k)) (show k < σ.1 1 from by omega) (by decide) rfl dX1_witnesses_16 ?_
        have f_2 := hI.r2 (k := k) (by omega)
        refine z_icmp_eq (tgt := 38) hx hb dX1_witnesses_17 (by decide) (by omega) (by omega) (fun c_3 => ?_) (fun c_3 => ?_)
        ·
          refine lv_iinc (v := iI ((j : Int) + 1)) (lv' := [(3, .int (iI ((j : Int) + 1))), (2, .int (iI s1)), (0, .ref y), (1, .ref (rs k))]) hx hb dX1_witnesses_38 hl (k := 0) rfl (iI_add _ _) (by decide) rfl (fun ls hl => ?_)
          refine lv_goto (tgt := 4) hx hb dX1_witnesses_41 (by decide) ?_
          exact ih4 (j + 1) s1 (by omega) (by omega) (by rw [zs_s, ← hv4_2]; (try dsimp only); split <;> omega) ls (lv_sub hl [0, 1, 2, 3] rfl)
        ·
          refine lv_iload_n hx hb dX1_witnesses_20 rfl (lv_at hl 0 rfl) ?_
          refine lv_aload_n hx hb dX1_witnesses_21 rfl (lv_at hl 3 rfl) ?_
          refine lv_iconst (v := iI 1) hx hb dX1_witnesses_22 rfl ?_
          refine u_ildS hx hb hK hP (k := k) (i := 1) (v := iI (σ.2 3 k)) (show k < σ.1 1 from by omega) (by decide) rfl dX1_witnesses_23 ?_
          have f_4 := hI.r3 (k := k) (by omega)
          refine z_icmp_eq (tgt := 38) hx hb dX1_witnesses_24 (by decide) (by omega) (by omega) (fun c_5 => ?_) (fun c_5 => ?_)
          ·
            refine lv_iinc (v := iI ((j : Int) + 1)) (lv' := [(3, .int (iI ((j : Int) + 1))), (2, .int (iI s1)), (0, .ref y), (1, .ref (rs k))]) hx hb dX1_witnesses_38 hl (k := 0) rfl (iI_add _ _) (by decide) rfl (fun ls hl => ?_)
            refine lv_goto (tgt := 4) hx hb dX1_witnesses_41 (by decide) ?_
            exact ih4 (j + 1) s1 (by omega) (by omega) (by rw [zs_s, ← hv4_2]; (try dsimp only); split <;> omega) ls (lv_sub hl [0, 1, 2, 3] rfl)
          ·
            refine lv_iload_n hx hb dX1_witnesses_27 rfl (lv_at hl 1 rfl) ?_
            refine lv_aload_n hx hb dX1_witnesses_28 rfl (lv_at hl 2 rfl) ?_
            refine u_get (v := .ref P) hx hb hts hin0 hown hK hP 0 rfl 0 (by decide) w_0 rfl rfl dX1_witnesses_29 ?_
            refine lv_iload_n hx hb dX1_witnesses_32 rfl (lv_at hl 0 rfl) ?_
            refine u_aalP hx hb hK hP (k := j) (show j < σ.1 0 from by omega) (show σ.1 0 < 2147483648 from by omega) dX1_witnesses_33 ?_
            refine lv_iconst (v := iI 1) hx hb dX1_witnesses_34 rfl ?_
            refine u_ildP hx hb hK hP (k := j) (i := 1) (v := iI (σ.2 1 j)) (show j < σ.1 0 from by omega) (by decide) rfl dX1_witnesses_35 ?_
            have f_6 := hI.r1 j
            refine z_iadd hx hb dX1_witnesses_36 ?_
            refine lv_istore_n (lv' := [(2, .int (iI (s1 + (σ.2 1 j)))), (3, .int (iI (j : Int))), (0, .ref y), (1, .ref (rs k))]) hx hb dX1_witnesses_37 rfl hl (by decide) rfl (fun ls hl => ?_)
            refine lv_iinc (v := iI ((j : Int) + 1)) (lv' := [(3, .int (iI ((j : Int) + 1))), (2, .int (iI (s1 + (σ.2 1 j)))), (0, .ref y), (1, .ref (rs k))]) hx hb dX1_witnesses_38 hl (k := 1) rfl (iI_add _ _) (by decide) rfl (fun ls hl => ?_)
            refine lv_goto (tgt := 4) hx hb dX1_witnesses_41 (by decide) ?_
            exact ih4 (j + 1) (s1 + (σ.2 1 j)) (by omega) (by omega) (by rw [zs_s, ← hv4_2]; (try dsimp only); split <;> omega) ls (lv_sub hl [0, 1, 2, 3] rfl)
  exact LP4 (σ.1 0 - (0) + 1) 0 0 (by omega) (by omega) (by rfl) ls (lv_sub hl [0, 1, 2, 3] rfl)
set_option maxHeartbeats 4000000 in
set_option maxRecDepth 100000 in
theorem c_X1_isScorned (l : Launch) (G : zG) (y P S : Nat) (rp rs : Nat → Nat) (B : Nat) (σ : zS) (k : Nat) (w : Int) (hI : zI B σ) (hk : k < σ.1 1) (hw : 1 ≤ w ∧ w ≤ 20) : Met l yX1_isScorned wsX1_isScorned ({ frames := 1, cells := 0, slots := 0, locals := 23 } : Room) (va_Pc [.ref y, .ref (rs k), .int (iI w)] (pU G y P S rp rs σ)) (vp_Si (fun r => r = iI (scn σ k w))) 0 0 (fun _ => False) := by
  refine Met.ofW (cc := cX1_isScorned) (maxL := 5) (ret := (some .boolean)) (by decide) rfl ?_
  intro pp ee s m args below meth c s₁ B9 hml hv
  obtain ⟨rfl, hP, hK⟩ := hv
  have hx := B9.exec
  have hb := B9.bytes
  have hr := B9.returns
  have hts := atoms_spec (ws := wsX1_isScorned) B9.pre
  have hown : s.vm.findClass RX1 = some m.cls := findClass_of_methodNamed B9.named
  have hlocks := B9.notSynchronized
  have hin0 : ∀ w ∈ wsX10, w ∈ wsX1_isScorned := by decide +kernel
  have w_0 := hts (.fieldLink RX1 9 "ApologyLedgerLaw$Sim" "persons" "[[I") (by decide +kernel)
  have hl := lv_entry ([.ref y, .ref (rs k), .int (iI w)]) (n := 5) (Nat.le_of_ble_eq_true rfl)
  rw [lg_entry_eq]
  generalize (lg_sl ([.ref y, .ref (rs k), .int (iI w)]) ++ List.replicate (5 - (lg_sl ([.ref y, .ref (rs k), .int (iI w)])).length) Slot.unset).toArray = ls at hl ⊢
  have hl : lv_has ls 5 [(0, .ref y), (1, .ref (rs k)), (2, .int (iI w))] := hl
  have hIn := hI.n
  have hIb := hI.b
  have g7 := wit_bd hI k
  have g3 := hI.r3 hk
  have g8 := hI.r0 (σ.2 3 k).toNat
  have g4 := hI.r4 k
  refine lv_iload_n hx hb dX1_isScorned_0 rfl (lv_at hl 2 rfl) ?_
  refine lv_istore_n (lv' := [(3, .int (iI w)), (0, .ref y), (1, .ref (rs k)), (2, .int (iI w))]) hx hb dX1_isScorned_1 rfl hl (by decide) rfl (fun ls hl => ?_)
  refine lv_aload_n hx hb dX1_isScorned_2 rfl (lv_at hl 1 rfl) ?_
  refine lv_aload_n hx hb dX1_isScorned_3 rfl (lv_at hl 2 rfl) ?_
  refine zc_i (va_runV (As := [.ref (rs k)]) (rest := []) ⟨hx, hb, hml, hown, hts⟩ (c_X1_witnesses l G y P S rp rs B σ k hI (by omega)) (cwV 1 hts gX1_isScorned_X1_witnesses rfl rfl rfl (by decide +kernel) ⟨Nat.le_of_ble_eq_true rfl, Nat.le_of_ble_eq_true rfl⟩) (preVU hK hP) rfl rfl hl.1 rfl (lv_room (Nat.le_of_ble_eq_true rfl)) dX1_isScorned_4 ⟨Nat.le_of_ble_eq_true rfl, Nat.le_of_ble_eq_true rfl⟩) ?_
  have f_1 := wit_bd hI k
  refine lv_istore (lv' := [(4, .int (iI (wit σ k))), (3, .int (iI w)), (0, .ref y), (1, .ref (rs k)), (2, .int (iI w))]) hx hb dX1_isScorned_7 hl (by decide) rfl (fun ls hl => ?_)
  have LP9 : ∀ (r9 : Nat) (s1 : Int) (s2 : Int), s2.toNat < r9 → s1 + 2 * s2 = w + 2 * wit σ k → 0 ≤ s2 ∧ s2 ≤ 6 → 1 ≤ s1 ∧ s1 ≤ 40 → ∀ (ls : Array Slot), lv_has ls 5 [(4, .int (iI s2)), (3, .int (iI s1)), (0, .ref y), (1, .ref (rs k)), (2, .int (iI w))] → W pp l ee (headSpec wsX1_isScorned ({ frames := 1, cells := 0, slots := 0, locals := 23 } : Room)).room s m ([.ref y, .ref (rs k), .int (iI w)] : List Value).toArray below meth c s.heap [] 0 0 (MQ below (vp_Si (fun r => r = iI (scn σ k w))) ([.ref y, .ref (rs k), .int (iI w)] : List Value).toArray s 0 0 (fun _ => False)) (F0 m 9 ls []) := by
    intro r9
    induction r9 with
    | zero => intro s1 s2 hv9_0; exfalso; omega
    | succ r9 ih9 =>
      intro s1 s2 hv9_0 hv9_1 hv9_2 hv9_3 ls hl
      refine lv_iload hx hb dX1_isScorned_9 (lv_at hl 0 rfl) ?_
      refine z_if_le (tgt := 23) hx hb dX1_isScorned_11 (by decide) (by omega) (fun c_2 => ?_) (fun c_2 => ?_)
      ·
        refine lv_iload_n hx hb dX1_isScorned_23 rfl (lv_at hl 1 rfl) ?_
        refine lv_aload_n hx hb dX1_isScorned_24 rfl (lv_at hl 2 rfl) ?_
        refine u_get (v := .ref P) hx hb hts hin0 hown hK hP 0 rfl 0 (by decide) w_0 rfl rfl dX1_isScorned_25 ?_
        refine lv_aload_n hx hb dX1_isScorned_28 rfl (lv_at hl 3 rfl) ?_
        refine lv_iconst (v := iI 1) hx hb dX1_isScorned_29 rfl ?_
        refine u_ildS hx hb hK hP (k := k) (i := 1) (v := iI (σ.2 3 k)) (show k < σ.1 1 from by omega) (by decide) rfl dX1_isScorned_30 ?_
        have f_3 := hI.r3 (k := k) (by omega)
        refine z_re (v' := iI (((σ.2 3 k).toNat : Nat) : Int)) (congrArg iI (by omega)) ?_
        refine u_aalP hx hb hK hP (k := (σ.2 3 k).toNat) (show (σ.2 3 k).toNat < σ.1 0 from by omega) (show σ.1 0 < 2147483648 from by omega) dX1_isScorned_31 ?_
        refine lv_iconst (v := iI 0) hx hb dX1_isScorned_32 rfl ?_
        refine u_ildP hx hb hK hP (k := (σ.2 3 k).toNat) (i := 0) (v := iI (σ.2 0 ((σ.2 3 k).toNat))) (show (σ.2 3 k).toNat < σ.1 0 from by omega) (by decide) rfl dX1_isScorned_33 ?_
        have f_4 := hI.r0 ((σ.2 3 k).toNat)
        refine z_icmp_lt (tgt := 46) hx hb dX1_isScorned_34 (by decide) (by omega) (by omega) (fun c_5 => ?_) (fun c_5 => ?_)
        ·
          refine lv_iconst (v := iI 1) hx hb dX1_isScorned_46 rfl ?_
          refine lv_goto (tgt := 51) hx hb dX1_isScorned_47 (by decide) ?_
          refine z_re (v' := iI (scn σ k w)) (congrArg iI (by unfold scn lea; split <;> omega)) ?_
          exact W.zret hx hb hr (z_nb (by have := scn_or σ k w; omega)) (fun t ht _ => ⟨_, rfl, rfl, ht⟩) (fun q hq => absurd hq List.not_mem_nil) dX1_isScorned_51
        ·
          refine lv_iload_n hx hb dX1_isScorned_37 rfl (lv_at hl 1 rfl) ?_
          refine lv_aload_n hx hb dX1_isScorned_38 rfl (lv_at hl 3 rfl) ?_
          refine lv_iconst (v := iI 2) hx hb dX1_isScorned_39 rfl ?_
          refine u_ildS hx hb hK hP (k := k) (i := 2) (v := iI (σ.2 4 k)) (show k < σ.1 1 from by omega) (by decide) rfl dX1_isScorned_40 ?_
          have f_6 := hI.r4 k
          refine lv_iconst (v := iI 4) hx hb dX1_isScorned_41 rfl ?_
          refine z_idiv hx hb dX1_isScorned_42 (by omega) (by omega) ?_
          refine z_icmp_ge (tgt := 50) hx hb dX1_isScorned_43 (by decide) (by omega) (by omega) (fun c_7 => ?_) (fun c_7 => ?_)
          ·
            refine lv_iconst (v := iI 0) hx hb dX1_isScorned_50 rfl ?_
            refine z_re (v' := iI (scn σ k w)) (congrArg iI (by unfold scn lea; split <;> omega)) ?_
            exact W.zret hx hb hr (z_nb (by have := scn_or σ k w; omega)) (fun t ht _ => ⟨_, rfl, rfl, ht⟩) (fun q hq => absurd hq List.not_mem_nil) dX1_isScorned_51
          ·
            refine lv_iconst (v := iI 1) hx hb dX1_isScorned_46 rfl ?_
            refine lv_goto (tgt := 51) hx hb dX1_isScorned_47 (by decide) ?_
            refine z_re (v' := iI (scn σ k w)) (congrArg iI (by unfold scn lea; split <;> omega)) ?_
            exact W.zret hx hb hr (z_nb (by have := scn_or σ k w; omega)) (fun t ht _ => ⟨_, rfl, rfl, ht⟩) (fun q hq => absurd hq List.not_mem_nil) dX1_isScorned_51
      ·
        refine lv_iinc (v := iI (s1 + 2)) (lv' := [(3, .int (iI (s1 + 2))), (4, .int (iI s2)), (0, .ref y), (1, .ref (rs k)), (2, .int (iI w))]) hx hb dX1_isScorned_14 hl (k := 1) rfl (iI_add _ _) (by decide) rfl (fun ls hl => ?_)
        refine lv_iinc (v := iI (s2 + (-1))) (lv' := [(4, .int (iI (s2 + (-1)))), (3, .int (iI (s1 + 2))), (0, .ref y), (1, .ref (rs k)), (2, .int (iI w))]) hx hb dX1_isScorned_17 hl (k := 1) rfl (iI_add _ _) (by decide) rfl (fun ls hl => ?_)
        refine lv_goto (tgt := 9) hx hb dX1_isScorned_20 (by decide) ?_
        exact ih9 (s1 + 2) (s2 + (-1)) (by omega) (by omega) (by omega) (by omega) ls (lv_sub hl [0, 1, 2, 3, 4] rfl)
  exact LP9 ((wit σ k).toNat + 1) w (wit σ k) (by omega) (by rfl) (by omega) (by omega) ls (lv_sub hl [0, 1, 2, 3, 4] rfl)
set_option maxHeartbeats 4000000 in
set_option maxRecDepth 100000 in
theorem c_X1_apologize (l : Launch) (G : zG) (y P S : Nat) (rp rs : Nat → Nat) (sz : Nat) (B : Nat) (σ : zS) (k : Nat) (w : Int) (hI : zI B σ) (hk : k < σ.1 1) (hw : 1 ≤ w ∧ w ≤ 20) (ho : σ.2 5 k = 0) : Met l yX1_apologize wsX1_apologize ({ frames := 2, cells := 0, slots := 0, locals := 47 } : Room) (va_Pc [.ref y, .ref (rs k), .int (iI w)] (wU G y P S rp rs σ sz)) (va_Qi (fun r (_ : Unit) => r = iI ((apo σ k w).2 4 k)) (fun _ t9 => va_P G.1 vwCl (uW G y P S rp rs (apo σ k w)) t9.heap) (uA (σ.1 0) (σ.1 1) y P S rp rs sz)) 0 0 (uA (σ.1 0) (σ.1 1) y P S rp rs sz) := by
  refine Met.ofW (cc := cX1_apologize) (maxL := 3) (ret := (some .int)) (by decide) rfl ?_
  intro pp ee s m args below meth c s₁ B9 hml hv
  obtain ⟨rfl, hsz, hP, hK, hD0⟩ := hv
  subst hsz
  have hD := uW_uA (sz := s.heap.size) hD0
  have hS : va_S (uA (σ.1 0) (σ.1 1) y P S rp rs s.heap.size) s.heap s.heap [] := va_S.rf
  have hx := B9.exec
  have hb := B9.bytes
  have hr := B9.returns
  have hts := atoms_spec (ws := wsX1_apologize) B9.pre
  have hown : s.vm.findClass RX1 = some m.cls := findClass_of_methodNamed B9.named
  have hlocks := B9.notSynchronized
  have hin0 : ∀ w ∈ wsX10, w ∈ wsX1_apologize := by decide +kernel
  have w_0 := hts (.fieldLink RX1 27 "ApologyLedgerLaw$Sim" "scorned" "I") (by decide +kernel)
  have hl := lv_entry ([.ref y, .ref (rs k), .int (iI w)]) (n := 3) (Nat.le_of_ble_eq_true rfl)
  rw [lg_entry_eq]
  generalize (lg_sl ([.ref y, .ref (rs k), .int (iI w)]) ++ List.replicate (3 - (lg_sl ([.ref y, .ref (rs k), .int (iI w)])).length) Slot.unset).toArray = ls at hl ⊢
  have hl : lv_has ls 3 [(0, .ref y), (1, .ref (rs k)), (2, .int (iI w))] := hl
  have hIn := hI.n
  have hIb := hI.b
  have g4 := hI.r4 k
  have g7 := wit_bd hI k
  have g9 := scn_or σ k w
  refine lv_aload_n hx hb dX1_apologize_0 rfl (lv_at hl 0 rfl) ?_
  refine lv_aload_n hx hb dX1_apologize_1 rfl (lv_at hl 1 rfl) ?_
  refine lv_iload_n hx hb dX1_apologize_2 rfl (lv_at hl 2 rfl) ?_
  refine zc_i (va_runV (As := [.ref (rs k), .int (iI w)]) (rest := []) ⟨hx, hb, hml, hown, hts⟩ (c_X1_isScorned l G y P S rp rs B σ k w hI (by omega) (by omega)) (cwV 2 hts gX1_apologize_X1_isScorned rfl rfl rfl (by decide +kernel) ⟨Nat.le_of_ble_eq_true rfl, Nat.le_of_ble_eq_true rfl⟩) (preVU hK hP) rfl rfl hl.1 rfl (lv_room (Nat.le_of_ble_eq_true rfl)) dX1_apologize_3 ⟨Nat.le_of_ble_eq_true rfl, Nat.le_of_ble_eq_true rfl⟩) ?_
  have f_1 := scn_or σ k w
  refine z_if_eq (tgt := 28) hx hb dX1_apologize_6 (by decide) (by omega) (fun c_2 => ?_) (fun c_2 => ?_)
  ·
    refine lv_aload_n hx hb dX1_apologize_28 rfl (lv_at hl 1 rfl) ?_
    refine lv_iconst (v := iI 2) hx hb dX1_apologize_29 rfl ?_
    refine lv_dup2_11 hx hb dX1_apologize_30 rfl rfl ?_
    refine u_ildS hx hb hK hP (k := k) (i := 2) (v := iI (σ.2 4 k)) (show k < σ.1 1 from by omega) (by decide) rfl dX1_apologize_31 ?_
    have f_3 := hI.r4 k
    refine lv_iload_n hx hb dX1_apologize_32 rfl (lv_at hl 2 rfl) ?_
    refine lv_iconst (v := iI 2) hx hb dX1_apologize_33 rfl ?_
    refine lv_aload_n hx hb dX1_apologize_34 rfl (lv_at hl 0 rfl) ?_
    refine lv_aload_n hx hb dX1_apologize_35 rfl (lv_at hl 1 rfl) ?_
    refine zc_i (va_runV (As := [.ref (rs k)]) (rest := [.int (iI 2), .int (iI w), .int (iI (σ.2 4 k)), .int (iI 2), .ref (rs k)]) ⟨hx, hb, hml, hown, hts⟩ (c_X1_witnesses l G y P S rp rs B σ k hI (by omega)) (cwV 1 hts gX1_apologize_X1_witnesses rfl rfl rfl (by decide +kernel) ⟨Nat.le_of_ble_eq_true rfl, Nat.le_of_ble_eq_true rfl⟩) (preVU hK hP) rfl rfl hl.1 rfl (lv_room (Nat.le_of_ble_eq_true rfl)) dX1_apologize_36 ⟨Nat.le_of_ble_eq_true rfl, Nat.le_of_ble_eq_true rfl⟩) ?_
    have f_4 := wit_bd hI k
    refine z_imul hx hb dX1_apologize_39 ?_
    refine z_iadd hx hb dX1_apologize_40 ?_
    refine z_isub hx hb dX1_apologize_41 ?_
    refine u_istS hx hb hK hP hD hS (k := k) (i := 2) (j := 4) (v := ((σ.2 4 k) - (w + (2 * (wit σ k))))) rfl (show k < σ.1 1 from by omega) (by decide) dX1_apologize_42 (fun H locs hP hD hS => ?_)
    refine lv_aload_n hx hb dX1_apologize_43 rfl (lv_at hl 1 rfl) ?_
    refine lv_iconst (v := iI 2) hx hb dX1_apologize_44 rfl ?_
    refine u_ildS hx hb hK hP (k := k) (i := 2) (v := iI ((σ.2 4 k) - (w + (2 * (wit σ k))))) (show k < σ.1 1 from by omega) (by decide) (congrArg iI (by simp [stA, stS])) dX1_apologize_45 ?_
    refine z_if_le (tgt := 53) hx hb dX1_apologize_46 (by decide) (by omega) (fun c_5 => ?_) (fun c_5 => ?_)
    ·
      refine lv_aload_n hx hb dX1_apologize_53 rfl (lv_at hl 1 rfl) ?_
      refine lv_iconst (v := iI 2) hx hb dX1_apologize_54 rfl ?_
      refine lv_iconst (v := iI 0) hx hb dX1_apologize_55 rfl ?_
      refine u_istS hx hb hK hP hD hS (k := k) (i := 2) (j := 4) (v := 0) rfl (show k < σ.1 1 from by omega) (by decide) dX1_apologize_56 (fun H locs hP hD hS => ?_)
      refine lv_aload_n hx hb dX1_apologize_57 rfl (lv_at hl 1 rfl) ?_
      refine lv_iconst (v := iI 3) hx hb dX1_apologize_58 rfl ?_
      refine lv_iconst (v := iI 1) hx hb dX1_apologize_59 rfl ?_
      refine u_istS hx hb hK hP hD hS (k := k) (i := 3) (j := 5) (v := 1) rfl (show k < σ.1 1 from by omega) (by decide) dX1_apologize_60 (fun H locs hP hD hS => ?_)
      refine lv_iconst (v := iI 0) hx hb dX1_apologize_61 rfl ?_
      have hfin : (stA (stA (stA σ 4 k ((σ.2 4 k) - (w + (2 * (wit σ k))))) 4 k 0) 5 k 1) = apo σ k w := by first | exact (if_pos (by omega)).symm | (unfold apo; rw [if_neg (by omega), lit, if_pos (by omega)]) | (rw [clo_alt]; unfold apo; rw [if_neg (by omega), lit, if_neg (by omega)])
      rw [hfin] at hP
      refine z_re (v' := iI ((apo σ k w).2 4 k)) (congrArg iI (by rw [← hfin]; simp [stA])) ?_
      exact W.iret hx hb hr (fun t ht hW => ⟨⟨_, (), rfl, rfl, (by show va_P _ _ _ t.heap; rw [ht]; exact hP)⟩, hS.F ht⟩) hS.2.2 dX1_apologize_62
    ·
      refine lv_aload_n hx hb dX1_apologize_49 rfl (lv_at hl 1 rfl) ?_
      refine lv_iconst (v := iI 2) hx hb dX1_apologize_50 rfl ?_
      refine u_ildS hx hb hK hP (k := k) (i := 2) (v := iI ((σ.2 4 k) - (w + (2 * (wit σ k))))) (show k < σ.1 1 from by omega) (by decide) (congrArg iI (by simp [stA, stS])) dX1_apologize_51 ?_
      have hfin : (stA σ 4 k ((σ.2 4 k) - (w + (2 * (wit σ k))))) = apo σ k w := by first | exact (if_pos (by omega)).symm | (unfold apo; rw [if_neg (by omega), lit, if_pos (by omega)]) | (rw [clo_alt]; unfold apo; rw [if_neg (by omega), lit, if_neg (by omega)])
      rw [hfin] at hP
      refine z_re (v' := iI ((apo σ k w).2 4 k)) (congrArg iI (by rw [← hfin]; simp [stA])) ?_
      exact W.iret hx hb hr (fun t ht hW => ⟨⟨_, (), rfl, rfl, (by show va_P _ _ _ t.heap; rw [ht]; exact hP)⟩, hS.F ht⟩) hS.2.2 dX1_apologize_52
  ·
    refine lv_aload_n hx hb dX1_apologize_9 rfl (lv_at hl 0 rfl) ?_
    refine lv_dup hx hb dX1_apologize_10 rfl ?_
    refine u_get (v := .int (iI (σ.1 3 : Nat))) hx hb hts hin0 hown hK hP 0 rfl 3 (by decide) w_0 rfl rfl dX1_apologize_11 ?_
    refine lv_iconst (v := iI 1) hx hb dX1_apologize_14 rfl ?_
    refine z_iadd hx hb dX1_apologize_15 ?_
    refine z_re (v' := iI (((σ.1 3) + 1 : Nat) : Int)) (congrArg iI (by omega)) ?_
    refine u_put hx hb hts hin0 hown hK hP hD hS 0 rfl 3 (by decide) w_0 rfl rfl (by decide +kernel) (Nat.le_of_ble_eq_true rfl) uW_put3 dX1_apologize_16 (fun H locs hP hD hS => ?_)
    refine lv_aload_n hx hb dX1_apologize_19 rfl (lv_at hl 0 rfl) ?_
    refine lv_aload_n hx hb dX1_apologize_20 rfl (lv_at hl 1 rfl) ?_
    refine zc_wv (va_runV (As := [.ref (rs k)]) (rest := []) ⟨hx, hb, hml, hown, hts⟩ (c_X1_speak l G y P S rp rs _ (stS σ 3 ((σ.1 3) + 1)) k hIn.2 hk g4) (cwV 1 hts gX1_apologize_X1_speak rfl rfl rfl (by decide +kernel) ⟨Nat.le_of_ble_eq_true rfl, Nat.le_of_ble_eq_true rfl⟩) (preWU hK hP hD) rfl rfl hl.1 rfl (lv_room (Nat.le_of_ble_eq_true rfl)) dX1_apologize_21 ⟨Nat.le_of_ble_eq_true rfl, Nat.le_of_ble_eq_true rfl⟩) hS (fun q h => uA_mono (by first | rfl | omega) (by first | rfl | omega) hS.1 h) (fun H locs hP hS _ _ => ?_)
    have hD := uW_D (σ := (stS σ 3 ((σ.1 3) + 1))) (σ' := (spk (stS σ 3 ((σ.1 3) + 1)) k)) rfl rfl hD
    refine lv_aload_n hx hb dX1_apologize_24 rfl (lv_at hl 1 rfl) ?_
    refine lv_iconst (v := iI 2) hx hb dX1_apologize_25 rfl ?_
    refine u_ildS hx hb hK hP (k := k) (i := 2) (v := iI ((spk (stS σ 3 ((σ.1 3) + 1)) k).2 4 k)) (show k < σ.1 1 from by omega) (by decide) rfl dX1_apologize_26 ?_
    have hfin : (spk (stS σ 3 ((σ.1 3) + 1)) k) = apo σ k w := by first | exact (if_pos (by omega)).symm | (unfold apo; rw [if_neg (by omega), lit, if_pos (by omega)]) | (rw [clo_alt]; unfold apo; rw [if_neg (by omega), lit, if_neg (by omega)])
    rw [hfin] at hP
    refine z_re (v' := iI ((apo σ k w).2 4 k)) (congrArg iI (by rw [← hfin])) ?_
    exact W.iret hx hb hr (fun t ht hW => ⟨⟨_, (), rfl, rfl, (by show va_P _ _ _ t.heap; rw [ht]; exact hP)⟩, hS.F ht⟩) hS.2.2 dX1_apologize_27
set_option maxHeartbeats 4000000 in
set_option maxRecDepth 100000 in
theorem c_X1_areOpposite (l : Launch) (G : zG) (y P S : Nat) (rp rs : Nat → Nat) (B : Nat) (σ : zS) (i : Nat) (o : Nat) (hI : zI B σ) (hi : i < σ.1 1) (ho : o < σ.1 1) : Met l yX1_areOpposite wsX1_areOpposite ({ frames := 0, cells := 0, slots := 0, locals := 0 } : Room) (va_Pc [.ref y, .ref (rs i), .ref (rs o)] (pU G y P S rp rs σ)) (vp_Si (fun r => r = iI (pq σ i o))) 0 0 (fun _ => False) := by
  refine Met.ofW (cc := cX1_areOpposite) (maxL := 3) (ret := (some .boolean)) (by decide) rfl ?_
  intro pp ee s m args below meth c s₁ B9 hml hv
  obtain ⟨rfl, hP, hK⟩ := hv
  have hx := B9.exec
  have hb := B9.bytes
  have hr := B9.returns
  have hts := atoms_spec (ws := wsX1_areOpposite) B9.pre
  have hown : s.vm.findClass RX1 = some m.cls := findClass_of_methodNamed B9.named
  have hlocks := B9.notSynchronized
  have hl := lv_entry ([.ref y, .ref (rs i), .ref (rs o)]) (n := 3) (Nat.le_of_ble_eq_true rfl)
  rw [lg_entry_eq]
  generalize (lg_sl ([.ref y, .ref (rs i), .ref (rs o)]) ++ List.replicate (3 - (lg_sl ([.ref y, .ref (rs i), .ref (rs o)])).length) Slot.unset).toArray = ls at hl ⊢
  have hl : lv_has ls 3 [(0, .ref y), (1, .ref (rs i)), (2, .ref (rs o))] := hl
  have hIn := hI.n
  have hIb := hI.b
  have g5 := hI.r5 i
  have g6 := hI.r5 o
  refine lv_aload_n hx hb dX1_areOpposite_0 rfl (lv_at hl 1 rfl) ?_
  refine lv_iconst (v := iI 3) hx hb dX1_areOpposite_1 rfl ?_
  refine u_ildS hx hb hK hP (k := i) (i := 3) (v := iI (σ.2 5 i)) (show i < σ.1 1 from by omega) (by decide) rfl dX1_areOpposite_2 ?_
  have f_1 := hI.r5 i
  refine z_if_ne (tgt := 34) hx hb dX1_areOpposite_3 (by decide) (by omega) (fun c_2 => ?_) (fun c_2 => ?_)
  ·
    refine lv_iconst (v := iI 0) hx hb dX1_areOpposite_34 rfl ?_
    refine z_re (v' := iI (pq σ i o)) (congrArg iI (by unfold pq; split <;> omega)) ?_
    exact W.zret hx hb hr (z_nb (by have := pq_or σ i o; omega)) (fun t ht _ => ⟨_, rfl, rfl, ht⟩) (fun q hq => absurd hq List.not_mem_nil) dX1_areOpposite_35
  ·
    refine lv_aload_n hx hb dX1_areOpposite_6 rfl (lv_at hl 2 rfl) ?_
    refine lv_iconst (v := iI 3) hx hb dX1_areOpposite_7 rfl ?_
    refine u_ildS hx hb hK hP (k := o) (i := 3) (v := iI (σ.2 5 o)) (show o < σ.1 1 from by omega) (by decide) rfl dX1_areOpposite_8 ?_
    have f_3 := hI.r5 o
    refine z_if_ne (tgt := 34) hx hb dX1_areOpposite_9 (by decide) (by omega) (fun c_4 => ?_) (fun c_4 => ?_)
    ·
      refine lv_iconst (v := iI 0) hx hb dX1_areOpposite_34 rfl ?_
      refine z_re (v' := iI (pq σ i o)) (congrArg iI (by unfold pq; split <;> omega)) ?_
      exact W.zret hx hb hr (z_nb (by have := pq_or σ i o; omega)) (fun t ht _ => ⟨_, rfl, rfl, ht⟩) (fun q hq => absurd hq List.not_mem_nil) dX1_areOpposite_35
    ·
      refine lv_aload_n hx hb dX1_areOpposite_12 rfl (lv_at hl 1 rfl) ?_
      refine lv_iconst (v := iI 0) hx hb dX1_areOpposite_13 rfl ?_
      refine u_ildS hx hb hK hP (k := i) (i := 0) (v := iI (σ.2 2 i)) (show i < σ.1 1 from by omega) (by decide) rfl dX1_areOpposite_14 ?_
      have f_5 := hI.r2 (k := i) (by omega)
      refine lv_aload_n hx hb dX1_areOpposite_15 rfl (lv_at hl 2 rfl) ?_
      refine lv_iconst (v := iI 1) hx hb dX1_areOpposite_16 rfl ?_
      refine u_ildS hx hb hK hP (k := o) (i := 1) (v := iI (σ.2 3 o)) (show o < σ.1 1 from by omega) (by decide) rfl dX1_areOpposite_17 ?_
      have f_6 := hI.r3 (k := o) (by omega)
      refine z_icmp_ne (tgt := 34) hx hb dX1_areOpposite_18 (by decide) (by omega) (by omega) (fun c_7 => ?_) (fun c_7 => ?_)
      ·
        refine lv_iconst (v := iI 0) hx hb dX1_areOpposite_34 rfl ?_
        refine z_re (v' := iI (pq σ i o)) (congrArg iI (by unfold pq; split <;> omega)) ?_
        exact W.zret hx hb hr (z_nb (by have := pq_or σ i o; omega)) (fun t ht _ => ⟨_, rfl, rfl, ht⟩) (fun q hq => absurd hq List.not_mem_nil) dX1_areOpposite_35
      ·
        refine lv_aload_n hx hb dX1_areOpposite_21 rfl (lv_at hl 1 rfl) ?_
        refine lv_iconst (v := iI 1) hx hb dX1_areOpposite_22 rfl ?_
        refine u_ildS hx hb hK hP (k := i) (i := 1) (v := iI (σ.2 3 i)) (show i < σ.1 1 from by omega) (by decide) rfl dX1_areOpposite_23 ?_
        have f_8 := hI.r3 (k := i) (by omega)
        refine lv_aload_n hx hb dX1_areOpposite_24 rfl (lv_at hl 2 rfl) ?_
        refine lv_iconst (v := iI 0) hx hb dX1_areOpposite_25 rfl ?_
        refine u_ildS hx hb hK hP (k := o) (i := 0) (v := iI (σ.2 2 o)) (show o < σ.1 1 from by omega) (by decide) rfl dX1_areOpposite_26 ?_
        have f_9 := hI.r2 (k := o) (by omega)
        refine z_icmp_ne (tgt := 34) hx hb dX1_areOpposite_27 (by decide) (by omega) (by omega) (fun c_10 => ?_) (fun c_10 => ?_)
        ·
          refine lv_iconst (v := iI 0) hx hb dX1_areOpposite_34 rfl ?_
          refine z_re (v' := iI (pq σ i o)) (congrArg iI (by unfold pq; split <;> omega)) ?_
          exact W.zret hx hb hr (z_nb (by have := pq_or σ i o; omega)) (fun t ht _ => ⟨_, rfl, rfl, ht⟩) (fun q hq => absurd hq List.not_mem_nil) dX1_areOpposite_35
        ·
          refine lv_iconst (v := iI 1) hx hb dX1_areOpposite_30 rfl ?_
          refine lv_goto (tgt := 35) hx hb dX1_areOpposite_31 (by decide) ?_
          refine z_re (v' := iI (pq σ i o)) (congrArg iI (by unfold pq; split <;> omega)) ?_
          exact W.zret hx hb hr (z_nb (by have := pq_or σ i o; omega)) (fun t ht _ => ⟨_, rfl, rfl, ht⟩) (fun q hq => absurd hq List.not_mem_nil) dX1_areOpposite_35
set_option maxHeartbeats 4000000 in
set_option maxRecDepth 100000 in
theorem c_X1_setOff (l : Launch) (G : zG) (y P S : Nat) (rp rs : Nat → Nat) (sz : Nat) (B : Nat) (σ : zS) (i : Nat) (o : Nat) (hI : zI B σ) (hi : i < σ.1 1) (ho : o < σ.1 1) (hne : o ≠ i) : Met l yX1_setOff wsX1_setOff ({ frames := 0, cells := 0, slots := 0, locals := 0 } : Room) (va_Pc [.ref y, .ref (rs i), .ref (rs o)] (wU G y P S rp rs σ sz)) (va_Qi (fun r (_ : Unit) => r = iI (min (σ.2 4 i) (σ.2 4 o))) (fun _ t9 => va_P G.1 vwCl (uW G y P S rp rs (sof σ i o)) t9.heap) (uA (σ.1 0) (σ.1 1) y P S rp rs sz)) 0 0 (uA (σ.1 0) (σ.1 1) y P S rp rs sz) := by
  refine Met.ofW (cc := cX1_setOff) (maxL := 4) (ret := (some .int)) (by decide) rfl ?_
  intro pp ee s m args below meth c s₁ B9 hml hv
  obtain ⟨rfl, hsz, hP, hK, hD0⟩ := hv
  subst hsz
  have hD := uW_uA (sz := s.heap.size) hD0
  have hS : va_S (uA (σ.1 0) (σ.1 1) y P S rp rs s.heap.size) s.heap s.heap [] := va_S.rf
  have hx := B9.exec
  have hb := B9.bytes
  have hr := B9.returns
  have hts := atoms_spec (ws := wsX1_setOff) B9.pre
  have hown : s.vm.findClass RX1 = some m.cls := findClass_of_methodNamed B9.named
  have hlocks := B9.notSynchronized
  have hl := lv_entry ([.ref y, .ref (rs i), .ref (rs o)]) (n := 4) (Nat.le_of_ble_eq_true rfl)
  rw [lg_entry_eq]
  generalize (lg_sl ([.ref y, .ref (rs i), .ref (rs o)]) ++ List.replicate (4 - (lg_sl ([.ref y, .ref (rs i), .ref (rs o)])).length) Slot.unset).toArray = ls at hl ⊢
  have hl : lv_has ls 4 [(0, .ref y), (1, .ref (rs i)), (2, .ref (rs o))] := hl
  have hIn := hI.n
  have hIb := hI.b
  have g4 := hI.r4 i
  have g5 := hI.r4 o
  have hni : i ≠ o := fun q => hne q.symm
  refine lv_aload_n hx hb dX1_setOff_0 rfl (lv_at hl 1 rfl) ?_
  refine lv_iconst (v := iI 2) hx hb dX1_setOff_1 rfl ?_
  refine u_ildS hx hb hK hP (k := i) (i := 2) (v := iI (σ.2 4 i)) (show i < σ.1 1 from by omega) (by decide) rfl dX1_setOff_2 ?_
  have f_1 := hI.r4 i
  refine lv_aload_n hx hb dX1_setOff_3 rfl (lv_at hl 2 rfl) ?_
  refine lv_iconst (v := iI 2) hx hb dX1_setOff_4 rfl ?_
  refine u_ildS hx hb hK hP (k := o) (i := 2) (v := iI (σ.2 4 o)) (show o < σ.1 1 from by omega) (by decide) rfl dX1_setOff_5 ?_
  have f_2 := hI.r4 o
  refine z_icmp_ge (tgt := 15) hx hb dX1_setOff_6 (by decide) (by omega) (by omega) (fun c_3 => ?_) (fun c_3 => ?_)
  ·
    refine lv_aload_n hx hb dX1_setOff_15 rfl (lv_at hl 2 rfl) ?_
    refine lv_iconst (v := iI 2) hx hb dX1_setOff_16 rfl ?_
    refine u_ildS hx hb hK hP (k := o) (i := 2) (v := iI (σ.2 4 o)) (show o < σ.1 1 from by omega) (by decide) rfl dX1_setOff_17 ?_
    have f_4 := hI.r4 o
    refine lv_istore_n (lv' := [(3, .int (iI (σ.2 4 o))), (0, .ref y), (1, .ref (rs i)), (2, .ref (rs o))]) hx hb dX1_setOff_18 rfl hl (by decide) rfl (fun ls hl => ?_)
    refine lv_aload_n hx hb dX1_setOff_19 rfl (lv_at hl 2 rfl) ?_
    refine lv_iconst (v := iI 2) hx hb dX1_setOff_20 rfl ?_
    refine lv_dup2_11 hx hb dX1_setOff_21 rfl rfl ?_
    refine u_ildS hx hb hK hP (k := i) (i := 2) (v := iI (σ.2 4 i)) (show i < σ.1 1 from by omega) (by decide) rfl dX1_setOff_22 ?_
    have f_5 := hI.r4 i
    refine lv_iload_n hx hb dX1_setOff_23 rfl (lv_at hl 0 rfl) ?_
    refine z_isub hx hb dX1_setOff_24 ?_
    refine u_istS hx hb hK hP hD hS (k := i) (i := 2) (j := 4) (v := ((σ.2 4 i) - (σ.2 4 o))) rfl (show i < σ.1 1 from by omega) (by decide) dX1_setOff_25 (fun H locs hP hD hS => ?_)
    refine lv_aload_n hx hb dX1_setOff_26 rfl (lv_at hl 3 rfl) ?_
    refine lv_iconst (v := iI 2) hx hb dX1_setOff_27 rfl ?_
    refine lv_dup2_11 hx hb dX1_setOff_28 rfl rfl ?_
    refine u_ildS hx hb hK hP (k := o) (i := 2) (v := iI (σ.2 4 o)) (show o < σ.1 1 from by omega) (by decide) (congrArg iI (by simp [stA, stS, hne, hni])) dX1_setOff_29 ?_
    have f_6 := hI.r4 o
    refine lv_iload_n hx hb dX1_setOff_30 rfl (lv_at hl 0 rfl) ?_
    refine z_isub hx hb dX1_setOff_31 ?_
    refine u_istS hx hb hK hP hD hS (k := o) (i := 2) (j := 4) (v := ((σ.2 4 o) - (σ.2 4 o))) rfl (show o < σ.1 1 from by omega) (by decide) dX1_setOff_32 (fun H locs hP hD hS => ?_)
    refine lv_aload_n hx hb dX1_setOff_33 rfl (lv_at hl 2 rfl) ?_
    refine lv_iconst (v := iI 2) hx hb dX1_setOff_34 rfl ?_
    refine u_ildS hx hb hK hP (k := i) (i := 2) (v := iI ((σ.2 4 i) - (σ.2 4 o))) (show i < σ.1 1 from by omega) (by decide) (congrArg iI (by simp [stA, stS, hne, hni])) dX1_setOff_35 ?_
    refine z_if_ne (tgt := 43) hx hb dX1_setOff_36 (by decide) (by omega) (fun c_7 => ?_) (fun c_7 => ?_)
    ·
      refine lv_aload_n hx hb dX1_setOff_43 rfl (lv_at hl 3 rfl) ?_
      refine lv_iconst (v := iI 2) hx hb dX1_setOff_44 rfl ?_
      refine u_ildS hx hb hK hP (k := o) (i := 2) (v := iI ((σ.2 4 o) - (σ.2 4 o))) (show o < σ.1 1 from by omega) (by decide) (congrArg iI (by simp [stA, stS, hne, hni])) dX1_setOff_45 ?_
      refine z_if_ne (tgt := 53) hx hb dX1_setOff_46 (by decide) (by omega) (fun c_8 => ?_) (fun c_8 => ?_)
      ·
        refine lv_iload_n hx hb dX1_setOff_53 rfl (lv_at hl 0 rfl) ?_
        have hfin : (stA (stA σ 4 i ((σ.2 4 i) - (σ.2 4 o))) 4 o ((σ.2 4 o) - (σ.2 4 o))) = sof σ i o := by first | (exfalso; omega) | skip; rw [sof_s hne (σ.2 4 o) (by omega)]; (first | rw [if_pos (by omega)] | rw [if_neg (by omega)]); (first | rw [if_pos (by omega)] | rw [if_neg (by omega)])
        rw [hfin] at hP
        refine z_re (v' := iI (min (σ.2 4 i) (σ.2 4 o))) (congrArg iI (by omega)) ?_
        exact W.iret hx hb hr (fun t ht hW => ⟨⟨_, (), rfl, rfl, (by show va_P _ _ _ t.heap; rw [ht]; exact hP)⟩, hS.F ht⟩) hS.2.2 dX1_setOff_54
      ·
        refine lv_aload_n hx hb dX1_setOff_49 rfl (lv_at hl 3 rfl) ?_
        refine lv_iconst (v := iI 3) hx hb dX1_setOff_50 rfl ?_
        refine lv_iconst (v := iI 3) hx hb dX1_setOff_51 rfl ?_
        refine u_istS hx hb hK hP hD hS (k := o) (i := 3) (j := 5) (v := 3) rfl (show o < σ.1 1 from by omega) (by decide) dX1_setOff_52 (fun H locs hP hD hS => ?_)
        refine lv_iload_n hx hb dX1_setOff_53 rfl (lv_at hl 0 rfl) ?_
        have hfin : (stA (stA (stA σ 4 i ((σ.2 4 i) - (σ.2 4 o))) 4 o ((σ.2 4 o) - (σ.2 4 o))) 5 o 3) = sof σ i o := by first | (exfalso; omega) | skip; rw [sof_s hne (σ.2 4 o) (by omega)]; (first | rw [if_pos (by omega)] | rw [if_neg (by omega)]); (first | rw [if_pos (by omega)] | rw [if_neg (by omega)])
        rw [hfin] at hP
        refine z_re (v' := iI (min (σ.2 4 i) (σ.2 4 o))) (congrArg iI (by omega)) ?_
        exact W.iret hx hb hr (fun t ht hW => ⟨⟨_, (), rfl, rfl, (by show va_P _ _ _ t.heap; rw [ht]; exact hP)⟩, hS.F ht⟩) hS.2.2 dX1_setOff_54
    ·
      refine lv_aload_n hx hb dX1_setOff_39 rfl (lv_at hl 2 rfl) ?_
      refine lv_iconst (v := iI 3) hx hb dX1_setOff_40 rfl ?_
      refine lv_iconst (v := iI 3) hx hb dX1_setOff_41 rfl ?_
      refine u_istS hx hb hK hP hD hS (k := i) (i := 3) (j := 5) (v := 3) rfl (show i < σ.1 1 from by omega) (by decide) dX1_setOff_42 (fun H locs hP hD hS => ?_)
      refine lv_aload_n hx hb dX1_setOff_43 rfl (lv_at hl 3 rfl) ?_
      refine lv_iconst (v := iI 2) hx hb dX1_setOff_44 rfl ?_
      refine u_ildS hx hb hK hP (k := o) (i := 2) (v := iI ((σ.2 4 o) - (σ.2 4 o))) (show o < σ.1 1 from by omega) (by decide) (congrArg iI (by simp [stA, stS, hne, hni])) dX1_setOff_45 ?_
      refine z_if_ne (tgt := 53) hx hb dX1_setOff_46 (by decide) (by omega) (fun c_9 => ?_) (fun c_9 => ?_)
      ·
        refine lv_iload_n hx hb dX1_setOff_53 rfl (lv_at hl 0 rfl) ?_
        have hfin : (stA (stA (stA σ 4 i ((σ.2 4 i) - (σ.2 4 o))) 4 o ((σ.2 4 o) - (σ.2 4 o))) 5 i 3) = sof σ i o := by first | (exfalso; omega) | skip; rw [sof_s hne (σ.2 4 o) (by omega)]; (first | rw [if_pos (by omega)] | rw [if_neg (by omega)]); (first | rw [if_pos (by omega)] | rw [if_neg (by omega)])
        rw [hfin] at hP
        refine z_re (v' := iI (min (σ.2 4 i) (σ.2 4 o))) (congrArg iI (by omega)) ?_
        exact W.iret hx hb hr (fun t ht hW => ⟨⟨_, (), rfl, rfl, (by show va_P _ _ _ t.heap; rw [ht]; exact hP)⟩, hS.F ht⟩) hS.2.2 dX1_setOff_54
      ·
        refine lv_aload_n hx hb dX1_setOff_49 rfl (lv_at hl 3 rfl) ?_
        refine lv_iconst (v := iI 3) hx hb dX1_setOff_50 rfl ?_
        refine lv_iconst (v := iI 3) hx hb dX1_setOff_51 rfl ?_
        refine u_istS hx hb hK hP hD hS (k := o) (i := 3) (j := 5) (v := 3) rfl (show o < σ.1 1 from by omega) (by decide) dX1_setOff_52 (fun H locs hP hD hS => ?_)
        refine lv_iload_n hx hb dX1_setOff_53 rfl (lv_at hl 0 rfl) ?_
        have hfin : (stA (stA (stA (stA σ 4 i ((σ.2 4 i) - (σ.2 4 o))) 4 o ((σ.2 4 o) - (σ.2 4 o))) 5 i 3) 5 o 3) = sof σ i o := by first | (exfalso; omega) | skip; rw [sof_s hne (σ.2 4 o) (by omega)]; (first | rw [if_pos (by omega)] | rw [if_neg (by omega)]); (first | rw [if_pos (by omega)] | rw [if_neg (by omega)])
        rw [hfin] at hP
        refine z_re (v' := iI (min (σ.2 4 i) (σ.2 4 o))) (congrArg iI (by omega)) ?_
        exact W.iret hx hb hr (fun t ht hW => ⟨⟨_, (), rfl, rfl, (by show va_P _ _ _ t.heap; rw [ht]; exact hP)⟩, hS.F ht⟩) hS.2.2 dX1_setOff_54
  ·
    refine lv_aload_n hx hb dX1_setOff_9 rfl (lv_at hl 1 rfl) ?_
    refine lv_iconst (v := iI 2) hx hb dX1_setOff_10 rfl ?_
    refine u_ildS hx hb hK hP (k := i) (i := 2) (v := iI (σ.2 4 i)) (show i < σ.1 1 from by omega) (by decide) rfl dX1_setOff_11 ?_
    have f_10 := hI.r4 i
    refine lv_goto (tgt := 18) hx hb dX1_setOff_12 (by decide) ?_
    refine lv_istore_n (lv' := [(3, .int (iI (σ.2 4 i))), (0, .ref y), (1, .ref (rs i)), (2, .ref (rs o))]) hx hb dX1_setOff_18 rfl hl (by decide) rfl (fun ls hl => ?_)
    refine lv_aload_n hx hb dX1_setOff_19 rfl (lv_at hl 2 rfl) ?_
    refine lv_iconst (v := iI 2) hx hb dX1_setOff_20 rfl ?_
    refine lv_dup2_11 hx hb dX1_setOff_21 rfl rfl ?_
    refine u_ildS hx hb hK hP (k := i) (i := 2) (v := iI (σ.2 4 i)) (show i < σ.1 1 from by omega) (by decide) rfl dX1_setOff_22 ?_
    have f_11 := hI.r4 i
    refine lv_iload_n hx hb dX1_setOff_23 rfl (lv_at hl 0 rfl) ?_
    refine z_isub hx hb dX1_setOff_24 ?_
    refine u_istS hx hb hK hP hD hS (k := i) (i := 2) (j := 4) (v := ((σ.2 4 i) - (σ.2 4 i))) rfl (show i < σ.1 1 from by omega) (by decide) dX1_setOff_25 (fun H locs hP hD hS => ?_)
    refine lv_aload_n hx hb dX1_setOff_26 rfl (lv_at hl 3 rfl) ?_
    refine lv_iconst (v := iI 2) hx hb dX1_setOff_27 rfl ?_
    refine lv_dup2_11 hx hb dX1_setOff_28 rfl rfl ?_
    refine u_ildS hx hb hK hP (k := o) (i := 2) (v := iI (σ.2 4 o)) (show o < σ.1 1 from by omega) (by decide) (congrArg iI (by simp [stA, stS, hne, hni])) dX1_setOff_29 ?_
    have f_12 := hI.r4 o
    refine lv_iload_n hx hb dX1_setOff_30 rfl (lv_at hl 0 rfl) ?_
    refine z_isub hx hb dX1_setOff_31 ?_
    refine u_istS hx hb hK hP hD hS (k := o) (i := 2) (j := 4) (v := ((σ.2 4 o) - (σ.2 4 i))) rfl (show o < σ.1 1 from by omega) (by decide) dX1_setOff_32 (fun H locs hP hD hS => ?_)
    refine lv_aload_n hx hb dX1_setOff_33 rfl (lv_at hl 2 rfl) ?_
    refine lv_iconst (v := iI 2) hx hb dX1_setOff_34 rfl ?_
    refine u_ildS hx hb hK hP (k := i) (i := 2) (v := iI ((σ.2 4 i) - (σ.2 4 i))) (show i < σ.1 1 from by omega) (by decide) (congrArg iI (by simp [stA, stS, hne, hni])) dX1_setOff_35 ?_
    refine z_if_ne (tgt := 43) hx hb dX1_setOff_36 (by decide) (by omega) (fun c_13 => ?_) (fun c_13 => ?_)
    ·
      refine lv_aload_n hx hb dX1_setOff_43 rfl (lv_at hl 3 rfl) ?_
      refine lv_iconst (v := iI 2) hx hb dX1_setOff_44 rfl ?_
      refine u_ildS hx hb hK hP (k := o) (i := 2) (v := iI ((σ.2 4 o) - (σ.2 4 i))) (show o < σ.1 1 from by omega) (by decide) (congrArg iI (by simp [stA, stS, hne, hni])) dX1_setOff_45 ?_
      refine z_if_ne (tgt := 53) hx hb dX1_setOff_46 (by decide) (by omega) (fun c_14 => ?_) (fun c_14 => ?_)
      ·
        refine lv_iload_n hx hb dX1_setOff_53 rfl (lv_at hl 0 rfl) ?_
        have hfin : (stA (stA σ 4 i ((σ.2 4 i) - (σ.2 4 i))) 4 o ((σ.2 4 o) - (σ.2 4 i))) = sof σ i o := by first | (exfalso; omega) | skip; rw [sof_s hne (σ.2 4 i) (by omega)]; (first | rw [if_pos (by omega)] | rw [if_neg (by omega)]); (first | rw [if_pos (by omega)] | rw [if_neg (by omega)])
        rw [hfin] at hP
        refine z_re (v' := iI (min (σ.2 4 i) (σ.2 4 o))) (congrArg iI (by omega)) ?_
        exact W.iret hx hb hr (fun t ht hW => ⟨⟨_, (), rfl, rfl, (by show va_P _ _ _ t.heap; rw [ht]; exact hP)⟩, hS.F ht⟩) hS.2.2 dX1_setOff_54
      ·
        refine lv_aload_n hx hb dX1_setOff_49 rfl (lv_at hl 3 rfl) ?_
        refine lv_iconst (v := iI 3) hx hb dX1_setOff_50 rfl ?_
        refine lv_iconst (v := iI 3) hx hb dX1_setOff_51 rfl ?_
        refine u_istS hx hb hK hP hD hS (k := o) (i := 3) (j := 5) (v := 3) rfl (show o < σ.1 1 from by omega) (by decide) dX1_setOff_52 (fun H locs hP hD hS => ?_)
        refine lv_iload_n hx hb dX1_setOff_53 rfl (lv_at hl 0 rfl) ?_
        have hfin : (stA (stA (stA σ 4 i ((σ.2 4 i) - (σ.2 4 i))) 4 o ((σ.2 4 o) - (σ.2 4 i))) 5 o 3) = sof σ i o := by first | (exfalso; omega) | skip; rw [sof_s hne (σ.2 4 i) (by omega)]; (first | rw [if_pos (by omega)] | rw [if_neg (by omega)]); (first | rw [if_pos (by omega)] | rw [if_neg (by omega)])
        rw [hfin] at hP
        refine z_re (v' := iI (min (σ.2 4 i) (σ.2 4 o))) (congrArg iI (by omega)) ?_
        exact W.iret hx hb hr (fun t ht hW => ⟨⟨_, (), rfl, rfl, (by show va_P _ _ _ t.heap; rw [ht]; exact hP)⟩, hS.F ht⟩) hS.2.2 dX1_setOff_54
    ·
      refine lv_aload_n hx hb dX1_setOff_39 rfl (lv_at hl 2 rfl) ?_
      refine lv_iconst (v := iI 3) hx hb dX1_setOff_40 rfl ?_
      refine lv_iconst (v := iI 3) hx hb dX1_setOff_41 rfl ?_
      refine u_istS hx hb hK hP hD hS (k := i) (i := 3) (j := 5) (v := 3) rfl (show i < σ.1 1 from by omega) (by decide) dX1_setOff_42 (fun H locs hP hD hS => ?_)
      refine lv_aload_n hx hb dX1_setOff_43 rfl (lv_at hl 3 rfl) ?_
      refine lv_iconst (v := iI 2) hx hb dX1_setOff_44 rfl ?_
      refine u_ildS hx hb hK hP (k := o) (i := 2) (v := iI ((σ.2 4 o) - (σ.2 4 i))) (show o < σ.1 1 from by omega) (by decide) (congrArg iI (by simp [stA, stS, hne, hni])) dX1_setOff_45 ?_
      refine z_if_ne (tgt := 53) hx hb dX1_setOff_46 (by decide) (by omega) (fun c_15 => ?_) (fun c_15 => ?_)
      ·
        refine lv_iload_n hx hb dX1_setOff_53 rfl (lv_at hl 0 rfl) ?_
        have hfin : (stA (stA (stA σ 4 i ((σ.2 4 i) - (σ.2 4 i))) 4 o ((σ.2 4 o) - (σ.2 4 i))) 5 i 3) = sof σ i o := by first | (exfalso; omega) | skip; rw [sof_s hne (σ.2 4 i) (by omega)]; (first | rw [if_pos (by omega)] | rw [if_neg (by omega)]); (first | rw [if_pos (by omega)] | rw [if_neg (by omega)])
        rw [hfin] at hP
        refine z_re (v' := iI (min (σ.2 4 i) (σ.2 4 o))) (congrArg iI (by omega)) ?_
        exact W.iret hx hb hr (fun t ht hW => ⟨⟨_, (), rfl, rfl, (by show va_P _ _ _ t.heap; rw [ht]; exact hP)⟩, hS.F ht⟩) hS.2.2 dX1_setOff_54
      ·
        refine lv_aload_n hx hb dX1_setOff_49 rfl (lv_at hl 3 rfl) ?_
        refine lv_iconst (v := iI 3) hx hb dX1_setOff_50 rfl ?_
        refine lv_iconst (v := iI 3) hx hb dX1_setOff_51 rfl ?_
        refine u_istS hx hb hK hP hD hS (k := o) (i := 3) (j := 5) (v := 3) rfl (show o < σ.1 1 from by omega) (by decide) dX1_setOff_52 (fun H locs hP hD hS => ?_)
        refine lv_iload_n hx hb dX1_setOff_53 rfl (lv_at hl 0 rfl) ?_
        have hfin : (stA (stA (stA (stA σ 4 i ((σ.2 4 i) - (σ.2 4 i))) 4 o ((σ.2 4 o) - (σ.2 4 i))) 5 i 3) 5 o 3) = sof σ i o := by first | (exfalso; omega) | skip; rw [sof_s hne (σ.2 4 i) (by omega)]; (first | rw [if_pos (by omega)] | rw [if_neg (by omega)]); (first | rw [if_pos (by omega)] | rw [if_neg (by omega)])
        rw [hfin] at hP
        refine z_re (v' := iI (min (σ.2 4 i) (σ.2 4 o))) (congrArg iI (by omega)) ?_
        exact W.iret hx hb hr (fun t ht hW => ⟨⟨_, (), rfl, rfl, (by show va_P _ _ _ t.heap; rw [ht]; exact hP)⟩, hS.F ht⟩) hS.2.2 dX1_setOff_54
set_option maxHeartbeats 4000000 in
set_option maxRecDepth 100000 in
theorem c_X1_pass (l : Launch) (G : zG) (y P S : Nat) (rp rs : Nat → Nat) (sz : Nat) (B : Nat) (σ : zS) (hI : zI B σ) : Met l yX1_pass wsX1_pass ({ frames := 0, cells := 0, slots := 0, locals := 0 } : Room) (va_Pc [.ref y] (wU G y P S rp rs σ sz)) (va_Qi (fun r (_ : Unit) => r = iI ((day1 σ).2)) (fun _ t9 => va_P G.1 vwCl (uW G y P S rp rs ((day1 σ).1)) t9.heap) (uA (σ.1 0) (σ.1 1) y P S rp rs sz)) 0 0 (uA (σ.1 0) (σ.1 1) y P S rp rs sz) := by
  refine Met.ofW (cc := cX1_pass) (maxL := 6) (ret := (some .int)) (by decide) rfl ?_
  intro pp ee s m args below meth c s₁ B9 hml hv
  obtain ⟨rfl, hsz, hP, hK, hD0⟩ := hv
  subst hsz
  have hD := uW_uA (sz := s.heap.size) hD0
  have hS : va_S (uA (σ.1 0) (σ.1 1) y P S rp rs s.heap.size) s.heap s.heap [] := va_S.rf
  have hx := B9.exec
  have hb := B9.bytes
  have hr := B9.returns
  have hts := atoms_spec (ws := wsX1_pass) B9.pre
  have hown : s.vm.findClass RX1 = some m.cls := findClass_of_methodNamed B9.named
  have hlocks := B9.notSynchronized
  have hin0 : ∀ w ∈ wsX10, w ∈ wsX1_pass := by decide +kernel
  have w_0 := hts (.fieldLink RX1 15 "ApologyLedgerLaw$Sim" "slights" "[[I") (by decide +kernel)
  have w_1 := hts (.fieldLink RX1 23 "ApologyLedgerLaw$Sim" "day" "I") (by decide +kernel)
  have hl := lv_entry ([.ref y]) (n := 6) (Nat.le_of_ble_eq_true rfl)
  rw [lg_entry_eq]
  generalize (lg_sl ([.ref y]) ++ List.replicate (6 - (lg_sl ([.ref y])).length) Slot.unset).toArray = ls at hl ⊢
  have hl : lv_has ls 6 [(0, .ref y)] := hl
  have hIn := hI.n
  have hIb := hI.b
  refine lv_iconst (v := iI 0) hx hb dX1_pass_0 rfl ?_
  refine lv_istore_n (lv' := [(1, .int (iI 0)), (0, .ref y)]) hx hb dX1_pass_1 rfl hl (by decide) rfl (fun ls hl => ?_)
  refine lv_aload_n hx hb dX1_pass_2 rfl (lv_at hl 1 rfl) ?_
  refine u_get (v := .ref S) hx hb hts hin0 hown hK hP 0 rfl 1 (by decide) w_0 rfl rfl dX1_pass_3 ?_
  refine lv_astore_n (lv' := [(2, .ref S), (1, .int (iI 0)), (0, .ref y)]) hx hb dX1_pass_6 rfl hl (by decide) rfl (fun ls hl => ?_)
  refine lv_aload_n hx hb dX1_pass_7 rfl (lv_at hl 0 rfl) ?_
  refine u_lenS hx hb hK hP dX1_pass_8 ?_
  refine lv_istore_n (lv' := [(3, .int (iI (σ.1 1 : Nat))), (2, .ref S), (1, .int (iI 0)), (0, .ref y)]) hx hb dX1_pass_9 rfl hl (by decide) rfl (fun ls hl => ?_)
  refine lv_iconst (v := iI 0) hx hb dX1_pass_10 rfl ?_
  refine lv_istore (lv' := [(4, .int (iI 0)), (3, .int (iI (σ.1 1 : Nat))), (2, .ref S), (1, .int (iI 0)), (0, .ref y)]) hx hb dX1_pass_11 hl (by decide) rfl (fun ls hl => ?_)
  have LP13 : ∀ (r13 : Nat) (j : Nat) (s1 : Int), j ≤ σ.1 1 → σ.1 1 - j < r13 → s1 = (dyf σ j).2 → 0 ≤ s1 ∧ s1 ≤ j → ∀ (H : Heap) (locs : List Loc) (ls : Array Slot), va_P G.1 vwCl (uW G y P S rp rs (dyf σ j).1) H → va_D (uA (σ.1 0) (σ.1 1) y P S rp rs s.heap.size) (uW G y P S rp rs (dyf σ j).1) → va_S (uA (σ.1 0) (σ.1 1) y P S rp rs s.heap.size) s.heap H locs → lv_has ls 6 [(4, .int (iI (j : Int))), (3, .int (iI (σ.1 1 : Nat))), (2, .ref S), (1, .int (iI s1)), (0, .ref y)] → W pp l ee (headSpec wsX1_pass ({ frames := 0, cells := 0, slots := 0, locals := 0 } : Room)).room s m ([.ref y] : List Value).toArray below meth c H locs 0 0 (MQ below (va_Qi (fun r (_ : Unit) => r = iI ((day1 σ).2)) (fun _ t9 => va_P G.1 vwCl (uW G y P S rp rs ((day1 σ).1)) t9.heap) (uA (σ.1 0) (σ.1 1) y P S rp rs s.heap.size)) ([.ref y] : List Value).toArray s 0 0 (uA (σ.1 0) (σ.1 1) y P S rp rs s.heap.size)) (F0 m 13 ls []) := by
    intro r13
    induction r13 with
    | zero => intro j s1 hv13_0 hv13_1; exfalso; omega
    | succ r13 ih13 =>
      intro j s1 hv13_0 hv13_1 hv13_2 hv13_3 H locs ls hP hD hS hl
      have f_1 := dyf_n σ j
      have f_2 := dyf_k σ j 4 j (Nat.le_refl j)
      have f_3 := dyf_k σ j 5 j (Nat.le_refl j)
      have f_4 := dyf_k σ j 6 j (Nat.le_refl j)
      have f_5 := dyf_k σ j 7 j (Nat.le_refl j)
      have f_6 := hI.r4 j
      have f_7 := hI.r5 j
      have f_8 := hI.r6 j
      have f_9 := hI.r7 j
      have f_10 := bea_5 (dyf σ j).1 j
      refine lv_iload hx hb dX1_pass_13 (lv_at hl 0 rfl) ?_
      refine lv_iload_n hx hb dX1_pass_15 rfl (lv_at hl 1 rfl) ?_
      refine z_icmp_ge (tgt := 133) hx hb dX1_pass_16 (by decide) (by omega) (by omega) (fun c_11 => ?_) (fun c_11 => ?_)
      ·
        refine lv_aload_n hx hb dX1_pass_133 rfl (lv_at hl 4 rfl) ?_
        refine lv_dup hx hb dX1_pass_134 rfl ?_
        refine u_get (v := .int (iI ((dyf σ j).1.1 2 : Nat))) hx hb hts hin0 hown hK hP 0 rfl 2 (by decide) w_1 rfl rfl dX1_pass_135 ?_
        refine lv_iconst (v := iI 1) hx hb dX1_pass_138 rfl ?_
        refine z_iadd hx hb dX1_pass_139 ?_
        refine z_re (v' := iI ((((dyf σ j).1.1 2) + 1 : Nat) : Int)) (congrArg iI (by omega)) ?_
        refine u_put hx hb hts hin0 hown hK hP hD hS 0 rfl 2 (by decide) w_1 rfl rfl (by decide +kernel) (Nat.le_of_ble_eq_true rfl) uW_put2 dX1_pass_140 (fun H locs hP hD hS => ?_)
        refine lv_iload_n hx hb dX1_pass_143 rfl (lv_at hl 3 rfl) ?_
        have hfin : (stS (dyf σ j).1 2 (((dyf σ j).1.1 2) + 1)) = (day1 σ).1 := by rw [day1, show j = σ.1 1 from by omega]
        rw [hfin] at hP
        refine z_re (v' := iI ((day1 σ).2)) (congrArg iI (by rw [hv13_2, day1, show j = σ.1 1 from by omega])) ?_
        exact W.iret hx hb hr (fun t ht hW => ⟨⟨_, (), rfl, rfl, (by show va_P _ _ _ t.heap; rw [ht]; exact hP)⟩, hS.F ht⟩) hS.2.2 dX1_pass_144
      ·
        refine lv_aload_n hx hb dX1_pass_19 rfl (lv_at hl 2 rfl) ?_
        refine lv_iload hx hb dX1_pass_20 (lv_at hl 0 rfl) ?_
        refine u_aalS hx hb hK hP (k := j) (show j < (dyf σ j).1.1 1 from by omega) (show (dyf σ j).1.1 1 < 2147483648 from by omega) dX1_pass_22 ?_
        refine lv_astore (lv' := [(5, .ref (rs j)), (4, .int (iI (j : Int))), (3, .int (iI (σ.1 1 : Nat))), (2, .ref S), (1, .int (iI s1)), (0, .ref y)]) hx hb dX1_pass_23 hl (by decide) rfl (fun ls hl => ?_)
        refine lv_aload hx hb dX1_pass_25 (lv_at hl 0 rfl) ?_
        refine lv_iconst (v := iI 3) hx hb dX1_pass_27 rfl ?_
        refine u_ildS hx hb hK hP (k := j) (i := 3) (v := iI ((dyf σ j).1.2 5 j)) (show j < (dyf σ j).1.1 1 from by omega) (by decide) rfl dX1_pass_28 ?_
        refine z_if_le (tgt := 35) hx hb dX1_pass_29 (by decide) (by omega) (fun c_12 => ?_) (fun c_12 => ?_)
        ·
          refine lv_aload hx hb dX1_pass_35 (lv_at hl 0 rfl) ?_
          refine lv_iconst (v := iI 4) hx hb dX1_pass_37 rfl ?_
          refine lv_dup2_11 hx hb dX1_pass_38 rfl rfl ?_
          refine u_ildS hx hb hK hP (k := j) (i := 4) (v := iI ((dyf σ j).1.2 6 j)) (show j < (dyf σ j).1.1 1 from by omega) (by decide) rfl dX1_pass_39 ?_
          refine lv_iconst (v := iI 1) hx hb dX1_pass_40 rfl ?_
          refine z_iadd hx hb dX1_pass_41 ?_
          refine u_istS hx hb hK hP hD hS (k := j) (i := 4) (j := 6) (v := (((dyf σ j).1.2 6 j) + 1)) rfl (show j < (dyf σ j).1.1 1 from by omega) (by decide) dX1_pass_42 (fun H locs hP hD hS => ?_)
          refine lv_aload hx hb dX1_pass_43 (lv_at hl 0 rfl) ?_
          refine lv_iconst (v := iI 5) hx hb dX1_pass_45 rfl ?_
          refine lv_dup2_11 hx hb dX1_pass_46 rfl rfl ?_
          refine u_ildS hx hb hK hP (k := j) (i := 5) (v := iI ((dyf σ j).1.2 7 j)) (show j < (dyf σ j).1.1 1 from by omega) (by decide) (congrArg iI (by simp [stA, stS])) dX1_pass_47 ?_
          refine lv_iconst (v := iI 1) hx hb dX1_pass_48 rfl ?_
          refine z_iadd hx hb dX1_pass_49 ?_
          refine u_istS hx hb hK hP hD hS (k := j) (i := 5) (j := 7) (v := (((dyf σ j).1.2 7 j) + 1)) rfl (show j < (dyf σ j).1.1 1 from by omega) (by decide) dX1_pass_50 (fun H locs hP hD hS => ?_)
          refine lv_aload hx hb dX1_pass_51 (lv_at hl 0 rfl) ?_
          refine lv_iconst (v := iI 4) hx hb dX1_pass_53 rfl ?_
          refine u_ildS hx hb hK hP (k := j) (i := 4) (v := iI (((dyf σ j).1.2 6 j) + 1)) (show j < (dyf σ j).1.1 1 from by omega) (by decide) (congrArg iI (by simp [stA, stS])) dX1_pass_54 ?_
          refine lv_iconst (v := iI 5) hx hb dX1_pass_55 rfl ?_
          refine z_irem hx hb dX1_pass_56 (by omega) (by omega) ?_
          refine z_if_ne (tgt := 87) hx hb dX1_pass_57 (by decide) (by omega) (fun c_13 => ?_) (fun c_13 => ?_)
          ·
            refine lv_aload hx hb dX1_pass_87 (lv_at hl 0 rfl) ?_
            refine lv_iconst (v := iI 2) hx hb dX1_pass_89 rfl ?_
            refine u_ildS hx hb hK hP (k := j) (i := 2) (v := iI ((dyf σ j).1.2 4 j)) (show j < (dyf σ j).1.1 1 from by omega) (by decide) (congrArg iI (by simp [stA, stS])) dX1_pass_90 ?_
            refine lv_bipush (v := iI 99) hx hb dX1_pass_91 (by decide) ?_
            refine z_icmp_le (tgt := 102) hx hb dX1_pass_93 (by decide) (by omega) (by omega) (fun c_14 => ?_) (fun c_14 => ?_)
            ·
              refine lv_aload hx hb dX1_pass_102 (lv_at hl 0 rfl) ?_
              refine lv_iconst (v := iI 5) hx hb dX1_pass_104 rfl ?_
              refine u_ildS hx hb hK hP (k := j) (i := 5) (v := iI (((dyf σ j).1.2 7 j) + 1)) (show j < (dyf σ j).1.1 1 from by omega) (by decide) (congrArg iI (by simp [stA, stS])) dX1_pass_105 ?_
              refine lv_bipush (v := iI 30) hx hb dX1_pass_106 (by decide) ?_
              refine z_icmp_ge (tgt := 114) hx hb dX1_pass_108 (by decide) (by omega) (by omega) (fun c_15 => ?_) (fun c_15 => ?_)
              ·
                refine lv_aload hx hb dX1_pass_114 (lv_at hl 0 rfl) ?_
                refine lv_iconst (v := iI 2) hx hb dX1_pass_116 rfl ?_
                refine lv_iconst (v := iI 0) hx hb dX1_pass_117 rfl ?_
                refine u_istS hx hb hK hP hD hS (k := j) (i := 2) (j := 4) (v := 0) rfl (show j < (dyf σ j).1.1 1 from by omega) (by decide) dX1_pass_118 (fun H locs hP hD hS => ?_)
                refine lv_aload hx hb dX1_pass_119 (lv_at hl 0 rfl) ?_
                refine lv_iconst (v := iI 3) hx hb dX1_pass_121 rfl ?_
                refine lv_iconst (v := iI 2) hx hb dX1_pass_122 rfl ?_
                refine u_istS hx hb hK hP hD hS (k := j) (i := 3) (j := 5) (v := 2) rfl (show j < (dyf σ j).1.1 1 from by omega) (by decide) dX1_pass_123 (fun H locs hP hD hS => ?_)
                refine lv_iinc (v := iI (s1 + 1)) (lv' := [(1, .int (iI (s1 + 1))), (5, .ref (rs j)), (4, .int (iI (j : Int))), (3, .int (iI (σ.1 1 : Nat))), (2, .ref S), (0, .ref y)]) hx hb dX1_pass_124 hl (k := 4) rfl (iI_add _ _) (by decide) rfl (fun ls hl => ?_)
                refine lv_iinc (v := iI ((j : Int) + 1)) (lv' := [(4, .int (iI ((j : Int) + 1))), (1, .int (iI (s1 + 1))), (5, .ref (rs j)), (3, .int (iI (σ.1 1 : Nat))), (2, .ref S), (0, .ref y)]) hx hb dX1_pass_127 hl (k := 2) rfl (iI_add _ _) (by decide) rfl (fun ls hl => ?_)
                refine lv_goto (tgt := 13) hx hb dX1_pass_130 (by decide) ?_
                have hfs : (stA (stA (stA (stA (dyf σ j).1 6 j (((dyf σ j).1.2 6 j) + 1)) 7 j (((dyf σ j).1.2 7 j) + 1)) 4 j 0) 5 j 2) = (dyf σ (j + 1)).1 := by first | (exfalso; omega) | skip; rw [dyf, if_pos (by omega)]; show (stA (stA (stA (stA (dyf σ j).1 6 j (((dyf σ j).1.2 6 j) + 1)) 7 j (((dyf σ j).1.2 7 j) + 1)) 4 j 0) 5 j 2) = bea (dyf σ j).1 j; unfold bea clo; (first | rw [if_pos (by omega)] | rw [if_neg (by omega)]); simp only [up4_b, up4_4, up4_5, up4_7] <;> exact up4_cong (by first | rfl | (unfold wwb; split <;> omega)) (by first | rfl | omega) rfl rfl
                rw [hfs] at hP hD
                exact ih13 (j + 1) (s1 + 1) (by omega) (by omega) (by rw [dyf, if_pos (by omega)]; (try dsimp only); rw [← hv13_2]; split <;> omega) (by omega) H locs ls hP hD hS (lv_sub hl [0, 3, 4, 1, 5] rfl)
              ·
                refine lv_goto (tgt := 127) hx hb dX1_pass_111 (by decide) ?_
                refine lv_iinc (v := iI ((j : Int) + 1)) (lv' := [(4, .int (iI ((j : Int) + 1))), (5, .ref (rs j)), (3, .int (iI (σ.1 1 : Nat))), (2, .ref S), (1, .int (iI s1)), (0, .ref y)]) hx hb dX1_pass_127 hl (k := 1) rfl (iI_add _ _) (by decide) rfl (fun ls hl => ?_)
                refine lv_goto (tgt := 13) hx hb dX1_pass_130 (by decide) ?_
                have hfs : (stA (stA (dyf σ j).1 6 j (((dyf σ j).1.2 6 j) + 1)) 7 j (((dyf σ j).1.2 7 j) + 1)) = (dyf σ (j + 1)).1 := by first | (exfalso; omega) | skip; rw [dyf, if_pos (by omega)]; show (stA (stA (dyf σ j).1 6 j (((dyf σ j).1.2 6 j) + 1)) 7 j (((dyf σ j).1.2 7 j) + 1)) = bea (dyf σ j).1 j; unfold bea clo; (first | rw [if_pos (by omega)] | rw [if_neg (by omega)]); simp only [up4_b, up4_4, up4_5, up4_7] <;> exact up4_cong (by first | rfl | (unfold wwb; split <;> omega)) (by first | rfl | omega) rfl rfl
                rw [hfs] at hP hD
                exact ih13 (j + 1) s1 (by omega) (by omega) (by rw [dyf, if_pos (by omega)]; (try dsimp only); rw [← hv13_2]; split <;> omega) (by omega) H locs ls hP hD hS (lv_sub hl [0, 2, 3, 4, 5] rfl)
            ·
              refine lv_aload hx hb dX1_pass_96 (lv_at hl 0 rfl) ?_
              refine lv_iconst (v := iI 2) hx hb dX1_pass_98 rfl ?_
              refine lv_bipush (v := iI 99) hx hb dX1_pass_99 (by decide) ?_
              refine u_istS hx hb hK hP hD hS (k := j) (i := 2) (j := 4) (v := 99) rfl (show j < (dyf σ j).1.1 1 from by omega) (by decide) dX1_pass_101 (fun H locs hP hD hS => ?_)
              refine lv_aload hx hb dX1_pass_102 (lv_at hl 0 rfl) ?_
              refine lv_iconst (v := iI 5) hx hb dX1_pass_104 rfl ?_
              refine u_ildS hx hb hK hP (k := j) (i := 5) (v := iI (((dyf σ j).1.2 7 j) + 1)) (show j < (dyf σ j).1.1 1 from by omega) (by decide) (congrArg iI (by simp [stA, stS])) dX1_pass_105 ?_
              refine lv_bipush (v := iI 30) hx hb dX1_pass_106 (by decide) ?_
              refine z_icmp_ge (tgt := 114) hx hb dX1_pass_108 (by decide) (by omega) (by omega) (fun c_16 => ?_) (fun c_16 => ?_)
              ·
                refine lv_aload hx hb dX1_pass_114 (lv_at hl 0 rfl) ?_
                refine lv_iconst (v := iI 2) hx hb dX1_pass_116 rfl ?_
                refine lv_iconst (v := iI 0) hx hb dX1_pass_117 rfl ?_
                refine u_istS hx hb hK hP hD hS (k := j) (i := 2) (j := 4) (v := 0) rfl (show j < (dyf σ j).1.1 1 from by omega) (by decide) dX1_pass_118 (fun H locs hP hD hS => ?_)
                refine lv_aload hx hb dX1_pass_119 (lv_at hl 0 rfl) ?_
                refine lv_iconst (v := iI 3) hx hb dX1_pass_121 rfl ?_
                refine lv_iconst (v := iI 2) hx hb dX1_pass_122 rfl ?_
                refine u_istS hx hb hK hP hD hS (k := j) (i := 3) (j := 5) (v := 2) rfl (show j < (dyf σ j).1.1 1 from by omega) (by decide) dX1_pass_123 (fun H locs hP hD hS => ?_)
                refine lv_iinc (v := iI (s1 + 1)) (lv' := [(1, .int (iI (s1 + 1))), (5, .ref (rs j)), (4, .int (iI (j : Int))), (3, .int (iI (σ.1 1 : Nat))), (2, .ref S), (0, .ref y)]) hx hb dX1_pass_124 hl (k := 4) rfl (iI_add _ _) (by decide) rfl (fun ls hl => ?_)
                refine lv_iinc (v := iI ((j : Int) + 1)) (lv' := [(4, .int (iI ((j : Int) + 1))), (1, .int (iI (s1 + 1))), (5, .ref (rs j)), (3, .int (iI (σ.1 1 : Nat))), (2, .ref S), (0, .ref y)]) hx hb dX1_pass_127 hl (k := 2) rfl (iI_add _ _) (by decide) rfl (fun ls hl => ?_)
                refine lv_goto (tgt := 13) hx hb dX1_pass_130 (by decide) ?_
                have hfs : (stA (stA (stA (stA (stA (dyf σ j).1 6 j (((dyf σ j).1.2 6 j) + 1)) 7 j (((dyf σ j).1.2 7 j) + 1)) 4 j 99) 4 j 0) 5 j 2) = (dyf σ (j + 1)).1 := by first | (exfalso; omega) | skip; rw [dyf, if_pos (by omega)]; show (stA (stA (stA (stA (stA (dyf σ j).1 6 j (((dyf σ j).1.2 6 j) + 1)) 7 j (((dyf σ j).1.2 7 j) + 1)) 4 j 99) 4 j 0) 5 j 2) = bea (dyf σ j).1 j; unfold bea clo; (first | rw [if_pos (by omega)] | rw [if_neg (by omega)]); simp only [up4_b, up4_4, up4_5, up4_7] <;> exact up4_cong (by first | rfl | (unfold wwb; split <;> omega)) (by first | rfl | omega) rfl rfl
                rw [hfs] at hP hD
                exact ih13 (j + 1) (s1 + 1) (by omega) (by omega) (by rw [dyf, if_pos (by omega)]; (try dsimp only); rw [← hv13_2]; split <;> omega) (by omega) H locs ls hP hD hS (lv_sub hl [0, 3, 4, 1, 5] rfl)
              ·
                refine lv_goto (tgt := 127) hx hb dX1_pass_111 (by decide) ?_
                refine lv_iinc (v := iI ((j : Int) + 1)) (lv' := [(4, .int (iI ((j : Int) + 1))), (5, .ref (rs j)), (3, .int (iI (σ.1 1 : Nat))), (2, .ref S), (1, .int (iI s1)), (0, .ref y)]) hx hb dX1_pass_127 hl (k := 1) rfl (iI_add _ _) (by decide) rfl (fun ls hl => ?_)
                refine lv_goto (tgt := 13) hx hb dX1_pass_130 (by decide) ?_
                have hfs : (stA (stA (stA (dyf σ j).1 6 j (((dyf σ j).1.2 6 j) + 1)) 7 j (((dyf σ j).1.2 7 j) + 1)) 4 j 99) = (dyf σ (j + 1)).1 := by first | (exfalso; omega) | skip; rw [dyf, if_pos (by omega)]; show (stA (stA (stA (dyf σ j).1 6 j (((dyf σ j).1.2 6 j) + 1)) 7 j (((dyf σ j).1.2 7 j) + 1)) 4 j 99) = bea (dyf σ j).1 j; unfold bea clo; (first | rw [if_pos (by omega)] | rw [if_neg (by omega)]); simp only [up4_b, up4_4, up4_5, up4_7] <;> exact up4_cong (by first | rfl | (unfold wwb; split <;> omega)) (by first | rfl | omega) rfl rfl
                rw [hfs] at hP hD
                exact ih13 (j + 1) s1 (by omega) (by omega) (by rw [dyf, if_pos (by omega)]; (try dsimp only); rw [← hv13_2]; split <;> omega) (by omega) H locs ls hP hD hS (lv_sub hl [0, 2, 3, 4, 5] rfl)
          ·
            refine lv_aload hx hb dX1_pass_60 (lv_at hl 0 rfl) ?_
            refine lv_iconst (v := iI 2) hx hb dX1_pass_62 rfl ?_
            refine lv_dup2_11 hx hb dX1_pass_63 rfl rfl ?_
            refine u_ildS hx hb hK hP (k := j) (i := 2) (v := iI ((dyf σ j).1.2 4 j)) (show j < (dyf σ j).1.1 1 from by omega) (by decide) (congrArg iI (by simp [stA, stS])) dX1_pass_64 ?_
            refine lv_aload hx hb dX1_pass_65 (lv_at hl 0 rfl) ?_
            refine lv_iconst (v := iI 2) hx hb dX1_pass_67 rfl ?_
            refine u_ildS hx hb hK hP (k := j) (i := 2) (v := iI ((dyf σ j).1.2 4 j)) (show j < (dyf σ j).1.1 1 from by omega) (by decide) (congrArg iI (by simp [stA, stS])) dX1_pass_68 ?_
            refine lv_bipush (v := iI 20) hx hb dX1_pass_69 (by decide) ?_
            refine z_icmp_ge (tgt := 78) hx hb dX1_pass_71 (by decide) (by omega) (by omega) (fun c_17 => ?_) (fun c_17 => ?_)
            ·
              refine lv_aload hx hb dX1_pass_78 (lv_at hl 0 rfl) ?_
              refine lv_iconst (v := iI 2) hx hb dX1_pass_80 rfl ?_
              refine u_ildS hx hb hK hP (k := j) (i := 2) (v := iI ((dyf σ j).1.2 4 j)) (show j < (dyf σ j).1.1 1 from by omega) (by decide) (congrArg iI (by simp [stA, stS])) dX1_pass_81 ?_
              refine lv_bipush (v := iI 10) hx hb dX1_pass_82 (by decide) ?_
              refine z_idiv hx hb dX1_pass_84 (by omega) (by omega) ?_
              refine z_iadd hx hb dX1_pass_85 ?_
              refine u_istS hx hb hK hP hD hS (k := j) (i := 2) (j := 4) (v := (((dyf σ j).1.2 4 j) + (((dyf σ j).1.2 4 j) / 10))) rfl (show j < (dyf σ j).1.1 1 from by omega) (by decide) dX1_pass_86 (fun H locs hP hD hS => ?_)
              refine lv_aload hx hb dX1_pass_87 (lv_at hl 0 rfl) ?_
              refine lv_iconst (v := iI 2) hx hb dX1_pass_89 rfl ?_
              refine u_ildS hx hb hK hP (k := j) (i := 2) (v := iI (((dyf σ j).1.2 4 j) + (((dyf σ j).1.2 4 j) / 10))) (show j < (dyf σ j).1.1 1 from by omega) (by decide) (congrArg iI (by simp [stA, stS])) dX1_pass_90 ?_
              refine lv_bipush (v := iI 99) hx hb dX1_pass_91 (by decide) ?_
              refine z_icmp_le (tgt := 102) hx hb dX1_pass_93 (by decide) (by omega) (by omega) (fun c_18 => ?_) (fun c_18 => ?_)
              ·
                refine lv_aload hx hb dX1_pass_102 (lv_at hl 0 rfl) ?_
                refine lv_iconst (v := iI 5) hx hb dX1_pass_104 rfl ?_
                refine u_ildS hx hb hK hP (k := j) (i := 5) (v := iI (((dyf σ j).1.2 7 j) + 1)) (show j < (dyf σ j).1.1 1 from by omega) (by decide) (congrArg iI (by simp [stA, stS])) dX1_pass_105 ?_
                refine lv_bipush (v := iI 30) hx hb dX1_pass_106 (by decide) ?_
                refine z_icmp_ge (tgt := 114) hx hb dX1_pass_108 (by decide) (by omega) (by omega) (fun c_19 => ?_) (fun c_19 => ?_)
                ·
                  refine lv_aload hx hb dX1_pass_114 (lv_at hl 0 rfl) ?_
                  refine lv_iconst (v := iI 2) hx hb dX1_pass_116 rfl ?_
                  refine lv_iconst (v := iI 0) hx hb dX1_pass_117 rfl ?_
                  refine u_istS hx hb hK hP hD hS (k := j) (i := 2) (j := 4) (v := 0) rfl (show j < (dyf σ j).1.1 1 from by omega) (by decide) dX1_pass_118 (fun H locs hP hD hS => ?_)
                  refine lv_aload hx hb dX1_pass_119 (lv_at hl 0 rfl) ?_
                  refine lv_iconst (v := iI 3) hx hb dX1_pass_121 rfl ?_
                  refine lv_iconst (v := iI 2) hx hb dX1_pass_122 rfl ?_
                  refine u_istS hx hb hK hP hD hS (k := j) (i := 3) (j := 5) (v := 2) rfl (show j < (dyf σ j).1.1 1 from by omega) (by decide) dX1_pass_123 (fun H locs hP hD hS => ?_)
                  refine lv_iinc (v := iI (s1 + 1)) (lv' := [(1, .int (iI (s1 + 1))), (5, .ref (rs j)), (4, .int (iI (j : Int))), (3, .int (iI (σ.1 1 : Nat))), (2, .ref S), (0, .ref y)]) hx hb dX1_pass_124 hl (k := 4) rfl (iI_add _ _) (by decide) rfl (fun ls hl => ?_)
                  refine lv_iinc (v := iI ((j : Int) + 1)) (lv' := [(4, .int (iI ((j : Int) + 1))), (1, .int (iI (s1 + 1))), (5, .ref (rs j)), (3, .int (iI (σ.1 1 : Nat))), (2, .ref S), (0, .ref y)]) hx hb dX1_pass_127 hl (k := 2) rfl (iI_add _ _) (by decide) rfl (fun ls hl => ?_)
                  refine lv_goto (tgt := 13) hx hb dX1_pass_130 (by decide) ?_
                  have hfs : (stA (stA (stA (stA (stA (dyf σ j).1 6 j (((dyf σ j).1.2 6 j) + 1)) 7 j (((dyf σ j).1.2 7 j) + 1)) 4 j (((dyf σ j).1.2 4 j) + (((dyf σ j).1.2 4 j) / 10))) 4 j 0) 5 j 2) = (dyf σ (j + 1)).1 := by first | (exfalso; omega) | skip; rw [dyf, if_pos (by omega)]; show (stA (stA (stA (stA (stA (dyf σ j).1 6 j (((dyf σ j).1.2 6 j) + 1)) 7 j (((dyf σ j).1.2 7 j) + 1)) 4 j (((dyf σ j).1.2 4 j) + (((dyf σ j).1.2 4 j) / 10))) 4 j 0) 5 j 2) = bea (dyf σ j).1 j; unfold bea clo; (first | rw [if_pos (by omega)] | rw [if_neg (by omega)]); simp only [up4_b, up4_4, up4_5, up4_7] <;> exact up4_cong (by first | rfl | (unfold wwb; split <;> omega)) (by first | rfl | omega) rfl rfl
                  rw [hfs] at hP hD
                  exact ih13 (j + 1) (s1 + 1) (by omega) (by omega) (by rw [dyf, if_pos (by omega)]; (try dsimp only); rw [← hv13_2]; split <;> omega) (by omega) H locs ls hP hD hS (lv_sub hl [0, 3, 4, 1, 5] rfl)
                ·
                  refine lv_goto (tgt := 127) hx hb dX1_pass_111 (by decide) ?_
                  refine lv_iinc (v := iI ((j : Int) + 1)) (lv' := [(4, .int (iI ((j : Int) + 1))), (5, .ref (rs j)), (3, .int (iI (σ.1 1 : Nat))), (2, .ref S), (1, .int (iI s1)), (0, .ref y)]) hx hb dX1_pass_127 hl (k := 1) rfl (iI_add _ _) (by decide) rfl (fun ls hl => ?_)
                  refine lv_goto (tgt := 13) hx hb dX1_pass_130 (by decide) ?_
                  have hfs : (stA (stA (stA (dyf σ j).1 6 j (((dyf σ j).1.2 6 j) + 1)) 7 j (((dyf σ j).1.2 7 j) + 1)) 4 j (((dyf σ j).1.2 4 j) + (((dyf σ j).1.2 4 j) / 10))) = (dyf σ (j + 1)).1 := by first | (exfalso; omega) | skip; rw [dyf, if_pos (by omega)]; show (stA (stA (stA (dyf σ j).1 6 j (((dyf σ j).1.2 6 j) + 1)) 7 j (((dyf σ j).1.2 7 j) + 1)) 4 j (((dyf σ j).1.2 4 j) + (((dyf σ j).1.2 4 j) / 10))) = bea (dyf σ j).1 j; unfold bea clo; (first | rw [if_pos (by omega)] | rw [if_neg (by omega)]); simp only [up4_b, up4_4, up4_5, up4_7] <;> exact up4_cong (by first | rfl | (unfold wwb; split <;> omega)) (by first | rfl | omega) rfl rfl
                  rw [hfs] at hP hD
                  exact ih13 (j + 1) s1 (by omega) (by omega) (by rw [dyf, if_pos (by omega)]; (try dsimp only); rw [← hv13_2]; split <;> omega) (by omega) H locs ls hP hD hS (lv_sub hl [0, 2, 3, 4, 5] rfl)
              ·
                refine lv_aload hx hb dX1_pass_96 (lv_at hl 0 rfl) ?_
                refine lv_iconst (v := iI 2) hx hb dX1_pass_98 rfl ?_
                refine lv_bipush (v := iI 99) hx hb dX1_pass_99 (by decide) ?_
                refine u_istS hx hb hK hP hD hS (k := j) (i := 2) (j := 4) (v := 99) rfl (show j < (dyf σ j).1.1 1 from by omega) (by decide) dX1_pass_101 (fun H locs hP hD hS => ?_)
                refine lv_aload hx hb dX1_pass_102 (lv_at hl 0 rfl) ?_
                refine lv_iconst (v := iI 5) hx hb dX1_pass_104 rfl ?_
                refine u_ildS hx hb hK hP (k := j) (i := 5) (v := iI (((dyf σ j).1.2 7 j) + 1)) (show j < (dyf σ j).1.1 1 from by omega) (by decide) (congrArg iI (by simp [stA, stS])) dX1_pass_105 ?_
                refine lv_bipush (v := iI 30) hx hb dX1_pass_106 (by decide) ?_
                refine z_icmp_ge (tgt := 114) hx hb dX1_pass_108 (by decide) (by omega) (by omega) (fun c_20 => ?_) (fun c_20 => ?_)
                ·
                  refine lv_aload hx hb dX1_pass_114 (lv_at hl 0 rfl) ?_
                  refine lv_iconst (v := iI 2) hx hb dX1_pass_116 rfl ?_
                  refine lv_iconst (v := iI 0) hx hb dX1_pass_117 rfl ?_
                  refine u_istS hx hb hK hP hD hS (k := j) (i := 2) (j := 4) (v := 0) rfl (show j < (dyf σ j).1.1 1 from by omega) (by decide) dX1_pass_118 (fun H locs hP hD hS => ?_)
                  refine lv_aload hx hb dX1_pass_119 (lv_at hl 0 rfl) ?_
                  refine lv_iconst (v := iI 3) hx hb dX1_pass_121 rfl ?_
                  refine lv_iconst (v := iI 2) hx hb dX1_pass_122 rfl ?_
                  refine u_istS hx hb hK hP hD hS (k := j) (i := 3) (j := 5) (v := 2) rfl (show j < (dyf σ j).1.1 1 from by omega) (by decide) dX1_pass_123 (fun H locs hP hD hS => ?_)
                  refine lv_iinc (v := iI (s1 + 1)) (lv' := [(1, .int (iI (s1 + 1))), (5, .ref (rs j)), (4, .int (iI (j : Int))), (3, .int (iI (σ.1 1 : Nat))), (2, .ref S), (0, .ref y)]) hx hb dX1_pass_124 hl (k := 4) rfl (iI_add _ _) (by decide) rfl (fun ls hl => ?_)
                  refine lv_iinc (v := iI ((j : Int) + 1)) (lv' := [(4, .int (iI ((j : Int) + 1))), (1, .int (iI (s1 + 1))), (5, .ref (rs j)), (3, .int (iI (σ.1 1 : Nat))), (2, .ref S), (0, .ref y)]) hx hb dX1_pass_127 hl (k := 2) rfl (iI_add _ _) (by decide) rfl (fun ls hl => ?_)
                  refine lv_goto (tgt := 13) hx hb dX1_pass_130 (by decide) ?_
                  have hfs : (stA (stA (stA (stA (stA (stA (dyf σ j).1 6 j (((dyf σ j).1.2 6 j) + 1)) 7 j (((dyf σ j).1.2 7 j) + 1)) 4 j (((dyf σ j).1.2 4 j) + (((dyf σ j).1.2 4 j) / 10))) 4 j 99) 4 j 0) 5 j 2) = (dyf σ (j + 1)).1 := by first | (exfalso; omega) | skip; rw [dyf, if_pos (by omega)]; show (stA (stA (stA (stA (stA (stA (dyf σ j).1 6 j (((dyf σ j).1.2 6 j) + 1)) 7 j (((dyf σ j).1.2 7 j) + 1)) 4 j (((dyf σ j).1.2 4 j) + (((dyf σ j).1.2 4 j) / 10))) 4 j 99) 4 j 0) 5 j 2) = bea (dyf σ j).1 j; unfold bea clo; (first | rw [if_pos (by omega)] | rw [if_neg (by omega)]); simp only [up4_b, up4_4, up4_5, up4_7] <;> exact up4_cong (by first | rfl | (unfold wwb; split <;> omega)) (by first | rfl | omega) rfl rfl
                  rw [hfs] at hP hD
                  exact ih13 (j + 1) (s1 + 1) (by omega) (by omega) (by rw [dyf, if_pos (by omega)]; (try dsimp only); rw [← hv13_2]; split <;> omega) (by omega) H locs ls hP hD hS (lv_sub hl [0, 3, 4, 1, 5] rfl)
                ·
                  refine lv_goto (tgt := 127) hx hb dX1_pass_111 (by decide) ?_
                  refine lv_iinc (v := iI ((j : Int) + 1)) (lv' := [(4, .int (iI ((j : Int) + 1))), (5, .ref (rs j)), (3, .int (iI (σ.1 1 : Nat))), (2, .ref S), (1, .int (iI s1)), (0, .ref y)]) hx hb dX1_pass_127 hl (k := 1) rfl (iI_add _ _) (by decide) rfl (fun ls hl => ?_)
                  refine lv_goto (tgt := 13) hx hb dX1_pass_130 (by decide) ?_
                  have hfs : (stA (stA (stA (stA (dyf σ j).1 6 j (((dyf σ j).1.2 6 j) + 1)) 7 j (((dyf σ j).1.2 7 j) + 1)) 4 j (((dyf σ j).1.2 4 j) + (((dyf σ j).1.2 4 j) / 10))) 4 j 99) = (dyf σ (j + 1)).1 := by first | (exfalso; omega) | skip; rw [dyf, if_pos (by omega)]; show (stA (stA (stA (stA (dyf σ j).1 6 j (((dyf σ j).1.2 6 j) + 1)) 7 j (((dyf σ j).1.2 7 j) + 1)) 4 j (((dyf σ j).1.2 4 j) + (((dyf σ j).1.2 4 j) / 10))) 4 j 99) = bea (dyf σ j).1 j; unfold bea clo; (first | rw [if_pos (by omega)] | rw [if_neg (by omega)]); simp only [up4_b, up4_4, up4_5, up4_7] <;> exact up4_cong (by first | rfl | (unfold wwb; split <;> omega)) (by first | rfl | omega) rfl rfl
                  rw [hfs] at hP hD
                  exact ih13 (j + 1) s1 (by omega) (by omega) (by rw [dyf, if_pos (by omega)]; (try dsimp only); rw [← hv13_2]; split <;> omega) (by omega) H locs ls hP hD hS (lv_sub hl [0, 2, 3, 4, 5] rfl)
            ·
              refine lv_iconst (v := iI 1) hx hb dX1_pass_74 rfl ?_
              refine lv_goto (tgt := 85) hx hb dX1_pass_75 (by decide) ?_
              refine z_iadd hx hb dX1_pass_85 ?_
              refine u_istS hx hb hK hP hD hS (k := j) (i := 2) (j := 4) (v := (((dyf σ j).1.2 4 j) + 1)) rfl (show j < (dyf σ j).1.1 1 from by omega) (by decide) dX1_pass_86 (fun H locs hP hD hS => ?_)
              refine lv_aload hx hb dX1_pass_87 (lv_at hl 0 rfl) ?_
              refine lv_iconst (v := iI 2) hx hb dX1_pass_89 rfl ?_
              refine u_ildS hx hb hK hP (k := j) (i := 2) (v := iI (((dyf σ j).1.2 4 j) + 1)) (show j < (dyf σ j).1.1 1 from by omega) (by decide) (congrArg iI (by simp [stA, stS])) dX1_pass_90 ?_
              refine lv_bipush (v := iI 99) hx hb dX1_pass_91 (by decide) ?_
              refine z_icmp_le (tgt := 102) hx hb dX1_pass_93 (by decide) (by omega) (by omega) (fun c_21 => ?_) (fun c_21 => ?_)
              ·
                refine lv_aload hx hb dX1_pass_102 (lv_at hl 0 rfl) ?_
                refine lv_iconst (v := iI 5) hx hb dX1_pass_104 rfl ?_
                refine u_ildS hx hb hK hP (k := j) (i := 5) (v := iI (((dyf σ j).1.2 7 j) + 1)) (show j < (dyf σ j).1.1 1 from by omega) (by decide) (congrArg iI (by simp [stA, stS])) dX1_pass_105 ?_
                refine lv_bipush (v := iI 30) hx hb dX1_pass_106 (by decide) ?_
                refine z_icmp_ge (tgt := 114) hx hb dX1_pass_108 (by decide) (by omega) (by omega) (fun c_22 => ?_) (fun c_22 => ?_)
                ·
                  refine lv_aload hx hb dX1_pass_114 (lv_at hl 0 rfl) ?_
                  refine lv_iconst (v := iI 2) hx hb dX1_pass_116 rfl ?_
                  refine lv_iconst (v := iI 0) hx hb dX1_pass_117 rfl ?_
                  refine u_istS hx hb hK hP hD hS (k := j) (i := 2) (j := 4) (v := 0) rfl (show j < (dyf σ j).1.1 1 from by omega) (by decide) dX1_pass_118 (fun H locs hP hD hS => ?_)
                  refine lv_aload hx hb dX1_pass_119 (lv_at hl 0 rfl) ?_
                  refine lv_iconst (v := iI 3) hx hb dX1_pass_121 rfl ?_
                  refine lv_iconst (v := iI 2) hx hb dX1_pass_122 rfl ?_
                  refine u_istS hx hb hK hP hD hS (k := j) (i := 3) (j := 5) (v := 2) rfl (show j < (dyf σ j).1.1 1 from by omega) (by decide) dX1_pass_123 (fun H locs hP hD hS => ?_)
                  refine lv_iinc (v := iI (s1 + 1)) (lv' := [(1, .int (iI (s1 + 1))), (5, .ref (rs j)), (4, .int (iI (j : Int))), (3, .int (iI (σ.1 1 : Nat))), (2, .ref S), (0, .ref y)]) hx hb dX1_pass_124 hl (k := 4) rfl (iI_add _ _) (by decide) rfl (fun ls hl => ?_)
                  refine lv_iinc (v := iI ((j : Int) + 1)) (lv' := [(4, .int (iI ((j : Int) + 1))), (1, .int (iI (s1 + 1))), (5, .ref (rs j)), (3, .int (iI (σ.1 1 : Nat))), (2, .ref S), (0, .ref y)]) hx hb dX1_pass_127 hl (k := 2) rfl (iI_add _ _) (by decide) rfl (fun ls hl => ?_)
                  refine lv_goto (tgt := 13) hx hb dX1_pass_130 (by decide) ?_
                  have hfs : (stA (stA (stA (stA (stA (dyf σ j).1 6 j (((dyf σ j).1.2 6 j) + 1)) 7 j (((dyf σ j).1.2 7 j) + 1)) 4 j (((dyf σ j).1.2 4 j) + 1)) 4 j 0) 5 j 2) = (dyf σ (j + 1)).1 := by first | (exfalso; omega) | skip; rw [dyf, if_pos (by omega)]; show (stA (stA (stA (stA (stA (dyf σ j).1 6 j (((dyf σ j).1.2 6 j) + 1)) 7 j (((dyf σ j).1.2 7 j) + 1)) 4 j (((dyf σ j).1.2 4 j) + 1)) 4 j 0) 5 j 2) = bea (dyf σ j).1 j; unfold bea clo; (first | rw [if_pos (by omega)] | rw [if_neg (by omega)]); simp only [up4_b, up4_4, up4_5, up4_7] <;> exact up4_cong (by first | rfl | (unfold wwb; split <;> omega)) (by first | rfl | omega) rfl rfl
                  rw [hfs] at hP hD
                  exact ih13 (j + 1) (s1 + 1) (by omega) (by omega) (by rw [dyf, if_pos (by omega)]; (try dsimp only); rw [← hv13_2]; split <;> omega) (by omega) H locs ls hP hD hS (lv_sub hl [0, 3, 4, 1, 5] rfl)
                ·
                  refine lv_goto (tgt := 127) hx hb dX1_pass_111 (by decide) ?_
                  refine lv_iinc (v := iI ((j : Int) + 1)) (lv' := [(4, .int (iI ((j : Int) + 1))), (5, .ref (rs j)), (3, .int (iI (σ.1 1 : Nat))), (2, .ref S), (1, .int (iI s1)), (0, .ref y)]) hx hb dX1_pass_127 hl (k := 1) rfl (iI_add _ _) (by decide) rfl (fun ls hl => ?_)
                  refine lv_goto (tgt := 13) hx hb dX1_pass_130 (by decide) ?_
                  have hfs : (stA (stA (stA (dyf σ j).1 6 j (((dyf σ j).1.2 6 j) + 1)) 7 j (((dyf σ j).1.2 7 j) + 1)) 4 j (((dyf σ j).1.2 4 j) + 1)) = (dyf σ (j + 1)).1 := by first | (exfalso; omega) | skip; rw [dyf, if_pos (by omega)]; show (stA (stA (stA (dyf σ j).1 6 j (((dyf σ j).1.2 6 j) + 1)) 7 j (((dyf σ j).1.2 7 j) + 1)) 4 j (((dyf σ j).1.2 4 j) + 1)) = bea (dyf σ j).1 j; unfold bea clo; (first | rw [if_pos (by omega)] | rw [if_neg (by omega)]); simp only [up4_b, up4_4, up4_5, up4_7] <;> exact up4_cong (by first | rfl | (unfold wwb; split <;> omega)) (by first | rfl | omega) rfl rfl
                  rw [hfs] at hP hD
                  exact ih13 (j + 1) s1 (by omega) (by omega) (by rw [dyf, if_pos (by omega)]; (try dsimp only); rw [← hv13_2]; split <;> omega) (by omega) H locs ls hP hD hS (lv_sub hl [0, 2, 3, 4, 5] rfl)
              ·
                refine lv_aload hx hb dX1_pass_96 (lv_at hl 0 rfl) ?_
                refine lv_iconst (v := iI 2) hx hb dX1_pass_98 rfl ?_
                refine lv_bipush (v := iI 99) hx hb dX1_pass_99 (by decide) ?_
                refine u_istS hx hb hK hP hD hS (k := j) (i := 2) (j := 4) (v := 99) rfl (show j < (dyf σ j).1.1 1 from by omega) (by decide) dX1_pass_101 (fun H locs hP hD hS => ?_)
                refine lv_aload hx hb dX1_pass_102 (lv_at hl 0 rfl) ?_
                refine lv_iconst (v := iI 5) hx hb dX1_pass_104 rfl ?_
                refine u_ildS hx hb hK hP (k := j) (i := 5) (v := iI (((dyf σ j).1.2 7 j) + 1)) (show j < (dyf σ j).1.1 1 from by omega) (by decide) (congrArg iI (by simp [stA, stS])) dX1_pass_105 ?_
                refine lv_bipush (v := iI 30) hx hb dX1_pass_106 (by decide) ?_
                refine z_icmp_ge (tgt := 114) hx hb dX1_pass_108 (by decide) (by omega) (by omega) (fun c_23 => ?_) (fun c_23 => ?_)
                ·
                  refine lv_aload hx hb dX1_pass_114 (lv_at hl 0 rfl) ?_
                  refine lv_iconst (v := iI 2) hx hb dX1_pass_116 rfl ?_
                  refine lv_iconst (v := iI 0) hx hb dX1_pass_117 rfl ?_
                  refine u_istS hx hb hK hP hD hS (k := j) (i := 2) (j := 4) (v := 0) rfl (show j < (dyf σ j).1.1 1 from by omega) (by decide) dX1_pass_118 (fun H locs hP hD hS => ?_)
                  refine lv_aload hx hb dX1_pass_119 (lv_at hl 0 rfl) ?_
                  refine lv_iconst (v := iI 3) hx hb dX1_pass_121 rfl ?_
                  refine lv_iconst (v := iI 2) hx hb dX1_pass_122 rfl ?_
                  refine u_istS hx hb hK hP hD hS (k := j) (i := 3) (j := 5) (v := 2) rfl (show j < (dyf σ j).1.1 1 from by omega) (by decide) dX1_pass_123 (fun H locs hP hD hS => ?_)
                  refine lv_iinc (v := iI (s1 + 1)) (lv' := [(1, .int (iI (s1 + 1))), (5, .ref (rs j)), (4, .int (iI (j : Int))), (3, .int (iI (σ.1 1 : Nat))), (2, .ref S), (0, .ref y)]) hx hb dX1_pass_124 hl (k := 4) rfl (iI_add _ _) (by decide) rfl (fun ls hl => ?_)
                  refine lv_iinc (v := iI ((j : Int) + 1)) (lv' := [(4, .int (iI ((j : Int) + 1))), (1, .int (iI (s1 + 1))), (5, .ref (rs j)), (3, .int (iI (σ.1 1 : Nat))), (2, .ref S), (0, .ref y)]) hx hb dX1_pass_127 hl (k := 2) rfl (iI_add _ _) (by decide) rfl (fun ls hl => ?_)
                  refine lv_goto (tgt := 13) hx hb dX1_pass_130 (by decide) ?_
                  have hfs : (stA (stA (stA (stA (stA (stA (dyf σ j).1 6 j (((dyf σ j).1.2 6 j) + 1)) 7 j (((dyf σ j).1.2 7 j) + 1)) 4 j (((dyf σ j).1.2 4 j) + 1)) 4 j 99) 4 j 0) 5 j 2) = (dyf σ (j + 1)).1 := by first | (exfalso; omega) | skip; rw [dyf, if_pos (by omega)]; show (stA (stA (stA (stA (stA (stA (dyf σ j).1 6 j (((dyf σ j).1.2 6 j) + 1)) 7 j (((dyf σ j).1.2 7 j) + 1)) 4 j (((dyf σ j).1.2 4 j) + 1)) 4 j 99) 4 j 0) 5 j 2) = bea (dyf σ j).1 j; unfold bea clo; (first | rw [if_pos (by omega)] | rw [if_neg (by omega)]); simp only [up4_b, up4_4, up4_5, up4_7] <;> exact up4_cong (by first | rfl | (unfold wwb; split <;> omega)) (by first | rfl | omega) rfl rfl
                  rw [hfs] at hP hD
                  exact ih13 (j + 1) (s1 + 1) (by omega) (by omega) (by rw [dyf, if_pos (by omega)]; (try dsimp only); rw [← hv13_2]; split <;> omega) (by omega) H locs ls hP hD hS (lv_sub hl [0, 3, 4, 1, 5] rfl)
                ·
                  refine lv_goto (tgt := 127) hx hb dX1_pass_111 (by decide) ?_
                  refine lv_iinc (v := iI ((j : Int) + 1)) (lv' := [(4, .int (iI ((j : Int) + 1))), (5, .ref (rs j)), (3, .int (iI (σ.1 1 : Nat))), (2, .ref S), (1, .int (iI s1)), (0, .ref y)]) hx hb dX1_pass_127 hl (k := 1) rfl (iI_add _ _) (by decide) rfl (fun ls hl => ?_)
                  refine lv_goto (tgt := 13) hx hb dX1_pass_130 (by decide) ?_
                  have hfs : (stA (stA (stA (stA (dyf σ j).1 6 j (((dyf σ j).1.2 6 j) + 1)) 7 j (((dyf σ j).1.2 7 j) + 1)) 4 j (((dyf σ j).1.2 4 j) + 1)) 4 j 99) = (dyf σ (j + 1)).1 := by first | (exfalso; omega) | skip; rw [dyf, if_pos (by omega)]; show (stA (stA (stA (stA (dyf σ j).1 6 j (((dyf σ j).1.2 6 j) + 1)) 7 j (((dyf σ j).1.2 7 j) + 1)) 4 j (((dyf σ j).1.2 4 j) + 1)) 4 j 99) = bea (dyf σ j).1 j; unfold bea clo; (first | rw [if_pos (by omega)] | rw [if_neg (by omega)]); simp only [up4_b, up4_4, up4_5, up4_7] <;> exact up4_cong (by first | rfl | (unfold wwb; split <;> omega)) (by first | rfl | omega) rfl rfl
                  rw [hfs] at hP hD
                  exact ih13 (j + 1) s1 (by omega) (by omega) (by rw [dyf, if_pos (by omega)]; (try dsimp only); rw [← hv13_2]; split <;> omega) (by omega) H locs ls hP hD hS (lv_sub hl [0, 2, 3, 4, 5] rfl)
        ·
          refine lv_goto (tgt := 127) hx hb dX1_pass_32 (by decide) ?_
          refine lv_iinc (v := iI ((j : Int) + 1)) (lv' := [(4, .int (iI ((j : Int) + 1))), (5, .ref (rs j)), (3, .int (iI (σ.1 1 : Nat))), (2, .ref S), (1, .int (iI s1)), (0, .ref y)]) hx hb dX1_pass_127 hl (k := 1) rfl (iI_add _ _) (by decide) rfl (fun ls hl => ?_)
          refine lv_goto (tgt := 13) hx hb dX1_pass_130 (by decide) ?_
          have hfs : (dyf σ j).1 = (dyf σ (j + 1)).1 := by rw [dyf, if_neg (by omega)]
          rw [hfs] at hP hD
          exact ih13 (j + 1) s1 (by omega) (by omega) (by rw [dyf, if_neg (by omega)]; exact hv13_2) (by omega) H locs ls hP hD hS (lv_sub hl [0, 2, 3, 4, 5] rfl)
  exact LP13 (σ.1 1 - (0) + 1) 0 0 (by omega) (by omega) (by rfl) (by omega) s.heap [] ls hP hD hS (lv_sub hl [0, 1, 2, 3, 4] rfl)
set_option maxHeartbeats 4000000 in
set_option maxRecDepth 100000 in
theorem c_X1_pass_ (l : Launch) (G : zG) (y P S : Nat) (rp rs : Nat → Nat) (sz : Nat) (B : Nat) (σ : zS) (d : Nat) (hI : zI B σ) (hd : 1 ≤ d ∧ d ≤ 60) (hB : B + 60 ≤ 100000) : Met l yX1_pass_ wsX1_pass_ ({ frames := 1, cells := 0, slots := 0, locals := 25 } : Room) (va_Pc [.ref y, .int (iI (d : Int))] (wU G y P S rp rs σ sz)) (va_Qi (fun r (_ : Unit) => r = iI ((dyn σ d).2)) (fun _ t9 => va_P G.1 vwCl (uW G y P S rp rs ((dyn σ d).1)) t9.heap) (uA (σ.1 0) (σ.1 1) y P S rp rs sz)) 0 0 (uA (σ.1 0) (σ.1 1) y P S rp rs sz) := by
  refine Met.ofW (cc := cX1_pass_) (maxL := 4) (ret := (some .int)) (by decide) rfl ?_
  intro pp ee s m args below meth c s₁ B9 hml hv
  obtain ⟨rfl, hsz, hP, hK, hD0⟩ := hv
  subst hsz
  have hD := uW_uA (sz := s.heap.size) hD0
  have hS : va_S (uA (σ.1 0) (σ.1 1) y P S rp rs s.heap.size) s.heap s.heap [] := va_S.rf
  have hx := B9.exec
  have hb := B9.bytes
  have hr := B9.returns
  have hts := atoms_spec (ws := wsX1_pass_) B9.pre
  have hown : s.vm.findClass RX1 = some m.cls := findClass_of_methodNamed B9.named
  have hlocks := B9.notSynchronized
  have hl := lv_entry ([.ref y, .int (iI (d : Int))]) (n := 4) (Nat.le_of_ble_eq_true rfl)
  rw [lg_entry_eq]
  generalize (lg_sl ([.ref y, .int (iI (d : Int))]) ++ List.replicate (4 - (lg_sl ([.ref y, .int (iI (d : Int))])).length) Slot.unset).toArray = ls at hl ⊢
  have hl : lv_has ls 4 [(0, .ref y), (1, .int (iI (d : Int)))] := hl
  have hIn := hI.n
  have hIb := hI.b
  refine lv_iconst (v := iI 0) hx hb dX1_pass__0 rfl ?_
  refine lv_istore_n (lv' := [(2, .int (iI 0)), (0, .ref y), (1, .int (iI (d : Int)))]) hx hb dX1_pass__1 rfl hl (by decide) rfl (fun ls hl => ?_)
  refine lv_iconst (v := iI 0) hx hb dX1_pass__2 rfl ?_
  refine lv_istore_n (lv' := [(3, .int (iI 0)), (2, .int (iI 0)), (0, .ref y), (1, .int (iI (d : Int)))]) hx hb dX1_pass__3 rfl hl (by decide) rfl (fun ls hl => ?_)
  have LP4 : ∀ (r4 : Nat) (j : Nat) (s1 : Int), j ≤ d → d - j < r4 → s1 = (dyn σ j).2 → ∀ (H : Heap) (locs : List Loc) (ls : Array Slot), va_P G.1 vwCl (uW G y P S rp rs (dyn σ j).1) H → va_D (uA (σ.1 0) (σ.1 1) y P S rp rs s.heap.size) (uW G y P S rp rs (dyn σ j).1) → va_S (uA (σ.1 0) (σ.1 1) y P S rp rs s.heap.size) s.heap H locs → lv_has ls 4 [(3, .int (iI (j : Int))), (2, .int (iI s1)), (0, .ref y), (1, .int (iI (d : Int)))] → W pp l ee (headSpec wsX1_pass_ ({ frames := 1, cells := 0, slots := 0, locals := 25 } : Room)).room s m ([.ref y, .int (iI (d : Int))] : List Value).toArray below meth c H locs 0 0 (MQ below (va_Qi (fun r (_ : Unit) => r = iI ((dyn σ d).2)) (fun _ t9 => va_P G.1 vwCl (uW G y P S rp rs ((dyn σ d).1)) t9.heap) (uA (σ.1 0) (σ.1 1) y P S rp rs s.heap.size)) ([.ref y, .int (iI (d : Int))] : List Value).toArray s 0 0 (uA (σ.1 0) (σ.1 1) y P S rp rs s.heap.size)) (F0 m 4 ls []) := by
    intro r4
    induction r4 with
    | zero => intro j s1 hv4_0 hv4_1; exfalso; omega
    | succ r4 ih4 =>
      intro j s1 hv4_0 hv4_1 hv4_2 H locs ls hP hD hS hl
      have f_1 := dyn_01 σ j
      refine lv_iload_n hx hb dX1_pass__4 rfl (lv_at hl 0 rfl) ?_
      refine lv_iload_n hx hb dX1_pass__5 rfl (lv_at hl 3 rfl) ?_
      refine z_icmp_ge (tgt := 22) hx hb dX1_pass__6 (by decide) (by omega) (by omega) (fun c_2 => ?_) (fun c_2 => ?_)
      ·
        refine lv_iload_n hx hb dX1_pass__22 rfl (lv_at hl 1 rfl) ?_
        have hfin : (dyn σ j).1 = (dyn σ d).1 := by rw [show j = d from by omega]
        rw [hfin] at hP
        refine z_re (v' := iI ((dyn σ d).2)) (congrArg iI (by rw [hv4_2, show j = d from by omega])) ?_
        exact W.iret hx hb hr (fun t ht hW => ⟨⟨_, (), rfl, rfl, (by show va_P _ _ _ t.heap; rw [ht]; exact hP)⟩, hS.F ht⟩) hS.2.2 dX1_pass__23
      ·
        refine lv_iload_n hx hb dX1_pass__9 rfl (lv_at hl 1 rfl) ?_
        refine lv_aload_n hx hb dX1_pass__10 rfl (lv_at hl 2 rfl) ?_
        refine zc_wi (va_runV (As := []) (rest := [.int (iI s1)]) ⟨hx, hb, hml, hown, hts⟩ (c_X1_pass l G y P S rp rs _ (B + j) (dyn σ j).1 (dyn_zI hI j (by omega))) (cwV 0 hts gX1_pass__X1_pass rfl rfl rfl (by decide +kernel) ⟨Nat.le_of_ble_eq_true rfl, Nat.le_of_ble_eq_true rfl⟩) (preWU hK hP hD) rfl rfl hl.1 rfl (lv_room (Nat.le_of_ble_eq_true rfl)) dX1_pass__11 ⟨Nat.le_of_ble_eq_true rfl, Nat.le_of_ble_eq_true rfl⟩) hS (fun q h => uA_mono (by first | rfl | omega) (by first | rfl | omega) hS.1 h) (fun H locs hP hS _ _ => ?_)
        have hD := uW_D (σ := (dyn σ j).1) (σ' := ((day1 (dyn σ j).1).1)) (by rw [day1_1]; rfl) (by rw [day1_1]; rfl) hD
        refine z_iadd hx hb dX1_pass__14 ?_
        refine lv_istore_n (lv' := [(2, .int (iI (s1 + ((day1 (dyn σ j).1).2)))), (3, .int (iI (j : Int))), (0, .ref y), (1, .int (iI (d : Int)))]) hx hb dX1_pass__15 rfl hl (by decide) rfl (fun ls hl => ?_)
        refine lv_iinc (v := iI ((j : Int) + 1)) (lv' := [(3, .int (iI ((j : Int) + 1))), (2, .int (iI (s1 + ((day1 (dyn σ j).1).2)))), (0, .ref y), (1, .int (iI (d : Int)))]) hx hb dX1_pass__16 hl (k := 1) rfl (iI_add _ _) (by decide) rfl (fun ls hl => ?_)
        refine lv_goto (tgt := 4) hx hb dX1_pass__19 (by decide) ?_
        have hfs : ((day1 (dyn σ j).1).1) = (dyn σ (j + 1)).1 := rfl
        rw [hfs] at hP hD
        exact ih4 (j + 1) (s1 + ((day1 (dyn σ j).1).2)) (by omega) (by omega) (by rw [hv4_2]; rfl) H locs ls hP hD hS (lv_sub hl [0, 1, 2, 3] rfl)
  exact LP4 (d - (0) + 1) 0 0 (by omega) (by omega) (by rfl) s.heap [] ls hP hD hS (lv_sub hl [0, 1, 2, 3] rfl)
set_option maxHeartbeats 4000000 in
set_option maxRecDepth 100000 in
theorem c_done_b (l : Launch) (G : zG) (y P S : Nat) (rp rs : Nat → Nat) (B : Nat) (σ : zS) (p : Int) (hI : zI B σ) (hp : 0 ≤ p ∧ p ≤ 1000) : Met l yX1_done wsX1_done ({ frames := 0, cells := 0, slots := 0, locals := 0 } : Room) (va_Pc [.ref y, .int (iI (-1)), .int (iI p)] (pU G y P S rp rs σ)) (vp_Si (fun r => r = iI (bor σ p))) 0 0 (fun _ => False) := by
  refine Met.ofW (cc := cX1_done) (maxL := 8) (ret := (some .int)) (by decide) rfl ?_
  intro pp ee s m args below meth c s₁ B9 hml hv
  obtain ⟨rfl, hP, hK⟩ := hv
  have hx := B9.exec
  have hb := B9.bytes
  have hr := B9.returns
  have hts := atoms_spec (ws := wsX1_done) B9.pre
  have hown : s.vm.findClass RX1 = some m.cls := findClass_of_methodNamed B9.named
  have hlocks := B9.notSynchronized
  have hin0 : ∀ w ∈ wsX10, w ∈ wsX1_done := by decide +kernel
  have w_0 := hts (.fieldLink RX1 15 "ApologyLedgerLaw$Sim" "slights" "[[I") (by decide +kernel)
  have hl := lv_entry ([.ref y, .int (iI (-1)), .int (iI p)]) (n := 8) (Nat.le_of_ble_eq_true rfl)
  rw [lg_entry_eq]
  generalize (lg_sl ([.ref y, .int (iI (-1)), .int (iI p)]) ++ List.replicate (8 - (lg_sl ([.ref y, .int (iI (-1)), .int (iI p)])).length) Slot.unset).toArray = ls at hl ⊢
  have hl : lv_has ls 8 [(0, .ref y), (1, .int (iI (-1))), (2, .int (iI p))] := hl
  have hIn := hI.n
  have hIb := hI.b
  refine lv_iconst (v := iI 0) hx hb dX1_done_0 rfl ?_
  refine lv_istore_n (lv' := [(3, .int (iI 0)), (0, .ref y), (1, .int (iI (-1))), (2, .int (iI p))]) hx hb dX1_done_1 rfl hl (by decide) rfl (fun ls hl => ?_)
  refine lv_aload_n hx hb dX1_done_2 rfl (lv_at hl 1 rfl) ?_
  refine u_get (v := .ref S) hx hb hts hin0 hown hK hP 0 rfl 1 (by decide) w_0 rfl rfl dX1_done_3 ?_
  refine lv_astore (lv' := [(4, .ref S), (3, .int (iI 0)), (0, .ref y), (1, .int (iI (-1))), (2, .int (iI p))]) hx hb dX1_done_6 hl (by decide) rfl (fun ls hl => ?_)
  refine lv_aload hx hb dX1_done_8 (lv_at hl 0 rfl) ?_
  refine u_lenS hx hb hK hP dX1_done_10 ?_
  refine lv_istore (lv' := [(5, .int (iI (σ.1 1 : Nat))), (4, .ref S), (3, .int (iI 0)), (0, .ref y), (1, .int (iI (-1))), (2, .int (iI p))]) hx hb dX1_done_11 hl (by decide) rfl (fun ls hl => ?_)
  refine lv_iconst (v := iI 0) hx hb dX1_done_13 rfl ?_
  refine lv_istore (lv' := [(6, .int (iI 0)), (5, .int (iI (σ.1 1 : Nat))), (4, .ref S), (3, .int (iI 0)), (0, .ref y), (1, .int (iI (-1))), (2, .int (iI p))]) hx hb dX1_done_14 hl (by decide) rfl (fun ls hl => ?_)
  have LP16 : ∀ (r16 : Nat) (j : Nat) (s1 : Int), j ≤ σ.1 1 → σ.1 1 - j < r16 → s1 = zs (fun k => if σ.2 5 k = 0 ∧ σ.2 3 k = p then σ.2 4 k else 0) j → 0 ≤ s1 ∧ s1 ≤ 99 * j → ∀ (ls : Array Slot), lv_has ls 8 [(6, .int (iI (j : Int))), (5, .int (iI (σ.1 1 : Nat))), (4, .ref S), (3, .int (iI s1)), (0, .ref y), (1, .int (iI (-1))), (2, .int (iI p))] → W pp l ee (headSpec wsX1_done ({ frames := 0, cells := 0, slots := 0, locals := 0 } : Room)).room s m ([.ref y, .int (iI (-1)), .int (iI p)] : List Value).toArray below meth c s.heap [] 0 0 (MQ below (vp_Si (fun r => r = iI (bor σ p))) ([.ref y, .int (iI (-1)), .int (iI p)] : List Value).toArray s 0 0 (fun _ => False)) (F0 m 16 ls []) := by
    intro r16
    induction r16 with
    | zero => intro j s1 hv16_0 hv16_1; exfalso; omega
    | succ r16 ih16 =>
      intro j s1 hv16_0 hv16_1 hv16_2 hv16_3 ls hl
      have f_1 := hI.c4o j
      have f_2 := hI.r5 j
      have f_3 := hI.r4 j
      refine lv_iload hx hb dX1_done_16 (lv_at hl 0 rfl) ?_
      refine lv_iload hx hb dX1_done_18 (lv_at hl 1 rfl) ?_
      refine z_icmp_ge (tgt := 67) hx hb dX1_done_20 (by decide) (by omega) (by omega) (fun c_4 => ?_) (fun c_4 => ?_)
      ·
        refine lv_iload_n hx hb dX1_done_67 rfl (lv_at hl 3 rfl) ?_
        refine z_re (v' := iI (bor σ p)) (congrArg iI (by rw [hv16_2, show j = σ.1 1 from by omega]; rfl)) ?_
        exact W.iret hx hb hr (fun t ht _ => ⟨_, rfl, rfl, ht⟩) (fun q hq => absurd hq List.not_mem_nil) dX1_done_68
      ·
        refine lv_aload hx hb dX1_done_23 (lv_at hl 2 rfl) ?_
        refine lv_iload hx hb dX1_done_25 (lv_at hl 0 rfl) ?_
        refine u_aalS hx hb hK hP (k := j) (show j < σ.1 1 from by omega) (show σ.1 1 < 2147483648 from by omega) dX1_done_27 ?_
        refine lv_astore (lv' := [(7, .ref (rs j)), (6, .int (iI (j : Int))), (5, .int (iI (σ.1 1 : Nat))), (4, .ref S), (3, .int (iI s1)), (0, .ref y), (1, .int (iI (-1))), (2, .int (iI p))]) hx hb dX1_done_28 hl (by decide) rfl (fun ls hl => ?_)
        refine lv_iload_n hx hb dX1_done_30 rfl (lv_at hl 6 rfl) ?_
        refine z_if_lt (tgt := 42) hx hb dX1_done_31 (by decide) (by omega) (fun c_5 => ?_) (fun c_5 => ?_)
        ·
          refine lv_iload_n hx hb dX1_done_42 rfl (lv_at hl 7 rfl) ?_
          refine z_if_lt (tgt := 54) hx hb dX1_done_43 (by decide) (by omega) (fun c_6 => ?_) (fun c_6 => ?_)
          ·
            refine lv_iload_n hx hb dX1_done_54 rfl (lv_at hl 4 rfl) ?_
            refine lv_aload hx hb dX1_done_55 (lv_at hl 0 rfl) ?_
            refine lv_iconst (v := iI 2) hx hb dX1_done_57 rfl ?_
            refine u_ildS hx hb hK hP (k := j) (i := 2) (v := iI (σ.2 4 j)) (show j < σ.1 1 from by omega) (by decide) rfl dX1_done_58 ?_
            have f_7 := hI.r4 j
            refine z_iadd hx hb dX1_done_59 ?_
            refine lv_istore_n (lv' := [(3, .int (iI (s1 + (σ.2 4 j)))), (7, .ref (rs j)), (6, .int (iI (j : Int))), (5, .int (iI (σ.1 1 : Nat))), (4, .ref S), (0, .ref y), (1, .int (iI (-1))), (2, .int (iI p))]) hx hb dX1_done_60 rfl hl (by decide) rfl (fun ls hl => ?_)
            refine lv_iinc (v := iI ((j : Int) + 1)) (lv' := [(6, .int (iI ((j : Int) + 1))), (3, .int (iI (s1 + (σ.2 4 j)))), (7, .ref (rs j)), (5, .int (iI (σ.1 1 : Nat))), (4, .ref S), (0, .ref y), (1, .int (iI (-1))), (2, .int (iI p))]) hx hb dX1_done_61 hl (k := 2) rfl (iI_add _ _) (by decide) rfl (fun ls hl => ?_)
            refine lv_goto (tgt := 16) hx hb dX1_done_64 (by decide) ?_
            exact ih16 (j + 1) (s1 + (σ.2 4 j)) (by omega) (by omega) (by rw [zs_s, ← hv16_2]; (try dsimp only); split <;> omega) (by omega) ls (lv_sub hl [0, 3, 4, 1, 5, 6, 7] rfl)
          ·
            refine lv_aload hx hb dX1_done_46 (lv_at hl 0 rfl) ?_
            refine lv_iconst (v := iI 1) hx hb dX1_done_48 rfl ?_
            refine u_ildS hx hb hK hP (k := j) (i := 1) (v := iI (σ.2 3 j)) (show j < σ.1 1 from by omega) (by decide) rfl dX1_done_49 ?_
            have f_8 := hI.r3 (k := j) (by omega)
            refine lv_iload_n hx hb dX1_done_50 rfl (lv_at hl 7 rfl) ?_
            refine z_icmp_ne (tgt := 61) hx hb dX1_done_51 (by decide) (by omega) (by omega) (fun c_9 => ?_) (fun c_9 => ?_)
            ·
              refine lv_iinc (v := iI ((j : Int) + 1)) (lv' := [(6, .int (iI ((j : Int) + 1))), (7, .ref (rs j)), (5, .int (iI (σ.1 1 : Nat))), (4, .ref S), (3, .int (iI s1)), (0, .ref y), (1, .int (iI (-1))), (2, .int (iI p))]) hx hb dX1_done_61 hl (k := 1) rfl (iI_add _ _) (by decide) rfl (fun ls hl => ?_)
              refine lv_goto (tgt := 16) hx hb dX1_done_64 (by decide) ?_
              exact ih16 (j + 1) s1 (by omega) (by omega) (by rw [zs_s, ← hv16_2]; (try dsimp only); split <;> omega) (by omega) ls (lv_sub hl [0, 2, 3, 4, 5, 6, 7] rfl)
            ·
              refine lv_iload_n hx hb dX1_done_54 rfl (lv_at hl 4 rfl) ?_
              refine lv_aload hx hb dX1_done_55 (lv_at hl 0 rfl) ?_
              refine lv_iconst (v := iI 2) hx hb dX1_done_57 rfl ?_
              refine u_ildS hx hb hK hP (k := j) (i := 2) (v := iI (σ.2 4 j)) (show j < σ.1 1 from by omega) (by decide) rfl dX1_done_58 ?_
              have f_10 := hI.r4 j
              refine z_iadd hx hb dX1_done_59 ?_
              refine lv_istore_n (lv' := [(3, .int (iI (s1 + (σ.2 4 j)))), (7, .ref (rs j)), (6, .int (iI (j : Int))), (5, .int (iI (σ.1 1 : Nat))), (4, .ref S), (0, .ref y), (1, .int (iI (-1))), (2, .int (iI p))]) hx hb dX1_done_60 rfl hl (by decide) rfl (fun ls hl => ?_)
              refine lv_iinc (v := iI ((j : Int) + 1)) (lv' := [(6, .int (iI ((j : Int) + 1))), (3, .int (iI (s1 + (σ.2 4 j)))), (7, .ref (rs j)), (5, .int (iI (σ.1 1 : Nat))), (4, .ref S), (0, .ref y), (1, .int (iI (-1))), (2, .int (iI p))]) hx hb dX1_done_61 hl (k := 2) rfl (iI_add _ _) (by decide) rfl (fun ls hl => ?_)
              refine lv_goto (tgt := 16) hx hb dX1_done_64 (by decide) ?_
              exact ih16 (j + 1) (s1 + (σ.2 4 j)) (by omega) (by omega) (by rw [zs_s, ← hv16_2]; (try dsimp only); split <;> omega) (by omega) ls (lv_sub hl [0, 3, 4, 1, 5, 6, 7] rfl)
        ·
          exact absurd c_5 (by decide)
  exact LP16 (σ.1 1 - (0) + 1) 0 0 (by omega) (by omega) (by rfl) (by omega) ls (lv_sub hl [0, 1, 2, 3, 4, 5, 6] rfl)
set_option maxHeartbeats 4000000 in
set_option maxRecDepth 100000 in
theorem c_done_o (l : Launch) (G : zG) (y P S : Nat) (rp rs : Nat → Nat) (B : Nat) (σ : zS) (p : Int) (hI : zI B σ) (hp : 0 ≤ p ∧ p ≤ 1000) : Met l yX1_done wsX1_done ({ frames := 0, cells := 0, slots := 0, locals := 0 } : Room) (va_Pc [.ref y, .int (iI p), .int (iI (-1))] (pU G y P S rp rs σ)) (vp_Si (fun r => r = iI (owe σ p))) 0 0 (fun _ => False) := by
  refine Met.ofW (cc := cX1_done) (maxL := 8) (ret := (some .int)) (by decide) rfl ?_
  intro pp ee s m args below meth c s₁ B9 hml hv
  obtain ⟨rfl, hP, hK⟩ := hv
  have hx := B9.exec
  have hb := B9.bytes
  have hr := B9.returns
  have hts := atoms_spec (ws := wsX1_done) B9.pre
  have hown : s.vm.findClass RX1 = some m.cls := findClass_of_methodNamed B9.named
  have hlocks := B9.notSynchronized
  have hin0 : ∀ w ∈ wsX10, w ∈ wsX1_done := by decide +kernel
  have w_0 := hts (.fieldLink RX1 15 "ApologyLedgerLaw$Sim" "slights" "[[I") (by decide +kernel)
  have hl := lv_entry ([.ref y, .int (iI p), .int (iI (-1))]) (n := 8) (Nat.le_of_ble_eq_true rfl)
  rw [lg_entry_eq]
  generalize (lg_sl ([.ref y, .int (iI p), .int (iI (-1))]) ++ List.replicate (8 - (lg_sl ([.ref y, .int (iI p), .int (iI (-1))])).length) Slot.unset).toArray = ls at hl ⊢
  have hl : lv_has ls 8 [(0, .ref y), (1, .int (iI p)), (2, .int (iI (-1)))] := hl
  have hIn := hI.n
  have hIb := hI.b
  refine lv_iconst (v := iI 0) hx hb dX1_done_0 rfl ?_
  refine lv_istore_n (lv' := [(3, .int (iI 0)), (0, .ref y), (1, .int (iI p)), (2, .int (iI (-1)))]) hx hb dX1_done_1 rfl hl (by decide) rfl (fun ls hl => ?_)
  refine lv_aload_n hx hb dX1_done_2 rfl (lv_at hl 1 rfl) ?_
  refine u_get (v := .ref S) hx hb hts hin0 hown hK hP 0 rfl 1 (by decide) w_0 rfl rfl dX1_done_3 ?_
  refine lv_astore (lv' := [(4, .ref S), (3, .int (iI 0)), (0, .ref y), (1, .int (iI p)), (2, .int (iI (-1)))]) hx hb dX1_done_6 hl (by decide) rfl (fun ls hl => ?_)
  refine lv_aload hx hb dX1_done_8 (lv_at hl 0 rfl) ?_
  refine u_lenS hx hb hK hP dX1_done_10 ?_
  refine lv_istore (lv' := [(5, .int (iI (σ.1 1 : Nat))), (4, .ref S), (3, .int (iI 0)), (0, .ref y), (1, .int (iI p)), (2, .int (iI (-1)))]) hx hb dX1_done_11 hl (by decide) rfl (fun ls hl => ?_)
  refine lv_iconst (v := iI 0) hx hb dX1_done_13 rfl ?_
  refine lv_istore (lv' := [(6, .int (iI 0)), (5, .int (iI (σ.1 1 : Nat))), (4, .ref S), (3, .int (iI 0)), (0, .ref y), (1, .int (iI p)), (2, .int (iI (-1)))]) hx hb dX1_done_14 hl (by decide) rfl (fun ls hl => ?_)
  have LP16 : ∀ (r16 : Nat) (j : Nat) (s1 : Int), j ≤ σ.1 1 → σ.1 1 - j < r16 → s1 = zs (fun k => if σ.2 5 k = 0 ∧ σ.2 2 k = p then σ.2 4 k else 0) j → 0 ≤ s1 ∧ s1 ≤ 99 * j → ∀ (ls : Array Slot), lv_has ls 8 [(6, .int (iI (j : Int))), (5, .int (iI (σ.1 1 : Nat))), (4, .ref S), (3, .int (iI s1)), (0, .ref y), (1, .int (iI p)), (2, .int (iI (-1)))] → W pp l ee (headSpec wsX1_done ({ frames := 0, cells := 0, slots := 0, locals := 0 } : Room)).room s m ([.ref y, .int (iI p), .int (iI (-1))] : List Value).toArray below meth c s.heap [] 0 0 (MQ below (vp_Si (fun r => r = iI (owe σ p))) ([.ref y, .int (iI p), .int (iI (-1))] : List Value).toArray s 0 0 (fun _ => False)) (F0 m 16 ls []) := by
    intro r16
    induction r16 with
    | zero => intro j s1 hv16_0 hv16_1; exfalso; omega
    | succ r16 ih16 =>
      intro j s1 hv16_0 hv16_1 hv16_2 hv16_3 ls hl
      have f_1 := hI.c4o j
      have f_2 := hI.r5 j
      have f_3 := hI.r4 j
      refine lv_iload hx hb dX1_done_16 (lv_at hl 0 rfl) ?_
      refine lv_iload hx hb dX1_done_18 (lv_at hl 1 rfl) ?_
      refine z_icmp_ge (tgt := 67) hx hb dX1_done_20 (by decide) (by omega) (by omega) (fun c_4 => ?_) (fun c_4 => ?_)
      ·
        refine lv_iload_n hx hb dX1_done_67 rfl (lv_at hl 3 rfl) ?_
        refine z_re (v' := iI (owe σ p)) (congrArg iI (by rw [hv16_2, show j = σ.1 1 from by omega]; rfl)) ?_
        exact W.iret hx hb hr (fun t ht _ => ⟨_, rfl, rfl, ht⟩) (fun q hq => absurd hq List.not_mem_nil) dX1_done_68
      ·
        refine lv_aload hx hb dX1_done_23 (lv_at hl 2 rfl) ?_
        refine lv_iload hx hb dX1_done_25 (lv_at hl 0 rfl) ?_
        refine u_aalS hx hb hK hP (k := j) (show j < σ.1 1 from by omega) (show σ.1 1 < 2147483648 from by omega) dX1_done_27 ?_
        refine lv_astore (lv' := [(7, .ref (rs j)), (6, .int (iI (j : Int))), (5, .int (iI (σ.1 1 : Nat))), (4, .ref S), (3, .int (iI s1)), (0, .ref y), (1, .int (iI p)), (2, .int (iI (-1)))]) hx hb dX1_done_28 hl (by decide) rfl (fun ls hl => ?_)
        refine lv_iload_n hx hb dX1_done_30 rfl (lv_at hl 6 rfl) ?_
        refine z_if_lt (tgt := 42) hx hb dX1_done_31 (by decide) (by omega) (fun c_5 => ?_) (fun c_5 => ?_)
        ·
          refine lv_iload_n hx hb dX1_done_42 rfl (lv_at hl 7 rfl) ?_
          refine z_if_lt (tgt := 54) hx hb dX1_done_43 (by decide) (by omega) (fun c_6 => ?_) (fun c_6 => ?_)
          ·
            refine lv_iload_n hx hb dX1_done_54 rfl (lv_at hl 4 rfl) ?_
            refine lv_aload hx hb dX1_done_55 (lv_at hl 0 rfl) ?_
            refine lv_iconst (v := iI 2) hx hb dX1_done_57 rfl ?_
            refine u_ildS hx hb hK hP (k := j) (i := 2) (v := iI (σ.2 4 j)) (show j < σ.1 1 from by omega) (by decide) rfl dX1_done_58 ?_
            have f_7 := hI.r4 j
            refine z_iadd hx hb dX1_done_59 ?_
            refine lv_istore_n (lv' := [(3, .int (iI (s1 + (σ.2 4 j)))), (7, .ref (rs j)), (6, .int (iI (j : Int))), (5, .int (iI (σ.1 1 : Nat))), (4, .ref S), (0, .ref y), (1, .int (iI p)), (2, .int (iI (-1)))]) hx hb dX1_done_60 rfl hl (by decide) rfl (fun ls hl => ?_)
            refine lv_iinc (v := iI ((j : Int) + 1)) (lv' := [(6, .int (iI ((j : Int) + 1))), (3, .int (iI (s1 + (σ.2 4 j)))), (7, .ref (rs j)), (5, .int (iI (σ.1 1 : Nat))), (4, .ref S), (0, .ref y), (1, .int (iI p)), (2, .int (iI (-1)))]) hx hb dX1_done_61 hl (k := 2) rfl (iI_add _ _) (by decide) rfl (fun ls hl => ?_)
            refine lv_goto (tgt := 16) hx hb dX1_done_64 (by decide) ?_
            exact ih16 (j + 1) (s1 + (σ.2 4 j)) (by omega) (by omega) (by rw [zs_s, ← hv16_2]; (try dsimp only); split <;> omega) (by omega) ls (lv_sub hl [0, 3, 4, 1, 5, 6, 7] rfl)
          ·
            exact absurd c_6 (by decide)
        ·
          refine lv_aload hx hb dX1_done_34 (lv_at hl 0 rfl) ?_
          refine lv_iconst (v := iI 0) hx hb dX1_done_36 rfl ?_
          refine u_ildS hx hb hK hP (k := j) (i := 0) (v := iI (σ.2 2 j)) (show j < σ.1 1 from by omega) (by decide) rfl dX1_done_37 ?_
          have f_8 := hI.r2 (k := j) (by omega)
          refine lv_iload_n hx hb dX1_done_38 rfl (lv_at hl 6 rfl) ?_
          refine z_icmp_ne (tgt := 61) hx hb dX1_done_39 (by decide) (by omega) (by omega) (fun c_9 => ?_) (fun c_9 => ?_)
          ·
            refine lv_iinc (v := iI ((j : Int) + 1)) (lv' := [(6, .int (iI ((j : Int) + 1))), (7, .ref (rs j)), (5, .int (iI (σ.1 1 : Nat))), (4, .ref S), (3, .int (iI s1)), (0, .ref y), (1, .int (iI p)), (2, .int (iI (-1)))]) hx hb dX1_done_61 hl (k := 1) rfl (iI_add _ _) (by decide) rfl (fun ls hl => ?_)
            refine lv_goto (tgt := 16) hx hb dX1_done_64 (by decide) ?_
            exact ih16 (j + 1) s1 (by omega) (by omega) (by rw [zs_s, ← hv16_2]; (try dsimp only); split <;> omega) (by omega) ls (lv_sub hl [0, 2, 3, 4, 5, 6, 7] rfl)
          ·
            refine lv_iload_n hx hb dX1_done_42 rfl (lv_at hl 7 rfl) ?_
            refine z_if_lt (tgt := 54) hx hb dX1_done_43 (by decide) (by omega) (fun c_10 => ?_) (fun c_10 => ?_)
            ·
              refine lv_iload_n hx hb dX1_done_54 rfl (lv_at hl 4 rfl) ?_
              refine lv_aload hx hb dX1_done_55 (lv_at hl 0 rfl) ?_
              refine lv_iconst (v := iI 2) hx hb dX1_done_57 rfl ?_
              refine u_ildS hx hb hK hP (k := j) (i := 2) (v := iI (σ.2 4 j)) (show j < σ.1 1 from by omega) (by decide) rfl dX1_done_58 ?_
              have f_11 := hI.r4 j
              refine z_iadd hx hb dX1_done_59 ?_
              refine lv_istore_n (lv' := [(3, .int (iI (s1 + (σ.2 4 j)))), (7, .ref (rs j)), (6, .int (iI (j : Int))), (5, .int (iI (σ.1 1 : Nat))), (4, .ref S), (0, .ref y), (1, .int (iI p)), (2, .int (iI (-1)))]) hx hb dX1_done_60 rfl hl (by decide) rfl (fun ls hl => ?_)
              refine lv_iinc (v := iI ((j : Int) + 1)) (lv' := [(6, .int (iI ((j : Int) + 1))), (3, .int (iI (s1 + (σ.2 4 j)))), (7, .ref (rs j)), (5, .int (iI (σ.1 1 : Nat))), (4, .ref S), (0, .ref y), (1, .int (iI p)), (2, .int (iI (-1)))]) hx hb dX1_done_61 hl (k := 2) rfl (iI_add _ _) (by decide) rfl (fun ls hl => ?_)
              refine lv_goto (tgt := 16) hx hb dX1_done_64 (by decide) ?_
              exact ih16 (j + 1) (s1 + (σ.2 4 j)) (by omega) (by omega) (by rw [zs_s, ← hv16_2]; (try dsimp only); split <;> omega) (by omega) ls (lv_sub hl [0, 3, 4, 1, 5, 6, 7] rfl)
            ·
              exact absurd c_10 (by decide)
  exact LP16 (σ.1 1 - (0) + 1) 0 0 (by omega) (by omega) (by rfl) (by omega) ls (lv_sub hl [0, 1, 2, 3, 4, 5, 6] rfl)
set_option maxHeartbeats 4000000 in
set_option maxRecDepth 100000 in
theorem c_done_w (l : Launch) (G : zG) (y P S : Nat) (rp rs : Nat → Nat) (B : Nat) (σ : zS) (i : Int) (o : Int) (hI : zI B σ) (hi : 0 ≤ i ∧ i ≤ 1000) (ho : 0 ≤ o ∧ o ≤ 1000) : Met l yX1_done wsX1_done ({ frames := 0, cells := 0, slots := 0, locals := 0 } : Room) (va_Pc [.ref y, .int (iI i), .int (iI o)] (pU G y P S rp rs σ)) (vp_Si (fun r => r = iI (btw σ i o))) 0 0 (fun _ => False) := by
  refine Met.ofW (cc := cX1_done) (maxL := 8) (ret := (some .int)) (by decide) rfl ?_
  intro pp ee s m args below meth c s₁ B9 hml hv
  obtain ⟨rfl, hP, hK⟩ := hv
  have hx := B9.exec
  have hb := B9.bytes
  have hr := B9.returns
  have hts := atoms_spec (ws := wsX1_done) B9.pre
  have hown : s.vm.findClass RX1 = some m.cls := findClass_of_methodNamed B9.named
  have hlocks := B9.notSynchronized
  have hin0 : ∀ w ∈ wsX10, w ∈ wsX1_done := by decide +kernel
  have w_0 := hts (.fieldLink RX1 15 "ApologyLedgerLaw$Sim" "slights" "[[I") (by decide +kernel)
  have hl := lv_entry ([.ref y, .int (iI i), .int (iI o)]) (n := 8) (Nat.le_of_ble_eq_true rfl)
  rw [lg_entry_eq]
  generalize (lg_sl ([.ref y, .int (iI i), .int (iI o)]) ++ List.replicate (8 - (lg_sl ([.ref y, .int (iI i), .int (iI o)])).length) Slot.unset).toArray = ls at hl ⊢
  have hl : lv_has ls 8 [(0, .ref y), (1, .int (iI i)), (2, .int (iI o))] := hl
  have hIn := hI.n
  have hIb := hI.b
  refine lv_iconst (v := iI 0) hx hb dX1_done_0 rfl ?_
  refine lv_istore_n (lv' := [(3, .int (iI 0)), (0, .ref y), (1, .int (iI i)), (2, .int (iI o))]) hx hb dX1_done_1 rfl hl (by decide) rfl (fun ls hl => ?_)
  refine lv_aload_n hx hb dX1_done_2 rfl (lv_at hl 1 rfl) ?_
  refine u_get (v := .ref S) hx hb hts hin0 hown hK hP 0 rfl 1 (by decide) w_0 rfl rfl dX1_done_3 ?_
  refine lv_astore (lv' := [(4, .ref S), (3, .int (iI 0)), (0, .ref y), (1, .int (iI i)), (2, .int (iI o))]) hx hb dX1_done_6 hl (by decide) rfl (fun ls hl => ?_)
  refine lv_aload hx hb dX1_done_8 (lv_at hl 0 rfl) ?_
  refine u_lenS hx hb hK hP dX1_done_10 ?_
  refine lv_istore (lv' := [(5, .int (iI (σ.1 1 : Nat))), (4, .ref S), (3, .int (iI 0)), (0, .ref y), (1, .int (iI i)), (2, .int (iI o))]) hx hb dX1_done_11 hl (by decide) rfl (fun ls hl => ?_)
  refine lv_iconst (v := iI 0) hx hb dX1_done_13 rfl ?_
  refine lv_istore (lv' := [(6, .int (iI 0)), (5, .int (iI (σ.1 1 : Nat))), (4, .ref S), (3, .int (iI 0)), (0, .ref y), (1, .int (iI i)), (2, .int (iI o))]) hx hb dX1_done_14 hl (by decide) rfl (fun ls hl => ?_)
  have LP16 : ∀ (r16 : Nat) (j : Nat) (s1 : Int), j ≤ σ.1 1 → σ.1 1 - j < r16 → s1 = zs (fun k => if σ.2 5 k = 0 ∧ σ.2 2 k = i ∧ σ.2 3 k = o then σ.2 4 k else 0) j → 0 ≤ s1 ∧ s1 ≤ 99 * j → ∀ (ls : Array Slot), lv_has ls 8 [(6, .int (iI (j : Int))), (5, .int (iI (σ.1 1 : Nat))), (4, .ref S), (3, .int (iI s1)), (0, .ref y), (1, .int (iI i)), (2, .int (iI o))] → W pp l ee (headSpec wsX1_done ({ frames := 0, cells := 0, slots := 0, locals := 0 } : Room)).room s m ([.ref y, .int (iI i), .int (iI o)] : List Value).toArray below meth c s.heap [] 0 0 (MQ below (vp_Si (fun r => r = iI (btw σ i o))) ([.ref y, .int (iI i), .int (iI o)] : List Value).toArray s 0 0 (fun _ => False)) (F0 m 16 ls []) := by
    intro r16
    induction r16 with
    | zero => intro j s1 hv16_0 hv16_1; exfalso; omega
    | succ r16 ih16 =>
      intro j s1 hv16_0 hv16_1 hv16_2 hv16_3 ls hl
      have f_1 := hI.c4o j
      have f_2 := hI.r5 j
      have f_3 := hI.r4 j
      refine lv_iload hx hb dX1_done_16 (lv_at hl 0 rfl) ?_
      refine lv_iload hx hb dX1_done_18 (lv_at hl 1 rfl) ?_
      refine z_icmp_ge (tgt := 67) hx hb dX1_done_20 (by decide) (by omega) (by omega) (fun c_4 => ?_) (fun c_4 => ?_)
      ·
        refine lv_iload_n hx hb dX1_done_67 rfl (lv_at hl 3 rfl) ?_
        refine z_re (v' := iI (btw σ i o)) (congrArg iI (by rw [hv16_2, show j = σ.1 1 from by omega]; rfl)) ?_
        exact W.iret hx hb hr (fun t ht _ => ⟨_, rfl, rfl, ht⟩) (fun q hq => absurd hq List.not_mem_nil) dX1_done_68
      ·
        refine lv_aload hx hb dX1_done_23 (lv_at hl 2 rfl) ?_
        refine lv_iload hx hb dX1_done_25 (lv_at hl 0 rfl) ?_
        refine u_aalS hx hb hK hP (k := j) (show j < σ.1 1 from by omega) (show σ.1 1 < 2147483648 from by omega) dX1_done_27 ?_
        refine lv_astore (lv' := [(7, .ref (rs j)), (6, .int (iI (j : Int))), (5, .int (iI (σ.1 1 : Nat))), (4, .ref S), (3, .int (iI s1)), (0, .ref y), (1, .int (iI i)), (2, .int (iI o))]) hx hb dX1_done_28 hl (by decide) rfl (fun ls hl => ?_)
        refine lv_iload_n hx hb dX1_done_30 rfl (lv_at hl 6 rfl) ?_
        refine z_if_lt (tgt := 42) hx hb dX1_done_31 (by decide) (by omega) (fun c_5 => ?_) (fun c_5 => ?_)
        ·
          refine lv_iload_n hx hb dX1_done_42 rfl (lv_at hl 7 rfl) ?_
          refine z_if_lt (tgt := 54) hx hb dX1_done_43 (by decide) (by omega) (fun c_6 => ?_) (fun c_6 => ?_)
          ·
            refine lv_iload_n hx hb dX1_done_54 rfl (lv_at hl 4 rfl) ?_
            refine lv_aload hx hb dX1_done_55 (lv_at hl 0 rfl) ?_
            refine lv_iconst (v := iI 2) hx hb dX1_done_57 rfl ?_
            refine u_ildS hx hb hK hP (k := j) (i := 2) (v := iI (σ.2 4 j)) (show j < σ.1 1 from by omega) (by decide) rfl dX1_done_58 ?_
            have f_7 := hI.r4 j
            refine z_iadd hx hb dX1_done_59 ?_
            refine lv_istore_n (lv' := [(3, .int (iI (s1 + (σ.2 4 j)))), (7, .ref (rs j)), (6, .int (iI (j : Int))), (5, .int (iI (σ.1 1 : Nat))), (4, .ref S), (0, .ref y), (1, .int (iI i)), (2, .int (iI o))]) hx hb dX1_done_60 rfl hl (by decide) rfl (fun ls hl => ?_)
            refine lv_iinc (v := iI ((j : Int) + 1)) (lv' := [(6, .int (iI ((j : Int) + 1))), (3, .int (iI (s1 + (σ.2 4 j)))), (7, .ref (rs j)), (5, .int (iI (σ.1 1 : Nat))), (4, .ref S), (0, .ref y), (1, .int (iI i)), (2, .int (iI o))]) hx hb dX1_done_61 hl (k := 2) rfl (iI_add _ _) (by decide) rfl (fun ls hl => ?_)
            refine lv_goto (tgt := 16) hx hb dX1_done_64 (by decide) ?_
            exact ih16 (j + 1) (s1 + (σ.2 4 j)) (by omega) (by omega) (by rw [zs_s, ← hv16_2]; (try dsimp only); split <;> omega) (by omega) ls (lv_sub hl [0, 3, 4, 1, 5, 6, 7] rfl)
          ·
            refine lv_aload hx hb dX1_done_46 (lv_at hl 0 rfl) ?_
            refine lv_iconst (v := iI 1) hx hb dX1_done_48 rfl ?_
            refine u_ildS hx hb hK hP (k := j) (i := 1) (v := iI (σ.2 3 j)) (show j < σ.1 1 from by omega) (by decide) rfl dX1_done_49 ?_
            have f_8 := hI.r3 (k := j) (by omega)
            refine lv_iload_n hx hb dX1_done_50 rfl (lv_at hl 7 rfl) ?_
            refine z_icmp_ne (tgt := 61) hx hb dX1_done_51 (by decide) (by omega) (by omega) (fun c_9 => ?_) (fun c_9 => ?_)
            ·
              refine lv_iinc (v := iI ((j : Int) + 1)) (lv' := [(6, .int (iI ((j : Int) + 1))), (7, .ref (rs j)), (5, .int (iI (σ.1 1 : Nat))), (4, .ref S), (3, .int (iI s1)), (0, .ref y), (1, .int (iI i)), (2, .int (iI o))]) hx hb dX1_done_61 hl (k := 1) rfl (iI_add _ _) (by decide) rfl (fun ls hl => ?_)
              refine lv_goto (tgt := 16) hx hb dX1_done_64 (by decide) ?_
              exact ih16 (j + 1) s1 (by omega) (by omega) (by rw [zs_s, ← hv16_2]; (try dsimp only); split <;> omega) (by omega) ls (lv_sub hl [0, 2, 3, 4, 5, 6, 7] rfl)
            ·
              refine lv_iload_n hx hb dX1_done_54 rfl (lv_at hl 4 rfl) ?_
              refine lv_aload hx hb dX1_done_55 (lv_at hl 0 rfl) ?_
              refine lv_iconst (v := iI 2) hx hb dX1_done_57 rfl ?_
              refine u_ildS hx hb hK hP (k := j) (i := 2) (v := iI (σ.2 4 j)) (show j < σ.1 1 from by omega) (by decide) rfl dX1_done_58 ?_
              have f_10 := hI.r4 j
              refine z_iadd hx hb dX1_done_59 ?_
              refine lv_istore_n (lv' := [(3, .int (iI (s1 + (σ.2 4 j)))), (7, .ref (rs j)), (6, .int (iI (j : Int))), (5, .int (iI (σ.1 1 : Nat))), (4, .ref S), (0, .ref y), (1, .int (iI i)), (2, .int (iI o))]) hx hb dX1_done_60 rfl hl (by decide) rfl (fun ls hl => ?_)
              refine lv_iinc (v := iI ((j : Int) + 1)) (lv' := [(6, .int (iI ((j : Int) + 1))), (3, .int (iI (s1 + (σ.2 4 j)))), (7, .ref (rs j)), (5, .int (iI (σ.1 1 : Nat))), (4, .ref S), (0, .ref y), (1, .int (iI i)), (2, .int (iI o))]) hx hb dX1_done_61 hl (k := 2) rfl (iI_add _ _) (by decide) rfl (fun ls hl => ?_)
              refine lv_goto (tgt := 16) hx hb dX1_done_64 (by decide) ?_
              exact ih16 (j + 1) (s1 + (σ.2 4 j)) (by omega) (by omega) (by rw [zs_s, ← hv16_2]; (try dsimp only); split <;> omega) (by omega) ls (lv_sub hl [0, 3, 4, 1, 5, 6, 7] rfl)
        ·
          refine lv_aload hx hb dX1_done_34 (lv_at hl 0 rfl) ?_
          refine lv_iconst (v := iI 0) hx hb dX1_done_36 rfl ?_
          refine u_ildS hx hb hK hP (k := j) (i := 0) (v := iI (σ.2 2 j)) (show j < σ.1 1 from by omega) (by decide) rfl dX1_done_37 ?_
          have f_11 := hI.r2 (k := j) (by omega)
          refine lv_iload_n hx hb dX1_done_38 rfl (lv_at hl 6 rfl) ?_
          refine z_icmp_ne (tgt := 61) hx hb dX1_done_39 (by decide) (by omega) (by omega) (fun c_12 => ?_) (fun c_12 => ?_)
          ·
            refine lv_iinc (v := iI ((j : Int) + 1)) (lv' := [(6, .int (iI ((j : Int) + 1))), (7, .ref (rs j)), (5, .int (iI (σ.1 1 : Nat))), (4, .ref S), (3, .int (iI s1)), (0, .ref y), (1, .int (iI i)), (2, .int (iI o))]) hx hb dX1_done_61 hl (k := 1) rfl (iI_add _ _) (by decide) rfl (fun ls hl => ?_)
            refine lv_goto (tgt := 16) hx hb dX1_done_64 (by decide) ?_
            exact ih16 (j + 1) s1 (by omega) (by omega) (by rw [zs_s, ← hv16_2]; (try dsimp only); split <;> omega) (by omega) ls (lv_sub hl [0, 2, 3, 4, 5, 6, 7] rfl)
          ·
            refine lv_iload_n hx hb dX1_done_42 rfl (lv_at hl 7 rfl) ?_
            refine z_if_lt (tgt := 54) hx hb dX1_done_43 (by decide) (by omega) (fun c_13 => ?_) (fun c_13 => ?_)
            ·
              refine lv_iload_n hx hb dX1_done_54 rfl (lv_at hl 4 rfl) ?_
              refine lv_aload hx hb dX1_done_55 (lv_at hl 0 rfl) ?_
              refine lv_iconst (v := iI 2) hx hb dX1_done_57 rfl ?_
              refine u_ildS hx hb hK hP (k := j) (i := 2) (v := iI (σ.2 4 j)) (show j < σ.1 1 from by omega) (by decide) rfl dX1_done_58 ?_
              have f_14 := hI.r4 j
              refine z_iadd hx hb dX1_done_59 ?_
              refine lv_istore_n (lv' := [(3, .int (iI (s1 + (σ.2 4 j)))), (7, .ref (rs j)), (6, .int (iI (j : Int))), (5, .int (iI (σ.1 1 : Nat))), (4, .ref S), (0, .ref y), (1, .int (iI i)), (2, .int (iI o))]) hx hb dX1_done_60 rfl hl (by decide) rfl (fun ls hl => ?_)
              refine lv_iinc (v := iI ((j : Int) + 1)) (lv' := [(6, .int (iI ((j : Int) + 1))), (3, .int (iI (s1 + (σ.2 4 j)))), (7, .ref (rs j)), (5, .int (iI (σ.1 1 : Nat))), (4, .ref S), (0, .ref y), (1, .int (iI i)), (2, .int (iI o))]) hx hb dX1_done_61 hl (k := 2) rfl (iI_add _ _) (by decide) rfl (fun ls hl => ?_)
              refine lv_goto (tgt := 16) hx hb dX1_done_64 (by decide) ?_
              exact ih16 (j + 1) (s1 + (σ.2 4 j)) (by omega) (by omega) (by rw [zs_s, ← hv16_2]; (try dsimp only); split <;> omega) (by omega) ls (lv_sub hl [0, 3, 4, 1, 5, 6, 7] rfl)
            ·
              refine lv_aload hx hb dX1_done_46 (lv_at hl 0 rfl) ?_
              refine lv_iconst (v := iI 1) hx hb dX1_done_48 rfl ?_
              refine u_ildS hx hb hK hP (k := j) (i := 1) (v := iI (σ.2 3 j)) (show j < σ.1 1 from by omega) (by decide) rfl dX1_done_49 ?_
              have f_15 := hI.r3 (k := j) (by omega)
              refine lv_iload_n hx hb dX1_done_50 rfl (lv_at hl 7 rfl) ?_
              refine z_icmp_ne (tgt := 61) hx hb dX1_done_51 (by decide) (by omega) (by omega) (fun c_16 => ?_) (fun c_16 => ?_)
              ·
                refine lv_iinc (v := iI ((j : Int) + 1)) (lv' := [(6, .int (iI ((j : Int) + 1))), (7, .ref (rs j)), (5, .int (iI (σ.1 1 : Nat))), (4, .ref S), (3, .int (iI s1)), (0, .ref y), (1, .int (iI i)), (2, .int (iI o))]) hx hb dX1_done_61 hl (k := 1) rfl (iI_add _ _) (by decide) rfl (fun ls hl => ?_)
                refine lv_goto (tgt := 16) hx hb dX1_done_64 (by decide) ?_
                exact ih16 (j + 1) s1 (by omega) (by omega) (by rw [zs_s, ← hv16_2]; (try dsimp only); split <;> omega) (by omega) ls (lv_sub hl [0, 2, 3, 4, 5, 6, 7] rfl)
              ·
                refine lv_iload_n hx hb dX1_done_54 rfl (lv_at hl 4 rfl) ?_
                refine lv_aload hx hb dX1_done_55 (lv_at hl 0 rfl) ?_
                refine lv_iconst (v := iI 2) hx hb dX1_done_57 rfl ?_
                refine u_ildS hx hb hK hP (k := j) (i := 2) (v := iI (σ.2 4 j)) (show j < σ.1 1 from by omega) (by decide) rfl dX1_done_58 ?_
                have f_17 := hI.r4 j
                refine z_iadd hx hb dX1_done_59 ?_
                refine lv_istore_n (lv' := [(3, .int (iI (s1 + (σ.2 4 j)))), (7, .ref (rs j)), (6, .int (iI (j : Int))), (5, .int (iI (σ.1 1 : Nat))), (4, .ref S), (0, .ref y), (1, .int (iI i)), (2, .int (iI o))]) hx hb dX1_done_60 rfl hl (by decide) rfl (fun ls hl => ?_)
                refine lv_iinc (v := iI ((j : Int) + 1)) (lv' := [(6, .int (iI ((j : Int) + 1))), (3, .int (iI (s1 + (σ.2 4 j)))), (7, .ref (rs j)), (5, .int (iI (σ.1 1 : Nat))), (4, .ref S), (0, .ref y), (1, .int (iI i)), (2, .int (iI o))]) hx hb dX1_done_61 hl (k := 2) rfl (iI_add _ _) (by decide) rfl (fun ls hl => ?_)
                refine lv_goto (tgt := 16) hx hb dX1_done_64 (by decide) ?_
                exact ih16 (j + 1) (s1 + (σ.2 4 j)) (by omega) (by omega) (by rw [zs_s, ← hv16_2]; (try dsimp only); split <;> omega) (by omega) ls (lv_sub hl [0, 3, 4, 1, 5, 6, 7] rfl)
  exact LP16 (σ.1 1 - (0) + 1) 0 0 (by omega) (by omega) (by rfl) (by omega) ls (lv_sub hl [0, 1, 2, 3, 4, 5, 6] rfl)
set_option maxHeartbeats 4000000 in
set_option maxRecDepth 100000 in
theorem c_done_t (l : Launch) (G : zG) (y P S : Nat) (rp rs : Nat → Nat) (B : Nat) (σ : zS) (hI : zI B σ) : Met l yX1_done wsX1_done ({ frames := 0, cells := 0, slots := 0, locals := 0 } : Room) (va_Pc [.ref y, .int (iI (-1)), .int (iI (-1))] (pU G y P S rp rs σ)) (vp_Si (fun r => r = iI (tot σ))) 0 0 (fun _ => False) := by
  refine Met.ofW (cc := cX1_done) (maxL := 8) (ret := (some .int)) (by decide) rfl ?_
  intro pp ee s m args below meth c s₁ B9 hml hv
  obtain ⟨rfl, hP, hK⟩ := hv
  have hx := B9.exec
  have hb := B9.bytes
  have hr := B9.returns
  have hts := atoms_spec (ws := wsX1_done) B9.pre
  have hown : s.vm.findClass RX1 = some m.cls := findClass_of_methodNamed B9.named
  have hlocks := B9.notSynchronized
  have hin0 : ∀ w ∈ wsX10, w ∈ wsX1_done := by decide +kernel
  have w_0 := hts (.fieldLink RX1 15 "ApologyLedgerLaw$Sim" "slights" "[[I") (by decide +kernel)
  have hl := lv_entry ([.ref y, .int (iI (-1)), .int (iI (-1))]) (n := 8) (Nat.le_of_ble_eq_true rfl)
  rw [lg_entry_eq]
  generalize (lg_sl ([.ref y, .int (iI (-1)), .int (iI (-1))]) ++ List.replicate (8 - (lg_sl ([.ref y, .int (iI (-1)), .int (iI (-1))])).length) Slot.unset).toArray = ls at hl ⊢
  have hl : lv_has ls 8 [(0, .ref y), (1, .int (iI (-1))), (2, .int (iI (-1)))] := hl
  have hIn := hI.n
  have hIb := hI.b
  refine lv_iconst (v := iI 0) hx hb dX1_done_0 rfl ?_
  refine lv_istore_n (lv' := [(3, .int (iI 0)), (0, .ref y), (1, .int (iI (-1))), (2, .int (iI (-1)))]) hx hb dX1_done_1 rfl hl (by decide) rfl (fun ls hl => ?_)
  refine lv_aload_n hx hb dX1_done_2 rfl (lv_at hl 1 rfl) ?_
  refine u_get (v := .ref S) hx hb hts hin0 hown hK hP 0 rfl 1 (by decide) w_0 rfl rfl dX1_done_3 ?_
  refine lv_astore (lv' := [(4, .ref S), (3, .int (iI 0)), (0, .ref y), (1, .int (iI (-1))), (2, .int (iI (-1)))]) hx hb dX1_done_6 hl (by decide) rfl (fun ls hl => ?_)
  refine lv_aload hx hb dX1_done_8 (lv_at hl 0 rfl) ?_
  refine u_lenS hx hb hK hP dX1_done_10 ?_
  refine lv_istore (lv' := [(5, .int (iI (σ.1 1 : Nat))), (4, .ref S), (3, .int (iI 0)), (0, .ref y), (1, .int (iI (-1))), (2, .int (iI (-1)))]) hx hb dX1_done_11 hl (by decide) rfl (fun ls hl => ?_)
  refine lv_iconst (v := iI 0) hx hb dX1_done_13 rfl ?_
  refine lv_istore (lv' := [(6, .int (iI 0)), (5, .int (iI (σ.1 1 : Nat))), (4, .ref S), (3, .int (iI 0)), (0, .ref y), (1, .int (iI (-1))), (2, .int (iI (-1)))]) hx hb dX1_done_14 hl (by decide) rfl (fun ls hl => ?_)
  have LP16 : ∀ (r16 : Nat) (j : Nat) (s1 : Int), j ≤ σ.1 1 → σ.1 1 - j < r16 → s1 = zs (fun k => if σ.2 5 k = 0 then σ.2 4 k else 0) j → 0 ≤ s1 ∧ s1 ≤ 99 * j → ∀ (ls : Array Slot), lv_has ls 8 [(6, .int (iI (j : Int))), (5, .int (iI (σ.1 1 : Nat))), (4, .ref S), (3, .int (iI s1)), (0, .ref y), (1, .int (iI (-1))), (2, .int (iI (-1)))] → W pp l ee (headSpec wsX1_done ({ frames := 0, cells := 0, slots := 0, locals := 0 } : Room)).room s m ([.ref y, .int (iI (-1)), .int (iI (-1))] : List Value).toArray below meth c s.heap [] 0 0 (MQ below (vp_Si (fun r => r = iI (tot σ))) ([.ref y, .int (iI (-1)), .int (iI (-1))] : List Value).toArray s 0 0 (fun _ => False)) (F0 m 16 ls []) := by
    intro r16
    induction r16 with
    | zero => intro j s1 hv16_0 hv16_1; exfalso; omega
    | succ r16 ih16 =>
      intro j s1 hv16_0 hv16_1 hv16_2 hv16_3 ls hl
      have f_1 := hI.c4o j
      have f_2 := hI.r5 j
      have f_3 := hI.r4 j
      refine lv_iload hx hb dX1_done_16 (lv_at hl 0 rfl) ?_
      refine lv_iload hx hb dX1_done_18 (lv_at hl 1 rfl) ?_
      refine z_icmp_ge (tgt := 67) hx hb dX1_done_20 (by decide) (by omega) (by omega) (fun c_4 => ?_) (fun c_4 => ?_)
      ·
        refine lv_iload_n hx hb dX1_done_67 rfl (lv_at hl 3 rfl) ?_
        refine z_re (v' := iI (tot σ)) (congrArg iI (by rw [hv16_2, show j = σ.1 1 from by omega]; rfl)) ?_
        exact W.iret hx hb hr (fun t ht _ => ⟨_, rfl, rfl, ht⟩) (fun q hq => absurd hq List.not_mem_nil) dX1_done_68
      ·
        refine lv_aload hx hb dX1_done_23 (lv_at hl 2 rfl) ?_
        refine lv_iload hx hb dX1_done_25 (lv_at hl 0 rfl) ?_
        refine u_aalS hx hb hK hP (k := j) (show j < σ.1 1 from by omega) (show σ.1 1 < 2147483648 from by omega) dX1_done_27 ?_
        refine lv_astore (lv' := [(7, .ref (rs j)), (6, .int (iI (j : Int))), (5, .int (iI (σ.1 1 : Nat))), (4, .ref S), (3, .int (iI s1)), (0, .ref y), (1, .int (iI (-1))), (2, .int (iI (-1)))]) hx hb dX1_done_28 hl (by decide) rfl (fun ls hl => ?_)
        refine lv_iload_n hx hb dX1_done_30 rfl (lv_at hl 6 rfl) ?_
        refine z_if_lt (tgt := 42) hx hb dX1_done_31 (by decide) (by omega) (fun c_5 => ?_) (fun c_5 => ?_)
        ·
          refine lv_iload_n hx hb dX1_done_42 rfl (lv_at hl 7 rfl) ?_
          refine z_if_lt (tgt := 54) hx hb dX1_done_43 (by decide) (by omega) (fun c_6 => ?_) (fun c_6 => ?_)
          ·
            refine lv_iload_n hx hb dX1_done_54 rfl (lv_at hl 4 rfl) ?_
            refine lv_aload hx hb dX1_done_55 (lv_at hl 0 rfl) ?_
            refine lv_iconst (v := iI 2) hx hb dX1_done_57 rfl ?_
            refine u_ildS hx hb hK hP (k := j) (i := 2) (v := iI (σ.2 4 j)) (show j < σ.1 1 from by omega) (by decide) rfl dX1_done_58 ?_
            have f_7 := hI.r4 j
            refine z_iadd hx hb dX1_done_59 ?_
            refine lv_istore_n (lv' := [(3, .int (iI (s1 + (σ.2 4 j)))), (7, .ref (rs j)), (6, .int (iI (j : Int))), (5, .int (iI (σ.1 1 : Nat))), (4, .ref S), (0, .ref y), (1, .int (iI (-1))), (2, .int (iI (-1)))]) hx hb dX1_done_60 rfl hl (by decide) rfl (fun ls hl => ?_)
            refine lv_iinc (v := iI ((j : Int) + 1)) (lv' := [(6, .int (iI ((j : Int) + 1))), (3, .int (iI (s1 + (σ.2 4 j)))), (7, .ref (rs j)), (5, .int (iI (σ.1 1 : Nat))), (4, .ref S), (0, .ref y), (1, .int (iI (-1))), (2, .int (iI (-1)))]) hx hb dX1_done_61 hl (k := 2) rfl (iI_add _ _) (by decide) rfl (fun ls hl => ?_)
            refine lv_goto (tgt := 16) hx hb dX1_done_64 (by decide) ?_
            exact ih16 (j + 1) (s1 + (σ.2 4 j)) (by omega) (by omega) (by rw [zs_s, ← hv16_2]; (try dsimp only); split <;> omega) (by omega) ls (lv_sub hl [0, 3, 4, 1, 5, 6, 7] rfl)
          ·
            exact absurd c_6 (by decide)
        ·
          exact absurd c_5 (by decide)
  exact LP16 (σ.1 1 - (0) + 1) 0 0 (by omega) (by omega) (by rfl) (by omega) ls (lv_sub hl [0, 1, 2, 3, 4, 5, 6] rfl)
set_option maxHeartbeats 4000000 in
set_option maxRecDepth 100000 in
theorem c_X1_count (l : Launch) (G : zG) (y P S : Nat) (rp rs : Nat → Nat) (B : Nat) (σ : zS) (z : Int) (hI : zI B σ) (hz : 0 ≤ z ∧ z ≤ 3) : Met l yX1_count wsX1_count ({ frames := 0, cells := 0, slots := 0, locals := 0 } : Room) (va_Pc [.ref y, .int (iI z)] (pU G y P S rp rs σ)) (vp_Si (fun r => r = iI (cnt σ z))) 0 0 (fun _ => False) := by
  refine Met.ofW (cc := cX1_count) (maxL := 7) (ret := (some .int)) (by decide) rfl ?_
  intro pp ee s m args below meth c s₁ B9 hml hv
  obtain ⟨rfl, hP, hK⟩ := hv
  have hx := B9.exec
  have hb := B9.bytes
  have hr := B9.returns
  have hts := atoms_spec (ws := wsX1_count) B9.pre
  have hown : s.vm.findClass RX1 = some m.cls := findClass_of_methodNamed B9.named
  have hlocks := B9.notSynchronized
  have hin0 : ∀ w ∈ wsX10, w ∈ wsX1_count := by decide +kernel
  have w_0 := hts (.fieldLink RX1 15 "ApologyLedgerLaw$Sim" "slights" "[[I") (by decide +kernel)
  have hl := lv_entry ([.ref y, .int (iI z)]) (n := 7) (Nat.le_of_ble_eq_true rfl)
  rw [lg_entry_eq]
  generalize (lg_sl ([.ref y, .int (iI z)]) ++ List.replicate (7 - (lg_sl ([.ref y, .int (iI z)])).length) Slot.unset).toArray = ls at hl ⊢
  have hl : lv_has ls 7 [(0, .ref y), (1, .int (iI z))] := hl
  have hIn := hI.n
  have hIb := hI.b
  refine lv_iconst (v := iI 0) hx hb dX1_count_0 rfl ?_
  refine lv_istore_n (lv' := [(2, .int (iI 0)), (0, .ref y), (1, .int (iI z))]) hx hb dX1_count_1 rfl hl (by decide) rfl (fun ls hl => ?_)
  refine lv_aload_n hx hb dX1_count_2 rfl (lv_at hl 1 rfl) ?_
  refine u_get (v := .ref S) hx hb hts hin0 hown hK hP 0 rfl 1 (by decide) w_0 rfl rfl dX1_count_3 ?_
  refine lv_astore_n (lv' := [(3, .ref S), (2, .int (iI 0)), (0, .ref y), (1, .int (iI z))]) hx hb dX1_count_6 rfl hl (by decide) rfl (fun ls hl => ?_)
  refine lv_aload_n hx hb dX1_count_7 rfl (lv_at hl 0 rfl) ?_
  refine u_lenS hx hb hK hP dX1_count_8 ?_
  refine lv_istore (lv' := [(4, .int (iI (σ.1 1 : Nat))), (3, .ref S), (2, .int (iI 0)), (0, .ref y), (1, .int (iI z))]) hx hb dX1_count_9 hl (by decide) rfl (fun ls hl => ?_)
  refine lv_iconst (v := iI 0) hx hb dX1_count_11 rfl ?_
  refine lv_istore (lv' := [(5, .int (iI 0)), (4, .int (iI (σ.1 1 : Nat))), (3, .ref S), (2, .int (iI 0)), (0, .ref y), (1, .int (iI z))]) hx hb dX1_count_12 hl (by decide) rfl (fun ls hl => ?_)
  have LP14 : ∀ (r14 : Nat) (j : Nat) (s1 : Int), j ≤ σ.1 1 → σ.1 1 - j < r14 → s1 = zs (fun k => if σ.2 5 k = z then 1 else 0) j → 0 ≤ s1 ∧ s1 ≤ j → ∀ (ls : Array Slot), lv_has ls 7 [(5, .int (iI (j : Int))), (4, .int (iI (σ.1 1 : Nat))), (3, .ref S), (2, .int (iI s1)), (0, .ref y), (1, .int (iI z))] → W pp l ee (headSpec wsX1_count ({ frames := 0, cells := 0, slots := 0, locals := 0 } : Room)).room s m ([.ref y, .int (iI z)] : List Value).toArray below meth c s.heap [] 0 0 (MQ below (vp_Si (fun r => r = iI (cnt σ z))) ([.ref y, .int (iI z)] : List Value).toArray s 0 0 (fun _ => False)) (F0 m 14 ls []) := by
    intro r14
    induction r14 with
    | zero => intro j s1 hv14_0 hv14_1; exfalso; omega
    | succ r14 ih14 =>
      intro j s1 hv14_0 hv14_1 hv14_2 hv14_3 ls hl
      have f_1 := hI.r5 j
      refine lv_iload hx hb dX1_count_14 (lv_at hl 0 rfl) ?_
      refine lv_iload hx hb dX1_count_16 (lv_at hl 1 rfl) ?_
      refine z_icmp_ge (tgt := 49) hx hb dX1_count_18 (by decide) (by omega) (by omega) (fun c_2 => ?_) (fun c_2 => ?_)
      ·
        refine lv_iload_n hx hb dX1_count_49 rfl (lv_at hl 3 rfl) ?_
        refine z_re (v' := iI (cnt σ z)) (congrArg iI (by rw [hv14_2, show j = σ.1 1 from by omega]; rfl)) ?_
        exact W.iret hx hb hr (fun t ht _ => ⟨_, rfl, rfl, ht⟩) (fun q hq => absurd hq List.not_mem_nil) dX1_count_50
      ·
        refine lv_aload_n hx hb dX1_count_21 rfl (lv_at hl 2 rfl) ?_
        refine lv_iload hx hb dX1_count_22 (lv_at hl 0 rfl) ?_
        refine u_aalS hx hb hK hP (k := j) (show j < σ.1 1 from by omega) (show σ.1 1 < 2147483648 from by omega) dX1_count_24 ?_
        refine lv_astore (lv' := [(6, .ref (rs j)), (5, .int (iI (j : Int))), (4, .int (iI (σ.1 1 : Nat))), (3, .ref S), (2, .int (iI s1)), (0, .ref y), (1, .int (iI z))]) hx hb dX1_count_25 hl (by decide) rfl (fun ls hl => ?_)
        refine lv_iload_n hx hb dX1_count_27 rfl (lv_at hl 4 rfl) ?_
        refine lv_aload hx hb dX1_count_28 (lv_at hl 0 rfl) ?_
        refine lv_iconst (v := iI 3) hx hb dX1_count_30 rfl ?_
        refine u_ildS hx hb hK hP (k := j) (i := 3) (v := iI (σ.2 5 j)) (show j < σ.1 1 from by omega) (by decide) rfl dX1_count_31 ?_
        have f_3 := hI.r5 j
        refine lv_iload_n hx hb dX1_count_32 rfl (lv_at hl 6 rfl) ?_
        refine z_icmp_ne (tgt := 40) hx hb dX1_count_33 (by decide) (by omega) (by omega) (fun c_4 => ?_) (fun c_4 => ?_)
        ·
          refine lv_iconst (v := iI 0) hx hb dX1_count_40 rfl ?_
          refine z_iadd hx hb dX1_count_41 ?_
          refine lv_istore_n (lv' := [(2, .int (iI (s1 + 0))), (6, .ref (rs j)), (5, .int (iI (j : Int))), (4, .int (iI (σ.1 1 : Nat))), (3, .ref S), (0, .ref y), (1, .int (iI z))]) hx hb dX1_count_42 rfl hl (by decide) rfl (fun ls hl => ?_)
          refine lv_iinc (v := iI ((j : Int) + 1)) (lv' := [(5, .int (iI ((j : Int) + 1))), (2, .int (iI (s1 + 0))), (6, .ref (rs j)), (4, .int (iI (σ.1 1 : Nat))), (3, .ref S), (0, .ref y), (1, .int (iI z))]) hx hb dX1_count_43 hl (k := 2) rfl (iI_add _ _) (by decide) rfl (fun ls hl => ?_)
          refine lv_goto (tgt := 14) hx hb dX1_count_46 (by decide) ?_
          exact ih14 (j + 1) (s1 + 0) (by omega) (by omega) (by rw [zs_s, ← hv14_2]; (try dsimp only); split <;> omega) (by omega) ls (lv_sub hl [0, 3, 4, 1, 5, 6] rfl)
        ·
          refine lv_iconst (v := iI 1) hx hb dX1_count_36 rfl ?_
          refine lv_goto (tgt := 41) hx hb dX1_count_37 (by decide) ?_
          refine z_iadd hx hb dX1_count_41 ?_
          refine lv_istore_n (lv' := [(2, .int (iI (s1 + 1))), (6, .ref (rs j)), (5, .int (iI (j : Int))), (4, .int (iI (σ.1 1 : Nat))), (3, .ref S), (0, .ref y), (1, .int (iI z))]) hx hb dX1_count_42 rfl hl (by decide) rfl (fun ls hl => ?_)
          refine lv_iinc (v := iI ((j : Int) + 1)) (lv' := [(5, .int (iI ((j : Int) + 1))), (2, .int (iI (s1 + 1))), (6, .ref (rs j)), (4, .int (iI (σ.1 1 : Nat))), (3, .ref S), (0, .ref y), (1, .int (iI z))]) hx hb dX1_count_43 hl (k := 2) rfl (iI_add _ _) (by decide) rfl (fun ls hl => ?_)
          refine lv_goto (tgt := 14) hx hb dX1_count_46 (by decide) ?_
          exact ih14 (j + 1) (s1 + 1) (by omega) (by omega) (by rw [zs_s, ← hv14_2]; (try dsimp only); split <;> omega) (by omega) ls (lv_sub hl [0, 3, 4, 1, 5, 6] rfl)
  exact LP14 (σ.1 1 - (0) + 1) 0 0 (by omega) (by omega) (by rfl) (by omega) ls (lv_sub hl [0, 1, 2, 3, 4, 5] rfl)
