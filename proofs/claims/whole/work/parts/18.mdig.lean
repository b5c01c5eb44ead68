/-! THE REFERENCE'S CHECKSUM: rows made anew for each part of it. -/
theorem dgl_take (d : Int64) (l : List Int) : ∀ z : Nat, z < l.length → dgl d (List.take (z + 1) l) = dg (dgl d (List.take z l)) (l.getD z 0) := by
  induction l generalizing d with
  | nil => intro z h; simp at h
  | cons x l ih =>
    intro z h
    cases z with
    | zero => rfl
    | succ z =>
      show dgl (dg d x) (List.take (z + 1) l) = dg (dgl (dg d x) (List.take z l)) (l.getD z 0)
      exact ih (dg d x) z (by simpa using h)
set_option maxHeartbeats 4000000 in
set_option maxRecDepth 100000 in
theorem v_X1_digest (l : Launch) (G : zG) (x : Nat) (a : Nat → Nat) (sz : Nat) (B : Nat) (σ : zS) (t : Nat) (hI : zI B σ) : Met l yX1_digest wsX1_digest ({ frames := 4, cells := 27, slots := 208, locals := 93 } : Room) (va_Pc [.ref x] (wM G x a t σ sz)) (va_Ql (fun r (_ : Unit) => r = (dig σ)) (fun _ t9 => va_P G.1 vwCl (mW G x a 0 σ) t9.heap) (zA x a sz)) 27 208 (zA x a sz) := by
  refine Met.ofW (cc := cX1_digest) (maxL := 10) (ret := (some .long)) (by decide) rfl ?_
  intro pp ee s m args below meth c s₁ B9 hml hv
  obtain ⟨rfl, hsz, hP, hK, hD0⟩ := hv
  subst hsz
  have hD := mW_zA (sz := s.heap.size) hD0
  have hS : va_S (zA x a s.heap.size) s.heap s.heap [] := va_S.rf
  have hx := B9.exec
  have hb := B9.bytes
  have hr := B9.returns
  have hts := atoms_spec (ws := wsX1_digest) B9.pre
  have hown : s.vm.findClass RX1 = some m.cls := findClass_of_methodNamed B9.named
  have hlocks := B9.notSynchronized
  have hin0 : ∀ w ∈ wsX10, w ∈ wsX1_digest := by decide +kernel
  have w_0 := hts (.fieldLink RX1 35 "ApologyLedgerModel" "thrown" "I") (by decide +kernel)
  have w_1 := hts (.arrayClass .int) (by decide +kernel)
  have w_2 := hts (.fieldLink RX1 102 "ApologyLedgerModel" "day" "I") (by decide +kernel)
  have w_3 := hts (.fieldLink RX1 39 "ApologyLedgerModel" "persons" "I") (by decide +kernel)
  have w_4 := hts (.fieldLink RX1 46 "ApologyLedgerModel" "slights" "I") (by decide +kernel)
  have w_5 := hts (.fieldLink RX1 89 "ApologyLedgerModel" "scorned" "I") (by decide +kernel)
  have w_6 := hts (.constantLong RX1 143 2027) (by decide +kernel)
  have w_7 := hts (.fieldLink RX1 23 "ApologyLedgerModel" "weight" "[I") (by decide +kernel)
  have w_8 := hts (.fieldLink RX1 26 "ApologyLedgerModel" "state" "[I") (by decide +kernel)
  have w_9 := hts (.fieldLink RX1 29 "ApologyLedgerModel" "borne" "[I") (by decide +kernel)
  have w_10 := hts (.fieldLink RX1 32 "ApologyLedgerModel" "quiet" "[I") (by decide +kernel)
  have w_11 := hts (.constantLong RX1 145 31) (by decide +kernel)
  have w_12 := hts (.fieldLink RX1 13 "ApologyLedgerModel" "isHere" "[Z") (by decide +kernel)
  have w_13 := hts (.fieldLink RX1 9 "ApologyLedgerModel" "pride" "[I") (by decide +kernel)
  have hl := lv_entry ([.ref x]) (n := 10) (Nat.le_of_ble_eq_true rfl)
  rw [lg_entry_eq]
  generalize (lg_sl ([.ref x]) ++ List.replicate (10 - (lg_sl ([.ref x])).length) Slot.unset).toArray = ls at hl ⊢
  have hl : lv_has ls 10 [(0, .ref x)] := hl
  have hIn := hI.n
  have hIb := hI.b
  have hA : ∀ q, s.heap.size ≤ q → zA x a s.heap.size q := fun q h => Or.inr (Or.inr h)
  refine lv_aload_n hx hb dX1_digest_0 rfl (lv_at hl 0 rfl) ?_
  refine lv_iconst (v := iI 0) hx hb dX1_digest_1 rfl ?_
  refine z_re (v' := iI ((0 : Nat) : Int)) (congrArg iI (by omega)) ?_
  refine m_put hx hb hts hin0 hown hK hP hD hS 0 rfl 0 (by decide) w_0 rfl (by decide +kernel) (Nat.le_of_ble_eq_true rfl) mW_put0 dX1_digest_2 (fun H locs hP hD hS => ?_)
  refine lv_bipush (v := iI 12) hx hb dX1_digest_5 (by decide) ?_
  refine z_newi (N := 12) hx hb w_1 hK hP hD hS hA (by decide) (by show 0 + 1 ≤ 27; omega) (by show 0 + 12 ≤ 208; omega) dX1_digest_7 (fun q_1 H hP hD hS => ?_)
  obtain ⟨f_2, ef_2⟩ : ∃ y : Nat → Int32, y = fun _ => 0 := ⟨_, rfl⟩
  have hP : va_P G.1 vwCl (mW G x a 0 σ ++ [(q_1, .inl (G.2.1, 12, .inl f_2))]) H := by rw [ef_2]; exact hP
  have hD : va_D (zA x a s.heap.size) (mW G x a 0 σ ++ [(q_1, .inl (G.2.1, 12, .inl f_2))]) := by rw [ef_2]; exact hD
  refine lv_dup hx hb dX1_digest_9 rfl ?_
  refine lv_iconst (v := iI 0) hx hb dX1_digest_10 rfl ?_
  refine lv_aload_n hx hb dX1_digest_11 rfl (lv_at hl 0 rfl) ?_
  refine m_get (v := .int (iI (σ.1 2 : Nat))) hx hb hts hin0 hown hK hP 0 rfl 1 (by decide) w_2 rfl dX1_digest_12 ?_
  refine z_iast (v := iI (σ.1 2 : Nat)) hx hb hK hP hD hS 9 0 rfl rfl (k := 0) (by decide) (by decide) rfl dX1_digest_15 (fun H locs hP hD hS => ?_)
  obtain ⟨f_3, ef_3⟩ : ∃ y : Nat → Int32, y = upd f_2 0 (iI (σ.1 2 : Nat)) := ⟨_, rfl⟩
  have hP : va_P G.1 vwCl (mW G x a 0 σ ++ [(q_1, .inl (G.2.1, 12, .inl f_3))]) H := by rw [ef_3]; exact hP
  have hD : va_D (zA x a s.heap.size) (mW G x a 0 σ ++ [(q_1, .inl (G.2.1, 12, .inl f_3))]) := by rw [ef_3]; exact hD
  refine lv_dup hx hb dX1_digest_16 rfl ?_
  refine lv_iconst (v := iI 1) hx hb dX1_digest_17 rfl ?_
  refine lv_aload_n hx hb dX1_digest_18 rfl (lv_at hl 0 rfl) ?_
  refine m_get (v := .int (iI (σ.1 0 : Nat))) hx hb hts hin0 hown hK hP 0 rfl 3 (by decide) w_3 rfl dX1_digest_19 ?_
  refine z_iast (v := iI (σ.1 0 : Nat)) hx hb hK hP hD hS 9 0 rfl rfl (k := 1) (by decide) (by decide) rfl dX1_digest_22 (fun H locs hP hD hS => ?_)
  obtain ⟨f_4, ef_4⟩ : ∃ y : Nat → Int32, y = upd f_3 1 (iI (σ.1 0 : Nat)) := ⟨_, rfl⟩
  have hP : va_P G.1 vwCl (mW G x a 0 σ ++ [(q_1, .inl (G.2.1, 12, .inl f_4))]) H := by rw [ef_4]; exact hP
  have hD : va_D (zA x a s.heap.size) (mW G x a 0 σ ++ [(q_1, .inl (G.2.1, 12, .inl f_4))]) := by rw [ef_4]; exact hD
  refine lv_dup hx hb dX1_digest_23 rfl ?_
  refine lv_iconst (v := iI 2) hx hb dX1_digest_24 rfl ?_
  refine lv_aload_n hx hb dX1_digest_25 rfl (lv_at hl 0 rfl) ?_
  refine m_get (v := .int (iI (σ.1 1 : Nat))) hx hb hts hin0 hown hK hP 0 rfl 6 (by decide) w_4 rfl dX1_digest_26 ?_
  refine z_iast (v := iI (σ.1 1 : Nat)) hx hb hK hP hD hS 9 0 rfl rfl (k := 2) (by decide) (by decide) rfl dX1_digest_29 (fun H locs hP hD hS => ?_)
  obtain ⟨f_5, ef_5⟩ : ∃ y : Nat → Int32, y = upd f_4 2 (iI (σ.1 1 : Nat)) := ⟨_, rfl⟩
  have hP : va_P G.1 vwCl (mW G x a 0 σ ++ [(q_1, .inl (G.2.1, 12, .inl f_5))]) H := by rw [ef_5]; exact hP
  have hD : va_D (zA x a s.heap.size) (mW G x a 0 σ ++ [(q_1, .inl (G.2.1, 12, .inl f_5))]) := by rw [ef_5]; exact hD
  refine lv_dup hx hb dX1_digest_30 rfl ?_
  refine lv_iconst (v := iI 3) hx hb dX1_digest_31 rfl ?_
  refine lv_aload_n hx hb dX1_digest_32 rfl (lv_at hl 0 rfl) ?_
  refine zc_i (va_runV (As := []) (rest := [.int (iI 3), .ref q_1, .ref q_1]) ⟨hx, hb, hml, hown, hts⟩ (c_X1_here l G x a B σ 0 hI) (cwV 0 hts gX1_digest_X1_here rfl rfl rfl (by decide +kernel) ⟨Nat.le_of_ble_eq_true rfl, Nat.le_of_ble_eq_true rfl⟩) (preVM hK (va_Pl hP)) rfl rfl hl.1 rfl (lv_room (Nat.le_of_ble_eq_true rfl)) dX1_digest_33 ⟨(by show (0 + 1) + 0 ≤ 27; omega), (by show (0 + 12) + 0 ≤ 208; omega)⟩) ?_
  have f_6 := inh_bd hI
  refine z_iast (v := iI (inh σ)) hx hb hK hP hD hS 9 0 rfl rfl (k := 3) (by decide) (by decide) rfl dX1_digest_36 (fun H locs hP hD hS => ?_)
  obtain ⟨f_7, ef_7⟩ : ∃ y : Nat → Int32, y = upd f_5 3 (iI (inh σ)) := ⟨_, rfl⟩
  have hP : va_P G.1 vwCl (mW G x a 0 σ ++ [(q_1, .inl (G.2.1, 12, .inl f_7))]) H := by rw [ef_7]; exact hP
  have hD : va_D (zA x a s.heap.size) (mW G x a 0 σ ++ [(q_1, .inl (G.2.1, 12, .inl f_7))]) := by rw [ef_7]; exact hD
  refine lv_dup hx hb dX1_digest_37 rfl ?_
  refine lv_iconst (v := iI 4) hx hb dX1_digest_38 rfl ?_
  refine lv_aload_n hx hb dX1_digest_39 rfl (lv_at hl 0 rfl) ?_
  refine m_get (v := .int (iI (σ.1 3 : Nat))) hx hb hts hin0 hown hK hP 0 rfl 2 (by decide) w_5 rfl dX1_digest_40 ?_
  refine z_iast (v := iI (σ.1 3 : Nat)) hx hb hK hP hD hS 9 0 rfl rfl (k := 4) (by decide) (by decide) rfl dX1_digest_43 (fun H locs hP hD hS => ?_)
  obtain ⟨f_8, ef_8⟩ : ∃ y : Nat → Int32, y = upd f_7 4 (iI (σ.1 3 : Nat)) := ⟨_, rfl⟩
  have hP : va_P G.1 vwCl (mW G x a 0 σ ++ [(q_1, .inl (G.2.1, 12, .inl f_8))]) H := by rw [ef_8]; exact hP
  have hD : va_D (zA x a s.heap.size) (mW G x a 0 σ ++ [(q_1, .inl (G.2.1, 12, .inl f_8))]) := by rw [ef_8]; exact hD
  refine lv_dup hx hb dX1_digest_44 rfl ?_
  refine lv_iconst (v := iI 5) hx hb dX1_digest_45 rfl ?_
  refine lv_aload_n hx hb dX1_digest_46 rfl (lv_at hl 0 rfl) ?_
  refine zc_i (va_runV (As := []) (rest := [.int (iI 5), .ref q_1, .ref q_1]) ⟨hx, hb, hml, hown, hts⟩ (c_X1_sore l G x a B σ 0 hI) (cwV 0 hts gX1_digest_X1_sore rfl rfl rfl (by decide +kernel) ⟨Nat.le_of_ble_eq_true rfl, Nat.le_of_ble_eq_true rfl⟩) (preVM hK (va_Pl hP)) rfl rfl hl.1 rfl (lv_room (Nat.le_of_ble_eq_true rfl)) dX1_digest_47 ⟨(by show (0 + 1) + 0 ≤ 27; omega), (by show (0 + 12) + 0 ≤ 208; omega)⟩) ?_
  refine z_iast (v := iI (sor σ)) hx hb hK hP hD hS 9 0 rfl rfl (k := 5) (by decide) (by decide) rfl dX1_digest_50 (fun H locs hP hD hS => ?_)
  obtain ⟨f_9, ef_9⟩ : ∃ y : Nat → Int32, y = upd f_8 5 (iI (sor σ)) := ⟨_, rfl⟩
  have hP : va_P G.1 vwCl (mW G x a 0 σ ++ [(q_1, .inl (G.2.1, 12, .inl f_9))]) H := by rw [ef_9]; exact hP
  have hD : va_D (zA x a s.heap.size) (mW G x a 0 σ ++ [(q_1, .inl (G.2.1, 12, .inl f_9))]) := by rw [ef_9]; exact hD
  refine lv_dup hx hb dX1_digest_51 rfl ?_
  refine lv_bipush (v := iI 6) hx hb dX1_digest_52 (by decide) ?_
  refine lv_aload_n hx hb dX1_digest_54 rfl (lv_at hl 0 rfl) ?_
  refine lv_iconst (v := iI 0) hx hb dX1_digest_55 rfl ?_
  refine zc_i (va_runV (As := [.int (iI 0)]) (rest := [.int (iI 6), .ref q_1, .ref q_1]) ⟨hx, hb, hml, hown, hts⟩ (c_X1_count l G x a B σ 0 0 hI (by omega)) (cwV 1 hts gX1_digest_X1_count rfl rfl rfl (by decide +kernel) ⟨Nat.le_of_ble_eq_true rfl, Nat.le_of_ble_eq_true rfl⟩) (preVM hK (va_Pl hP)) rfl rfl hl.1 rfl (lv_room (Nat.le_of_ble_eq_true rfl)) dX1_digest_56 ⟨(by show (0 + 1) + 0 ≤ 27; omega), (by show (0 + 12) + 0 ≤ 208; omega)⟩) ?_
  have f_10 := cnt_bd hI 0
  refine z_iast (v := iI (cnt σ 0)) hx hb hK hP hD hS 9 0 rfl rfl (k := 6) (by decide) (by decide) rfl dX1_digest_59 (fun H locs hP hD hS => ?_)
  obtain ⟨f_11, ef_11⟩ : ∃ y : Nat → Int32, y = upd f_9 6 (iI (cnt σ 0)) := ⟨_, rfl⟩
  have hP : va_P G.1 vwCl (mW G x a 0 σ ++ [(q_1, .inl (G.2.1, 12, .inl f_11))]) H := by rw [ef_11]; exact hP
  have hD : va_D (zA x a s.heap.size) (mW G x a 0 σ ++ [(q_1, .inl (G.2.1, 12, .inl f_11))]) := by rw [ef_11]; exact hD
  refine lv_dup hx hb dX1_digest_60 rfl ?_
  refine lv_bipush (v := iI 7) hx hb dX1_digest_61 (by decide) ?_
  refine lv_aload_n hx hb dX1_digest_63 rfl (lv_at hl 0 rfl) ?_
  refine lv_iconst (v := iI 1) hx hb dX1_digest_64 rfl ?_
  refine zc_i (va_runV (As := [.int (iI 1)]) (rest := [.int (iI 7), .ref q_1, .ref q_1]) ⟨hx, hb, hml, hown, hts⟩ (c_X1_count l G x a B σ 0 1 hI (by omega)) (cwV 1 hts gX1_digest_X1_count rfl rfl rfl (by decide +kernel) ⟨Nat.le_of_ble_eq_true rfl, Nat.le_of_ble_eq_true rfl⟩) (preVM hK (va_Pl hP)) rfl rfl hl.1 rfl (lv_room (Nat.le_of_ble_eq_true rfl)) dX1_digest_65 ⟨(by show (0 + 1) + 0 ≤ 27; omega), (by show (0 + 12) + 0 ≤ 208; omega)⟩) ?_
  have f_12 := cnt_bd hI 1
  refine z_iast (v := iI (cnt σ 1)) hx hb hK hP hD hS 9 0 rfl rfl (k := 7) (by decide) (by decide) rfl dX1_digest_68 (fun H locs hP hD hS => ?_)
  obtain ⟨f_13, ef_13⟩ : ∃ y : Nat → Int32, y = upd f_11 7 (iI (cnt σ 1)) := ⟨_, rfl⟩
  have hP : va_P G.1 vwCl (mW G x a 0 σ ++ [(q_1, .inl (G.2.1, 12, .inl f_13))]) H := by rw [ef_13]; exact hP
  have hD : va_D (zA x a s.heap.size) (mW G x a 0 σ ++ [(q_1, .inl (G.2.1, 12, .inl f_13))]) := by rw [ef_13]; exact hD
  refine lv_dup hx hb dX1_digest_69 rfl ?_
  refine lv_bipush (v := iI 8) hx hb dX1_digest_70 (by decide) ?_
  refine lv_aload_n hx hb dX1_digest_72 rfl (lv_at hl 0 rfl) ?_
  refine lv_iconst (v := iI 2) hx hb dX1_digest_73 rfl ?_
  refine zc_i (va_runV (As := [.int (iI 2)]) (rest := [.int (iI 8), .ref q_1, .ref q_1]) ⟨hx, hb, hml, hown, hts⟩ (c_X1_count l G x a B σ 0 2 hI (by omega)) (cwV 1 hts gX1_digest_X1_count rfl rfl rfl (by decide +kernel) ⟨Nat.le_of_ble_eq_true rfl, Nat.le_of_ble_eq_true rfl⟩) (preVM hK (va_Pl hP)) rfl rfl hl.1 rfl (lv_room (Nat.le_of_ble_eq_true rfl)) dX1_digest_74 ⟨(by show (0 + 1) + 0 ≤ 27; omega), (by show (0 + 12) + 0 ≤ 208; omega)⟩) ?_
  have f_14 := cnt_bd hI 2
  refine z_iast (v := iI (cnt σ 2)) hx hb hK hP hD hS 9 0 rfl rfl (k := 8) (by decide) (by decide) rfl dX1_digest_77 (fun H locs hP hD hS => ?_)
  obtain ⟨f_15, ef_15⟩ : ∃ y : Nat → Int32, y = upd f_13 8 (iI (cnt σ 2)) := ⟨_, rfl⟩
  have hP : va_P G.1 vwCl (mW G x a 0 σ ++ [(q_1, .inl (G.2.1, 12, .inl f_15))]) H := by rw [ef_15]; exact hP
  have hD : va_D (zA x a s.heap.size) (mW G x a 0 σ ++ [(q_1, .inl (G.2.1, 12, .inl f_15))]) := by rw [ef_15]; exact hD
  refine lv_dup hx hb dX1_digest_78 rfl ?_
  refine lv_bipush (v := iI 9) hx hb dX1_digest_79 (by decide) ?_
  refine lv_aload_n hx hb dX1_digest_81 rfl (lv_at hl 0 rfl) ?_
  refine lv_iconst (v := iI 3) hx hb dX1_digest_82 rfl ?_
  refine zc_i (va_runV (As := [.int (iI 3)]) (rest := [.int (iI 9), .ref q_1, .ref q_1]) ⟨hx, hb, hml, hown, hts⟩ (c_X1_count l G x a B σ 0 3 hI (by omega)) (cwV 1 hts gX1_digest_X1_count rfl rfl rfl (by decide +kernel) ⟨Nat.le_of_ble_eq_true rfl, Nat.le_of_ble_eq_true rfl⟩) (preVM hK (va_Pl hP)) rfl rfl hl.1 rfl (lv_room (Nat.le_of_ble_eq_true rfl)) dX1_digest_83 ⟨(by show (0 + 1) + 0 ≤ 27; omega), (by show (0 + 12) + 0 ≤ 208; omega)⟩) ?_
  have f_16 := cnt_bd hI 3
  refine z_iast (v := iI (cnt σ 3)) hx hb hK hP hD hS 9 0 rfl rfl (k := 9) (by decide) (by decide) rfl dX1_digest_86 (fun H locs hP hD hS => ?_)
  obtain ⟨f_17, ef_17⟩ : ∃ y : Nat → Int32, y = upd f_15 9 (iI (cnt σ 3)) := ⟨_, rfl⟩
  have hP : va_P G.1 vwCl (mW G x a 0 σ ++ [(q_1, .inl (G.2.1, 12, .inl f_17))]) H := by rw [ef_17]; exact hP
  have hD : va_D (zA x a s.heap.size) (mW G x a 0 σ ++ [(q_1, .inl (G.2.1, 12, .inl f_17))]) := by rw [ef_17]; exact hD
  refine lv_dup hx hb dX1_digest_87 rfl ?_
  refine lv_bipush (v := iI 10) hx hb dX1_digest_88 (by decide) ?_
  refine lv_aload_n hx hb dX1_digest_90 rfl (lv_at hl 0 rfl) ?_
  refine zc_i (va_runV (As := []) (rest := [.int (iI 10), .ref q_1, .ref q_1]) ⟨hx, hb, hml, hown, hts⟩ (c_X1_heavy l G x a B σ 0 hI) (cwV 0 hts gX1_digest_X1_heavy rfl rfl rfl (by decide +kernel) ⟨Nat.le_of_ble_eq_true rfl, Nat.le_of_ble_eq_true rfl⟩) (preVM hK (va_Pl hP)) rfl rfl hl.1 rfl (lv_room (Nat.le_of_ble_eq_true rfl)) dX1_digest_91 ⟨(by show (0 + 1) + 0 ≤ 27; omega), (by show (0 + 12) + 0 ≤ 208; omega)⟩) ?_
  refine z_iast (v := iI (hea σ)) hx hb hK hP hD hS 9 0 rfl rfl (k := 10) (by decide) (by decide) rfl dX1_digest_94 (fun H locs hP hD hS => ?_)
  obtain ⟨f_18, ef_18⟩ : ∃ y : Nat → Int32, y = upd f_17 10 (iI (hea σ)) := ⟨_, rfl⟩
  have hP : va_P G.1 vwCl (mW G x a 0 σ ++ [(q_1, .inl (G.2.1, 12, .inl f_18))]) H := by rw [ef_18]; exact hP
  have hD : va_D (zA x a s.heap.size) (mW G x a 0 σ ++ [(q_1, .inl (G.2.1, 12, .inl f_18))]) := by rw [ef_18]; exact hD
  refine lv_dup hx hb dX1_digest_95 rfl ?_
  refine lv_bipush (v := iI 11) hx hb dX1_digest_96 (by decide) ?_
  refine lv_aload_n hx hb dX1_digest_98 rfl (lv_at hl 0 rfl) ?_
  refine zc_i (va_runV (As := []) (rest := [.int (iI 11), .ref q_1, .ref q_1]) ⟨hx, hb, hml, hown, hts⟩ (c_X1_pairs l G x a B σ 0 hI) (cwV 0 hts gX1_digest_X1_pairs rfl rfl rfl (by decide +kernel) ⟨Nat.le_of_ble_eq_true rfl, Nat.le_of_ble_eq_true rfl⟩) (preVM hK (va_Pl hP)) rfl rfl hl.1 rfl (lv_room (Nat.le_of_ble_eq_true rfl)) dX1_digest_99 ⟨(by show (0 + 1) + 0 ≤ 27; omega), (by show (0 + 12) + 0 ≤ 208; omega)⟩) ?_
  refine z_iast (v := iI (pai σ)) hx hb hK hP hD hS 9 0 rfl rfl (k := 11) (by decide) (by decide) rfl dX1_digest_102 (fun H locs hP hD hS => ?_)
  obtain ⟨f_19, ef_19⟩ : ∃ y : Nat → Int32, y = upd f_18 11 (iI (pai σ)) := ⟨_, rfl⟩
  have hP : va_P G.1 vwCl (mW G x a 0 σ ++ [(q_1, .inl (G.2.1, 12, .inl f_19))]) H := by rw [ef_19]; exact hP
  have hD : va_D (zA x a s.heap.size) (mW G x a 0 σ ++ [(q_1, .inl (G.2.1, 12, .inl f_19))]) := by rw [ef_19]; exact hD
  have hf_20 : ∀ z, z < 12 → f_19 z = iI ((dgW σ).getD z 0) := by
    intro z hz
    rcases (show z = 0 ∨ z = 1 ∨ z = 2 ∨ z = 3 ∨ z = 4 ∨ z = 5 ∨ z = 6 ∨ z = 7 ∨ z = 8 ∨ z = 9 ∨ z = 10 ∨ z = 11 by omega) with h | h | h | h | h | h | h | h | h | h | h | h <;> subst h <;> simp [ef_2, ef_3, ef_4, ef_5, ef_7, ef_8, ef_9, ef_11, ef_13, ef_15, ef_17, ef_18, ef_19, upd, dgW, dgP, dgS]
  refine lv_astore_n (lv' := [(1, .ref q_1), (0, .ref x)]) hx hb dX1_digest_103 rfl hl (by decide) rfl (fun ls hl => ?_)
  refine lv_ldc2 hx hb hown w_6 dX1_digest_104 ?_
  refine lv_lstore_n (lv' := [(2, .long 2027), (1, .ref q_1), (0, .ref x)]) hx hb dX1_digest_107 rfl hl (by decide) rfl (fun ls hl => ?_)
  refine lv_aload_n hx hb dX1_digest_108 rfl (lv_at hl 1 rfl) ?_
  refine lv_astore (lv' := [(4, .ref q_1), (2, .long 2027), (1, .ref q_1), (0, .ref x)]) hx hb dX1_digest_109 hl (by decide) rfl (fun ls hl => ?_)
  refine lv_aload hx hb dX1_digest_111 (lv_at hl 0 rfl) ?_
  refine va_alen (v := iI 12) hx hb hK hP 9 0 rfl rfl rfl dX1_digest_113 ?_
  refine lv_istore (lv' := [(5, .int (iI 12)), (4, .ref q_1), (2, .long 2027), (1, .ref q_1), (0, .ref x)]) hx hb dX1_digest_114 hl (by decide) rfl (fun ls hl => ?_)
  refine lv_iconst (v := iI 0) hx hb dX1_digest_116 rfl ?_
  refine lv_istore (lv' := [(6, .int (iI 0)), (5, .int (iI 12)), (4, .ref q_1), (2, .long 2027), (1, .ref q_1), (0, .ref x)]) hx hb dX1_digest_117 hl (by decide) rfl (fun ls hl => ?_)
  have LP119 : ∀ (r119 : Nat) (z : Nat) (d0 : Int64), z ≤ 12 → 12 - z < r119 → d0 = dgl (2027) (List.take z (dgW σ)) → ∀ (ls : Array Slot), lv_has ls 10 [(6, .int (iI (z : Int))), (5, .int (iI 12)), (4, .ref q_1), (2, .long d0), (1, .ref q_1), (0, .ref x)] → W pp l ee (headSpec wsX1_digest ({ frames := 4, cells := 27, slots := 208, locals := 93 } : Room)).room s m ([.ref x] : List Value).toArray below meth c H locs (0 + 1) (0 + 12) (MQ below (va_Ql (fun r (_ : Unit) => r = (dig σ)) (fun _ t9 => va_P G.1 vwCl (mW G x a 0 σ) t9.heap) (zA x a s.heap.size)) ([.ref x] : List Value).toArray s 27 208 (zA x a s.heap.size)) (F0 m 119 ls []) := by
    intro r119
    induction r119 with
    | zero => intro z d0 hv119_0 hv119_1; exfalso; omega
    | succ r119 ih119 =>
      intro z d0 hv119_0 hv119_1 hv119_2 ls hl
      refine lv_iload hx hb dX1_digest_119 (lv_at hl 0 rfl) ?_
      refine lv_iload hx hb dX1_digest_121 (lv_at hl 1 rfl) ?_
      refine z_icmp_ge (tgt := 149) hx hb dX1_digest_123 (by decide) (by omega) (by omega) (fun c_21 => ?_) (fun c_21 => ?_)
      ·
        refine lv_iconst (v := iI 0) hx hb dX1_digest_149 rfl ?_
        refine lv_istore (lv' := [(4, .int (iI 0)), (6, .int (iI (z : Int))), (5, .int (iI 12)), (2, .long d0), (1, .ref q_1), (0, .ref x)]) hx hb dX1_digest_150 hl (by decide) rfl (fun ls hl => ?_)
        have LP152 : ∀ (r152 : Nat) (j : Nat) (d1 : Int64), j ≤ σ.1 0 → σ.1 0 - j < r152 → d1 = dgp σ (dgl 2027 (dgW σ)) j → ∀ (H : Heap) (locs : List Loc) (ls : Array Slot), va_P G.1 vwCl (mW G x a 0 σ) H → va_D (zA x a s.heap.size) (mW G x a 0 σ) → va_S (zA x a s.heap.size) s.heap H locs → lv_has ls 10 [(4, .int (iI (j : Int))), (2, .long d1), (0, .ref x)] → W pp l ee (headSpec wsX1_digest ({ frames := 4, cells := 27, slots := 208, locals := 93 } : Room)).room s m ([.ref x] : List Value).toArray below meth c H locs (1 + j) (12 + 6 * j) (MQ below (va_Ql (fun r (_ : Unit) => r = (dig σ)) (fun _ t9 => va_P G.1 vwCl (mW G x a 0 σ) t9.heap) (zA x a s.heap.size)) ([.ref x] : List Value).toArray s 27 208 (zA x a s.heap.size)) (F0 m 152 ls []) := by
          intro r152
          induction r152 with
          | zero => intro j d1 hv152_0 hv152_1; exfalso; omega
          | succ r152 ih152 =>
            intro j d1 hv152_0 hv152_1 hv152_2 H locs ls hP hD hS hl
            refine lv_iload hx hb dX1_digest_152 (lv_at hl 0 rfl) ?_
            refine lv_aload_n hx hb dX1_digest_154 rfl (lv_at hl 2 rfl) ?_
            refine m_get (v := .int (iI (σ.1 0 : Nat))) hx hb hts hin0 hown hK hP 0 rfl 3 (by decide) w_3 rfl dX1_digest_155 ?_
            refine z_icmp_ge (tgt := 283) hx hb dX1_digest_158 (by decide) (by omega) (by omega) (fun c_22 => ?_) (fun c_22 => ?_)
            ·
              refine lv_iconst (v := iI 0) hx hb dX1_digest_283 rfl ?_
              refine lv_istore (lv' := [(4, .int (iI 0)), (2, .long d1), (0, .ref x)]) hx hb dX1_digest_284 hl (by decide) rfl (fun ls hl => ?_)
              have LP286 : ∀ (r286 : Nat) (i : Nat) (d3 : Int64), i ≤ σ.1 1 → σ.1 1 - i < r286 → d3 = dgs σ (dgp σ (dgl 2027 (dgW σ)) (σ.1 0)) i → ∀ (H : Heap) (locs : List Loc) (ls : Array Slot), va_P G.1 vwCl (mW G x a 0 σ) H → va_D (zA x a s.heap.size) (mW G x a 0 σ) → va_S (zA x a s.heap.size) s.heap H locs → lv_has ls 10 [(4, .int (iI (i : Int))), (2, .long d3), (0, .ref x)] → W pp l ee (headSpec wsX1_digest ({ frames := 4, cells := 27, slots := 208, locals := 93 } : Room)).room s m ([.ref x] : List Value).toArray below meth c H locs (7 + i) (48 + 8 * i) (MQ below (va_Ql (fun r (_ : Unit) => r = (dig σ)) (fun _ t9 => va_P G.1 vwCl (mW G x a 0 σ) t9.heap) (zA x a s.heap.size)) ([.ref x] : List Value).toArray s 27 208 (zA x a s.heap.size)) (F0 m 286 ls []) := by
                intro r286
                induction r286 with
                | zero => intro i d3 hv286_0 hv286_1; exfalso; omega
                | succ r286 ih286 =>
                  intro i d3 hv286_0 hv286_1 hv286_2 H locs ls hP hD hS hl
                  refine lv_iload hx hb dX1_digest_286 (lv_at hl 0 rfl) ?_
                  refine lv_aload_n hx hb dX1_digest_288 rfl (lv_at hl 2 rfl) ?_
                  refine m_get (v := .int (iI (σ.1 1 : Nat))) hx hb hts hin0 hown hK hP 0 rfl 6 (by decide) w_4 rfl dX1_digest_289 ?_
                  refine z_icmp_ge (tgt := 429) hx hb dX1_digest_292 (by decide) (by omega) (by omega) (fun c_23 => ?_) (fun c_23 => ?_)
                  ·
                    refine lv_lload_n hx hb dX1_digest_429 rfl (lv_at hl 1 rfl) ?_
                    refine W.widen (k := 27) (n := 208) (by omega) (by omega) ?_
                    exact W.lret hx hb hr (fun t ht hW => ⟨⟨_, (), rfl, (by rw [hv286_2, show i = σ.1 1 from by omega]; rfl), (by show va_P _ _ _ t.heap; rw [ht]; exact hP)⟩, hS.F ht⟩) hS.2.2 dX1_digest_430
                  ·
                    refine lv_bipush (v := iI 8) hx hb dX1_digest_295 (by decide) ?_
                    refine z_newi (N := 8) hx hb w_1 hK hP hD hS hA (by decide) (by show (7 + i) + 1 ≤ 27; omega) (by show (48 + 8 * i) + 8 ≤ 208; omega) dX1_digest_297 (fun q_24 H hP hD hS => ?_)
                    obtain ⟨f_25, ef_25⟩ : ∃ y : Nat → Int32, y = fun _ => 0 := ⟨_, rfl⟩
                    have hP : va_P G.1 vwCl (mW G x a 0 σ ++ [(q_24, .inl (G.2.1, 8, .inl f_25))]) H := by rw [ef_25]; exact hP
                    have hD : va_D (zA x a s.heap.size) (mW G x a 0 σ ++ [(q_24, .inl (G.2.1, 8, .inl f_25))]) := by rw [ef_25]; exact hD
                    refine lv_dup hx hb dX1_digest_299 rfl ?_
                    refine lv_iconst (v := iI 0) hx hb dX1_digest_300 rfl ?_
                    refine lv_aload_n hx hb dX1_digest_301 rfl (lv_at hl 2 rfl) ?_
                    refine m_get (v := .ref (a 4)) hx hb hts hin0 hown hK hP 0 rfl 9 (by decide) w_7 rfl dX1_digest_302 ?_
                    refine lv_iload hx hb dX1_digest_305 (lv_at hl 0 rfl) ?_
                    refine z_iald (v := iI (σ.2 4 i)) hx hb hK hP 5 0 rfl rfl (k := i) (by omega) (by decide) rfl dX1_digest_307 ?_
                    have f_26 := hI.r4 i
                    refine z_iast (v := iI (σ.2 4 i)) hx hb hK hP hD hS 9 0 rfl rfl (k := 0) (by decide) (by decide) rfl dX1_digest_308 (fun H locs hP hD hS => ?_)
                    obtain ⟨f_27, ef_27⟩ : ∃ y : Nat → Int32, y = upd f_25 0 (iI (σ.2 4 i)) := ⟨_, rfl⟩
                    have hP : va_P G.1 vwCl (mW G x a 0 σ ++ [(q_24, .inl (G.2.1, 8, .inl f_27))]) H := by rw [ef_27]; exact hP
                    have hD : va_D (zA x a s.heap.size) (mW G x a 0 σ ++ [(q_24, .inl (G.2.1, 8, .inl f_27))]) := by rw [ef_27]; exact hD
                    refine lv_dup hx hb dX1_digest_309 rfl ?_
                    refine lv_iconst (v := iI 1) hx hb dX1_digest_310 rfl ?_
                    refine lv_aload_n hx hb dX1_digest_311 rfl (lv_at hl 2 rfl) ?_
                    refine m_get (v := .ref (a 5)) hx hb hts hin0 hown hK hP 0 rfl 10 (by decide) w_8 rfl dX1_digest_312 ?_
                    refine lv_iload hx hb dX1_digest_315 (lv_at hl 0 rfl) ?_
                    refine z_iald (v := iI (σ.2 5 i)) hx hb hK hP 6 0 rfl rfl (k := i) (by omega) (by decide) rfl dX1_digest_317 ?_
                    have f_28 := hI.r5 i
                    refine z_iast (v := iI (σ.2 5 i)) hx hb hK hP hD hS 9 0 rfl rfl (k := 1) (by decide) (by decide) rfl dX1_digest_318 (fun H locs hP hD hS => ?_)
                    obtain ⟨f_29, ef_29⟩ : ∃ y : Nat → Int32, y = upd f_27 1 (iI (σ.2 5 i)) := ⟨_, rfl⟩
                    have hP : va_P G.1 vwCl (mW G x a 0 σ ++ [(q_24, .inl (G.2.1, 8, .inl f_29))]) H := by rw [ef_29]; exact hP
                    have hD : va_D (zA x a s.heap.size) (mW G x a 0 σ ++ [(q_24, .inl (G.2.1, 8, .inl f_29))]) := by rw [ef_29]; exact hD
                    refine lv_dup hx hb dX1_digest_319 rfl ?_
                    refine lv_iconst (v := iI 2) hx hb dX1_digest_320 rfl ?_
                    refine lv_aload_n hx hb dX1_digest_321 rfl (lv_at hl 2 rfl) ?_
                    refine m_get (v := .ref (a 6)) hx hb hts hin0 hown hK hP 0 rfl 11 (by decide) w_9 rfl dX1_digest_322 ?_
                    refine lv_iload hx hb dX1_digest_325 (lv_at hl 0 rfl) ?_
                    refine z_iald (v := iI (σ.2 6 i)) hx hb hK hP 7 0 rfl rfl (k := i) (by omega) (by decide) rfl dX1_digest_327 ?_
                    have f_30 := hI.r6 i
                    refine z_iast (v := iI (σ.2 6 i)) hx hb hK hP hD hS 9 0 rfl rfl (k := 2) (by decide) (by decide) rfl dX1_digest_328 (fun H locs hP hD hS => ?_)
                    obtain ⟨f_31, ef_31⟩ : ∃ y : Nat → Int32, y = upd f_29 2 (iI (σ.2 6 i)) := ⟨_, rfl⟩
                    have hP : va_P G.1 vwCl (mW G x a 0 σ ++ [(q_24, .inl (G.2.1, 8, .inl f_31))]) H := by rw [ef_31]; exact hP
                    have hD : va_D (zA x a s.heap.size) (mW G x a 0 σ ++ [(q_24, .inl (G.2.1, 8, .inl f_31))]) := by rw [ef_31]; exact hD
                    refine lv_dup hx hb dX1_digest_329 rfl ?_
                    refine lv_iconst (v := iI 3) hx hb dX1_digest_330 rfl ?_
                    refine lv_aload_n hx hb dX1_digest_331 rfl (lv_at hl 2 rfl) ?_
                    refine m_get (v := .ref (a 7)) hx hb hts hin0 hown hK hP 0 rfl 12 (by decide) w_10 rfl dX1_digest_332 ?_
                    refine lv_iload hx hb dX1_digest_335 (lv_at hl 0 rfl) ?_
                    refine z_iald (v := iI (σ.2 7 i)) hx hb hK hP 8 0 rfl rfl (k := i) (by omega) (by decide) rfl dX1_digest_337 ?_
                    have f_32 := hI.r7 i
                    refine z_iast (v := iI (σ.2 7 i)) hx hb hK hP hD hS 9 0 rfl rfl (k := 3) (by decide) (by decide) rfl dX1_digest_338 (fun H locs hP hD hS => ?_)
                    obtain ⟨f_33, ef_33⟩ : ∃ y : Nat → Int32, y = upd f_31 3 (iI (σ.2 7 i)) := ⟨_, rfl⟩
                    have hP : va_P G.1 vwCl (mW G x a 0 σ ++ [(q_24, .inl (G.2.1, 8, .inl f_33))]) H := by rw [ef_33]; exact hP
                    have hD : va_D (zA x a s.heap.size) (mW G x a 0 σ ++ [(q_24, .inl (G.2.1, 8, .inl f_33))]) := by rw [ef_33]; exact hD
                    refine lv_dup hx hb dX1_digest_339 rfl ?_
                    refine lv_iconst (v := iI 4) hx hb dX1_digest_340 rfl ?_
                    refine lv_aload_n hx hb dX1_digest_341 rfl (lv_at hl 2 rfl) ?_
                    refine lv_iload hx hb dX1_digest_342 (lv_at hl 0 rfl) ?_
                    refine zc_i (va_runV (As := [.int (iI (i : Int))]) (rest := [.int (iI 4), .ref q_24, .ref q_24]) ⟨hx, hb, hml, hown, hts⟩ (c_X1_witnesses l G x a B σ 0 i hI (by omega)) (cwV 1 hts gX1_digest_X1_witnesses rfl rfl rfl (by decide +kernel) ⟨Nat.le_of_ble_eq_true rfl, Nat.le_of_ble_eq_true rfl⟩) (preVM hK (va_Pl hP)) rfl rfl hl.1 rfl (lv_room (Nat.le_of_ble_eq_true rfl)) dX1_digest_344 ⟨(by show ((7 + i) + 1) + 0 ≤ 27; omega), (by show ((48 + 8 * i) + 8) + 0 ≤ 208; omega)⟩) ?_
                    have f_34 := wit_bd hI i
                    refine z_iast (v := iI (wit σ i)) hx hb hK hP hD hS 9 0 rfl rfl (k := 4) (by decide) (by decide) rfl dX1_digest_347 (fun H locs hP hD hS => ?_)
                    obtain ⟨f_35, ef_35⟩ : ∃ y : Nat → Int32, y = upd f_33 4 (iI (wit σ i)) := ⟨_, rfl⟩
                    have hP : va_P G.1 vwCl (mW G x a 0 σ ++ [(q_24, .inl (G.2.1, 8, .inl f_35))]) H := by rw [ef_35]; exact hP
                    have hD : va_D (zA x a s.heap.size) (mW G x a 0 σ ++ [(q_24, .inl (G.2.1, 8, .inl f_35))]) := by rw [ef_35]; exact hD
                    refine lv_dup hx hb dX1_digest_348 rfl ?_
                    refine lv_iconst (v := iI 5) hx hb dX1_digest_349 rfl ?_
                    refine lv_aload_n hx hb dX1_digest_350 rfl (lv_at hl 2 rfl) ?_
                    refine lv_iload hx hb dX1_digest_351 (lv_at hl 0 rfl) ?_
                    refine zc_i (va_runV (As := [.int (iI (i : Int))]) (rest := [.int (iI 5), .ref q_24, .ref q_24]) ⟨hx, hb, hml, hown, hts⟩ (c_X1_wanted l G x a B σ 0 i hI (by omega)) (cwV 1 hts gX1_digest_X1_wanted rfl rfl rfl (by decide +kernel) ⟨Nat.le_of_ble_eq_true rfl, Nat.le_of_ble_eq_true rfl⟩) (preVM hK (va_Pl hP)) rfl rfl hl.1 rfl (lv_room (Nat.le_of_ble_eq_true rfl)) dX1_digest_353 ⟨(by show ((7 + i) + 1) + 0 ≤ 27; omega), (by show ((48 + 8 * i) + 8) + 0 ≤ 208; omega)⟩) ?_
                    have f_36 := wan_bd σ i
                    refine z_iast (v := iI (wan σ i)) hx hb hK hP hD hS 9 0 rfl rfl (k := 5) (by decide) (by decide) rfl dX1_digest_356 (fun H locs hP hD hS => ?_)
                    obtain ⟨f_37, ef_37⟩ : ∃ y : Nat → Int32, y = upd f_35 5 (iI (wan σ i)) := ⟨_, rfl⟩
                    have hP : va_P G.1 vwCl (mW G x a 0 σ ++ [(q_24, .inl (G.2.1, 8, .inl f_37))]) H := by rw [ef_37]; exact hP
                    have hD : va_D (zA x a s.heap.size) (mW G x a 0 σ ++ [(q_24, .inl (G.2.1, 8, .inl f_37))]) := by rw [ef_37]; exact hD
                    refine lv_dup hx hb dX1_digest_357 rfl ?_
                    refine lv_bipush (v := iI 6) hx hb dX1_digest_358 (by decide) ?_
                    refine lv_aload_n hx hb dX1_digest_360 rfl (lv_at hl 2 rfl) ?_
                    refine lv_iload hx hb dX1_digest_361 (lv_at hl 0 rfl) ?_
                    refine lv_bipush (v := iI 7) hx hb dX1_digest_363 (by decide) ?_
                    refine zc_i (va_runV (As := [.int (iI (i : Int)), .int (iI 7)]) (rest := [.int (iI 6), .ref q_24, .ref q_24]) ⟨hx, hb, hml, hown, hts⟩ (c_X1_later l G x a σ 0 i 7 (by omega) (by omega) (by omega) (by omega) (by omega) (by omega)) (cwV 2 hts gX1_digest_X1_later rfl rfl rfl (by decide +kernel) ⟨Nat.le_of_ble_eq_true rfl, Nat.le_of_ble_eq_true rfl⟩) (preVM hK (va_Pl hP)) rfl rfl hl.1 rfl (lv_room (Nat.le_of_ble_eq_true rfl)) dX1_digest_365 ⟨(by show ((7 + i) + 1) + 0 ≤ 27; omega), (by show ((48 + 8 * i) + 8) + 0 ≤ 208; omega)⟩) ?_
                    have f_38 := @lat_b0 σ i 7 (by omega)
                    refine z_iast (v := iI (lat σ i 7)) hx hb hK hP hD hS 9 0 rfl rfl (k := 6) (by decide) (by decide) rfl dX1_digest_368 (fun H locs hP hD hS => ?_)
                    obtain ⟨f_39, ef_39⟩ : ∃ y : Nat → Int32, y = upd f_37 6 (iI (lat σ i 7)) := ⟨_, rfl⟩
                    have hP : va_P G.1 vwCl (mW G x a 0 σ ++ [(q_24, .inl (G.2.1, 8, .inl f_39))]) H := by rw [ef_39]; exact hP
                    have hD : va_D (zA x a s.heap.size) (mW G x a 0 σ ++ [(q_24, .inl (G.2.1, 8, .inl f_39))]) := by rw [ef_39]; exact hD
                    refine lv_dup hx hb dX1_digest_369 rfl ?_
                    refine lv_bipush (v := iI 7) hx hb dX1_digest_370 (by decide) ?_
                    refine lv_aload_n hx hb dX1_digest_372 rfl (lv_at hl 2 rfl) ?_
                    refine lv_iload hx hb dX1_digest_373 (lv_at hl 0 rfl) ?_
                    refine zc_i (va_runV (As := [.int (iI (i : Int))]) (rest := [.int (iI 7), .ref q_24, .ref q_24]) ⟨hx, hb, hml, hown, hts⟩ (c_X1_until l G x a B σ 0 i hI (by omega)) (cwV 1 hts gX1_digest_X1_until rfl rfl rfl (by decide +kernel) ⟨Nat.le_of_ble_eq_true rfl, Nat.le_of_ble_eq_true rfl⟩) (preVM hK (va_Pl hP)) rfl rfl hl.1 rfl (lv_room (Nat.le_of_ble_eq_true rfl)) dX1_digest_375 ⟨(by show ((7 + i) + 1) + 0 ≤ 27; omega), (by show ((48 + 8 * i) + 8) + 0 ≤ 208; omega)⟩) ?_
                    have f_40 := unt_bd hI i
                    refine z_iast (v := iI (unt σ i)) hx hb hK hP hD hS 9 0 rfl rfl (k := 7) (by decide) (by decide) rfl dX1_digest_378 (fun H locs hP hD hS => ?_)
                    obtain ⟨f_41, ef_41⟩ : ∃ y : Nat → Int32, y = upd f_39 7 (iI (unt σ i)) := ⟨_, rfl⟩
                    have hP : va_P G.1 vwCl (mW G x a 0 σ ++ [(q_24, .inl (G.2.1, 8, .inl f_41))]) H := by rw [ef_41]; exact hP
                    have hD : va_D (zA x a s.heap.size) (mW G x a 0 σ ++ [(q_24, .inl (G.2.1, 8, .inl f_41))]) := by rw [ef_41]; exact hD
                    have hf_42 : ∀ z, z < 8 → f_41 z = iI ((dgS σ i).getD z 0) := by
                      intro z hz
                      rcases (show z = 0 ∨ z = 1 ∨ z = 2 ∨ z = 3 ∨ z = 4 ∨ z = 5 ∨ z = 6 ∨ z = 7 by omega) with h | h | h | h | h | h | h | h <;> subst h <;> simp [ef_25, ef_27, ef_29, ef_31, ef_33, ef_35, ef_37, ef_39, ef_41, upd, dgW, dgP, dgS]
                    refine lv_astore (lv' := [(5, .ref q_24), (4, .int (iI (i : Int))), (2, .long d3), (0, .ref x)]) hx hb dX1_digest_379 hl (by decide) rfl (fun ls hl => ?_)
                    refine lv_aload hx hb dX1_digest_381 (lv_at hl 0 rfl) ?_
                    refine lv_astore (lv' := [(6, .ref q_24), (5, .ref q_24), (4, .int (iI (i : Int))), (2, .long d3), (0, .ref x)]) hx hb dX1_digest_383 hl (by decide) rfl (fun ls hl => ?_)
                    refine lv_aload hx hb dX1_digest_385 (lv_at hl 0 rfl) ?_
                    refine va_alen (v := iI 8) hx hb hK hP 9 0 rfl rfl rfl dX1_digest_387 ?_
                    refine lv_istore (lv' := [(7, .int (iI 8)), (6, .ref q_24), (5, .ref q_24), (4, .int (iI (i : Int))), (2, .long d3), (0, .ref x)]) hx hb dX1_digest_388 hl (by decide) rfl (fun ls hl => ?_)
                    refine lv_iconst (v := iI 0) hx hb dX1_digest_390 rfl ?_
                    refine lv_istore (lv' := [(8, .int (iI 0)), (7, .int (iI 8)), (6, .ref q_24), (5, .ref q_24), (4, .int (iI (i : Int))), (2, .long d3), (0, .ref x)]) hx hb dX1_digest_391 hl (by decide) rfl (fun ls hl => ?_)
                    have LP393 : ∀ (r393 : Nat) (z : Nat) (d4 : Int64), z ≤ 8 → 8 - z < r393 → d4 = dgl (d3) (List.take z (dgS σ i)) → ∀ (ls : Array Slot), lv_has ls 10 [(8, .int (iI (z : Int))), (7, .int (iI 8)), (6, .ref q_24), (5, .ref q_24), (4, .int (iI (i : Int))), (2, .long d4), (0, .ref x)] → W pp l ee (headSpec wsX1_digest ({ frames := 4, cells := 27, slots := 208, locals := 93 } : Room)).room s m ([.ref x] : List Value).toArray below meth c H locs ((7 + i) + 1) ((48 + 8 * i) + 8) (MQ below (va_Ql (fun r (_ : Unit) => r = (dig σ)) (fun _ t9 => va_P G.1 vwCl (mW G x a 0 σ) t9.heap) (zA x a s.heap.size)) ([.ref x] : List Value).toArray s 27 208 (zA x a s.heap.size)) (F0 m 393 ls []) := by
                      intro r393
                      induction r393 with
                      | zero => intro z d4 hv393_0 hv393_1; exfalso; omega
                      | succ r393 ih393 =>
                        intro z d4 hv393_0 hv393_1 hv393_2 ls hl
                        refine lv_iload hx hb dX1_digest_393 (lv_at hl 0 rfl) ?_
                        refine lv_iload hx hb dX1_digest_395 (lv_at hl 1 rfl) ?_
                        refine z_icmp_ge (tgt := 423) hx hb dX1_digest_397 (by decide) (by omega) (by omega) (fun c_43 => ?_) (fun c_43 => ?_)
                        ·
                          refine lv_iinc (v := iI ((i : Int) + 1)) (lv' := [(4, .int (iI ((i : Int) + 1))), (8, .int (iI (z : Int))), (7, .int (iI 8)), (6, .ref q_24), (5, .ref q_24), (2, .long d4), (0, .ref x)]) hx hb dX1_digest_423 hl (k := 4) rfl (iI_add _ _) (by decide) rfl (fun ls hl => ?_)
                          refine lv_goto (tgt := 286) hx hb dX1_digest_426 (by decide) ?_
                          have hP := va_Pl hP
                          have hD := va_Dl hD
                          refine W.widen (k := 7 + (i + 1)) (n := 48 + 8 * (i + 1)) (by omega) (by omega) ?_
                          exact ih286 (i + 1) d4 (by omega) (by omega) (by rw [hv393_2, show z = 8 from by omega, hv286_2]; rfl) H locs ls hP hD hS (lv_sub hl [0, 5, 6] rfl)
                        ·
                          refine lv_aload hx hb dX1_digest_400 (lv_at hl 2 rfl) ?_
                          refine lv_iload hx hb dX1_digest_402 (lv_at hl 0 rfl) ?_
                          refine z_iald (v := iI ((dgS σ i).getD z 0)) hx hb hK hP 9 0 rfl rfl (k := z) (by omega) (by decide) (hf_42 z (by omega)) dX1_digest_404 ?_
                          refine lv_istore (lv' := [(9, .int (iI ((dgS σ i).getD z 0))), (8, .int (iI (z : Int))), (7, .int (iI 8)), (6, .ref q_24), (5, .ref q_24), (4, .int (iI (i : Int))), (2, .long d4), (0, .ref x)]) hx hb dX1_digest_405 hl (by decide) rfl (fun ls hl => ?_)
                          refine lv_lload_n hx hb dX1_digest_407 rfl (lv_at hl 6 rfl) ?_
                          refine lv_ldc2 hx hb hown w_11 dX1_digest_408 ?_
                          refine lv_lmul hx hb dX1_digest_411 ?_
                          refine lv_iload hx hb dX1_digest_412 (lv_at hl 0 rfl) ?_
                          refine lv_i2l (v := (iI ((dgS σ i).getD z 0)).toInt64) hx hb dX1_digest_414 rfl ?_
                          refine lv_ladd hx hb dX1_digest_415 ?_
                          refine lv_lstore_n (lv' := [(2, .long ((d4 * 31) + ((iI ((dgS σ i).getD z 0)).toInt64))), (9, .int (iI ((dgS σ i).getD z 0))), (8, .int (iI (z : Int))), (7, .int (iI 8)), (6, .ref q_24), (5, .ref q_24), (4, .int (iI (i : Int))), (0, .ref x)]) hx hb dX1_digest_416 rfl hl (by decide) rfl (fun ls hl => ?_)
                          refine lv_iinc (v := iI ((z : Int) + 1)) (lv' := [(8, .int (iI ((z : Int) + 1))), (2, .long ((d4 * 31) + ((iI ((dgS σ i).getD z 0)).toInt64))), (9, .int (iI ((dgS σ i).getD z 0))), (7, .int (iI 8)), (6, .ref q_24), (5, .ref q_24), (4, .int (iI (i : Int))), (0, .ref x)]) hx hb dX1_digest_417 hl (k := 2) rfl (iI_add _ _) (by decide) rfl (fun ls hl => ?_)
                          refine lv_goto (tgt := 393) hx hb dX1_digest_420 (by decide) ?_
                          exact ih393 (z + 1) ((d4 * 31) + ((iI ((dgS σ i).getD z 0)).toInt64)) (by omega) (by omega) (by rw [hv393_2]; exact (dgl_take _ (dgS σ i) z (by show _ < 8; omega)).symm) ls (lv_sub hl [0, 3, 4, 5, 6, 1, 7] rfl)
                    exact LP393 (8 - (0) + 1) 0 d3 (by omega) (by omega) (by rfl) ls (lv_sub hl [0, 1, 2, 3, 4, 5, 6] rfl)
              refine W.widen (k := 7 + 0) (n := 48 + 8 * 0) (by omega) (by omega) ?_
              exact LP286 (σ.1 1 - (0) + 1) 0 d1 (by omega) (by omega) (by rw [hv152_2, show j = σ.1 0 from by omega]; rfl) H locs ls hP hD hS (lv_sub hl [0, 1, 2] rfl)
            ·
              refine lv_bipush (v := iI 6) hx hb dX1_digest_161 (by decide) ?_
              refine z_newi (N := 6) hx hb w_1 hK hP hD hS hA (by decide) (by show (1 + j) + 1 ≤ 27; omega) (by show (12 + 6 * j) + 6 ≤ 208; omega) dX1_digest_163 (fun q_44 H hP hD hS => ?_)
              obtain ⟨f_45, ef_45⟩ : ∃ y : Nat → Int32, y = fun _ => 0 := ⟨_, rfl⟩
              have hP : va_P G.1 vwCl (mW G x a 0 σ ++ [(q_44, .inl (G.2.1, 6, .inl f_45))]) H := by rw [ef_45]; exact hP
              have hD : va_D (zA x a s.heap.size) (mW G x a 0 σ ++ [(q_44, .inl (G.2.1, 6, .inl f_45))]) := by rw [ef_45]; exact hD
              refine lv_dup hx hb dX1_digest_165 rfl ?_
              refine lv_iconst (v := iI 0) hx hb dX1_digest_166 rfl ?_
              refine lv_aload_n hx hb dX1_digest_167 rfl (lv_at hl 2 rfl) ?_
              refine m_get (v := .ref (a 1)) hx hb hts hin0 hown hK hP 0 rfl 5 (by decide) w_12 rfl dX1_digest_168 ?_
              refine lv_iload hx hb dX1_digest_171 (lv_at hl 0 rfl) ?_
              refine z_zald (v := iI (σ.2 1 j)) hx hb hK hP 2 1 rfl rfl (k := j) (by omega) (by decide) rfl dX1_digest_173 ?_
              have f_46 := hI.r1 j
              refine z_if_eq (tgt := 181) hx hb dX1_digest_174 (by decide) (by omega) (fun c_47 => ?_) (fun c_47 => ?_)
              ·
                refine lv_iconst (v := iI 0) hx hb dX1_digest_181 rfl ?_
                refine z_iast (v := iI 0) hx hb hK hP hD hS 9 0 rfl rfl (k := 0) (by decide) (by decide) rfl dX1_digest_182 (fun H locs hP hD hS => ?_)
                obtain ⟨f_48, ef_48⟩ : ∃ y : Nat → Int32, y = upd f_45 0 (iI 0) := ⟨_, rfl⟩
                have hP : va_P G.1 vwCl (mW G x a 0 σ ++ [(q_44, .inl (G.2.1, 6, .inl f_48))]) H := by rw [ef_48]; exact hP
                have hD : va_D (zA x a s.heap.size) (mW G x a 0 σ ++ [(q_44, .inl (G.2.1, 6, .inl f_48))]) := by rw [ef_48]; exact hD
                refine lv_dup hx hb dX1_digest_183 rfl ?_
                refine lv_iconst (v := iI 1) hx hb dX1_digest_184 rfl ?_
                refine lv_aload_n hx hb dX1_digest_185 rfl (lv_at hl 2 rfl) ?_
                refine m_get (v := .ref (a 0)) hx hb hts hin0 hown hK hP 0 rfl 4 (by decide) w_13 rfl dX1_digest_186 ?_
                refine lv_iload hx hb dX1_digest_189 (lv_at hl 0 rfl) ?_
                refine z_iald (v := iI (σ.2 0 j)) hx hb hK hP 1 0 rfl rfl (k := j) (by omega) (by decide) rfl dX1_digest_191 ?_
                have f_49 := hI.r0 j
                refine z_iast (v := iI (σ.2 0 j)) hx hb hK hP hD hS 9 0 rfl rfl (k := 1) (by decide) (by decide) rfl dX1_digest_192 (fun H locs hP hD hS => ?_)
                obtain ⟨f_50, ef_50⟩ : ∃ y : Nat → Int32, y = upd f_48 1 (iI (σ.2 0 j)) := ⟨_, rfl⟩
                have hP : va_P G.1 vwCl (mW G x a 0 σ ++ [(q_44, .inl (G.2.1, 6, .inl f_50))]) H := by rw [ef_50]; exact hP
                have hD : va_D (zA x a s.heap.size) (mW G x a 0 σ ++ [(q_44, .inl (G.2.1, 6, .inl f_50))]) := by rw [ef_50]; exact hD
                refine lv_dup hx hb dX1_digest_193 rfl ?_
                refine lv_iconst (v := iI 2) hx hb dX1_digest_194 rfl ?_
                refine lv_aload_n hx hb dX1_digest_195 rfl (lv_at hl 2 rfl) ?_
                refine lv_iconst (v := iI (-1)) hx hb dX1_digest_196 rfl ?_
                refine lv_iload hx hb dX1_digest_197 (lv_at hl 0 rfl) ?_
                refine zc_i (va_runV (As := [.int (iI (-1)), .int (iI (j : Int))]) (rest := [.int (iI 2), .ref q_44, .ref q_44]) ⟨hx, hb, hml, hown, hts⟩ (c_done_b l G x a B σ 0 (j : Int) hI (by omega)) (cwV 2 hts gX1_digest_X1_done rfl rfl rfl (by decide +kernel) ⟨Nat.le_of_ble_eq_true rfl, Nat.le_of_ble_eq_true rfl⟩) (preVM hK (va_Pl hP)) rfl rfl hl.1 rfl (lv_room (Nat.le_of_ble_eq_true rfl)) dX1_digest_199 ⟨(by show ((1 + j) + 1) + 0 ≤ 27; omega), (by show ((12 + 6 * j) + 6) + 0 ≤ 208; omega)⟩) ?_
                have f_51 := bor_bd hI (j : Int)
                refine z_iast (v := iI (bor σ (j : Int))) hx hb hK hP hD hS 9 0 rfl rfl (k := 2) (by decide) (by decide) rfl dX1_digest_202 (fun H locs hP hD hS => ?_)
                obtain ⟨f_52, ef_52⟩ : ∃ y : Nat → Int32, y = upd f_50 2 (iI (bor σ (j : Int))) := ⟨_, rfl⟩
                have hP : va_P G.1 vwCl (mW G x a 0 σ ++ [(q_44, .inl (G.2.1, 6, .inl f_52))]) H := by rw [ef_52]; exact hP
                have hD : va_D (zA x a s.heap.size) (mW G x a 0 σ ++ [(q_44, .inl (G.2.1, 6, .inl f_52))]) := by rw [ef_52]; exact hD
                refine lv_dup hx hb dX1_digest_203 rfl ?_
                refine lv_iconst (v := iI 3) hx hb dX1_digest_204 rfl ?_
                refine lv_aload_n hx hb dX1_digest_205 rfl (lv_at hl 2 rfl) ?_
                refine lv_iload hx hb dX1_digest_206 (lv_at hl 0 rfl) ?_
                refine lv_iconst (v := iI (-1)) hx hb dX1_digest_208 rfl ?_
                refine zc_i (va_runV (As := [.int (iI (j : Int)), .int (iI (-1))]) (rest := [.int (iI 3), .ref q_44, .ref q_44]) ⟨hx, hb, hml, hown, hts⟩ (c_done_o l G x a B σ 0 (j : Int) hI (by omega)) (cwV 2 hts gX1_digest_X1_done rfl rfl rfl (by decide +kernel) ⟨Nat.le_of_ble_eq_true rfl, Nat.le_of_ble_eq_true rfl⟩) (preVM hK (va_Pl hP)) rfl rfl hl.1 rfl (lv_room (Nat.le_of_ble_eq_true rfl)) dX1_digest_209 ⟨(by show ((1 + j) + 1) + 0 ≤ 27; omega), (by show ((12 + 6 * j) + 6) + 0 ≤ 208; omega)⟩) ?_
                have f_53 := owe_bd hI (j : Int)
                refine z_iast (v := iI (owe σ (j : Int))) hx hb hK hP hD hS 9 0 rfl rfl (k := 3) (by decide) (by decide) rfl dX1_digest_212 (fun H locs hP hD hS => ?_)
                obtain ⟨f_54, ef_54⟩ : ∃ y : Nat → Int32, y = upd f_52 3 (iI (owe σ (j : Int))) := ⟨_, rfl⟩
                have hP : va_P G.1 vwCl (mW G x a 0 σ ++ [(q_44, .inl (G.2.1, 6, .inl f_54))]) H := by rw [ef_54]; exact hP
                have hD : va_D (zA x a s.heap.size) (mW G x a 0 σ ++ [(q_44, .inl (G.2.1, 6, .inl f_54))]) := by rw [ef_54]; exact hD
                refine lv_dup hx hb dX1_digest_213 rfl ?_
                refine lv_iconst (v := iI 4) hx hb dX1_digest_214 rfl ?_
                refine lv_aload_n hx hb dX1_digest_215 rfl (lv_at hl 2 rfl) ?_
                refine lv_iload hx hb dX1_digest_216 (lv_at hl 0 rfl) ?_
                refine lv_bipush (v := iI 10) hx hb dX1_digest_218 (by decide) ?_
                refine zc_i (va_runV (As := [.int (iI (j : Int)), .int (iI 10)]) (rest := [.int (iI 4), .ref q_44, .ref q_44]) ⟨hx, hb, hml, hown, hts⟩ (c_X1_borneThen l G x a B σ 0 j 10 hI (by omega) (by omega)) (cwV 2 hts gX1_digest_X1_borneThen rfl rfl rfl (by decide +kernel) ⟨Nat.le_of_ble_eq_true rfl, Nat.le_of_ble_eq_true rfl⟩) (preVM hK (va_Pl hP)) rfl rfl hl.1 rfl (lv_room (Nat.le_of_ble_eq_true rfl)) dX1_digest_220 ⟨(by show ((1 + j) + 1) + 0 ≤ 27; omega), (by show ((12 + 6 * j) + 6) + 0 ≤ 208; omega)⟩) ?_
                have f_55 := bth_bd hI (j : Int) 10
                refine z_iast (v := iI (bth σ (j : Int) 10)) hx hb hK hP hD hS 9 0 rfl rfl (k := 4) (by decide) (by decide) rfl dX1_digest_223 (fun H locs hP hD hS => ?_)
                obtain ⟨f_56, ef_56⟩ : ∃ y : Nat → Int32, y = upd f_54 4 (iI (bth σ (j : Int) 10)) := ⟨_, rfl⟩
                have hP : va_P G.1 vwCl (mW G x a 0 σ ++ [(q_44, .inl (G.2.1, 6, .inl f_56))]) H := by rw [ef_56]; exact hP
                have hD : va_D (zA x a s.heap.size) (mW G x a 0 σ ++ [(q_44, .inl (G.2.1, 6, .inl f_56))]) := by rw [ef_56]; exact hD
                refine lv_dup hx hb dX1_digest_224 rfl ?_
                refine lv_iconst (v := iI 5) hx hb dX1_digest_225 rfl ?_
                refine lv_aload_n hx hb dX1_digest_226 rfl (lv_at hl 2 rfl) ?_
                refine lv_iload hx hb dX1_digest_227 (lv_at hl 0 rfl) ?_
                refine zc_i (va_runV (As := [.int (iI (j : Int))]) (rest := [.int (iI 5), .ref q_44, .ref q_44]) ⟨hx, hb, hml, hown, hts⟩ (c_X1_worst l G x a B σ 0 j hI (by omega)) (cwV 1 hts gX1_digest_X1_worst rfl rfl rfl (by decide +kernel) ⟨Nat.le_of_ble_eq_true rfl, Nat.le_of_ble_eq_true rfl⟩) (preVM hK (va_Pl hP)) rfl rfl hl.1 rfl (lv_room (Nat.le_of_ble_eq_true rfl)) dX1_digest_229 ⟨(by show ((1 + j) + 1) + 0 ≤ 27; omega), (by show ((12 + 6 * j) + 6) + 0 ≤ 208; omega)⟩) ?_
                refine z_iast (v := iI (wor σ (j : Int))) hx hb hK hP hD hS 9 0 rfl rfl (k := 5) (by decide) (by decide) rfl dX1_digest_232 (fun H locs hP hD hS => ?_)
                obtain ⟨f_57, ef_57⟩ : ∃ y : Nat → Int32, y = upd f_56 5 (iI (wor σ (j : Int))) := ⟨_, rfl⟩
                have hP : va_P G.1 vwCl (mW G x a 0 σ ++ [(q_44, .inl (G.2.1, 6, .inl f_57))]) H := by rw [ef_57]; exact hP
                have hD : va_D (zA x a s.heap.size) (mW G x a 0 σ ++ [(q_44, .inl (G.2.1, 6, .inl f_57))]) := by rw [ef_57]; exact hD
                have e01 : (0 : Int) = σ.2 1 j := by omega
                have hf_58 : ∀ z, z < 6 → f_57 z = iI ((dgP σ j).getD z 0) := by
                  intro z hz
                  rcases (show z = 0 ∨ z = 1 ∨ z = 2 ∨ z = 3 ∨ z = 4 ∨ z = 5 by omega) with h | h | h | h | h | h <;> subst h <;> simp [ef_45, ef_48, ef_50, ef_52, ef_54, ef_56, ef_57, upd, dgW, dgP, dgS, e01]
                refine lv_astore (lv' := [(5, .ref q_44), (4, .int (iI (j : Int))), (2, .long d1), (0, .ref x)]) hx hb dX1_digest_233 hl (by decide) rfl (fun ls hl => ?_)
                refine lv_aload hx hb dX1_digest_235 (lv_at hl 0 rfl) ?_
                refine lv_astore (lv' := [(6, .ref q_44), (5, .ref q_44), (4, .int (iI (j : Int))), (2, .long d1), (0, .ref x)]) hx hb dX1_digest_237 hl (by decide) rfl (fun ls hl => ?_)
                refine lv_aload hx hb dX1_digest_239 (lv_at hl 0 rfl) ?_
                refine va_alen (v := iI 6) hx hb hK hP 9 0 rfl rfl rfl dX1_digest_241 ?_
                refine lv_istore (lv' := [(7, .int (iI 6)), (6, .ref q_44), (5, .ref q_44), (4, .int (iI (j : Int))), (2, .long d1), (0, .ref x)]) hx hb dX1_digest_242 hl (by decide) rfl (fun ls hl => ?_)
                refine lv_iconst (v := iI 0) hx hb dX1_digest_244 rfl ?_
                refine lv_istore (lv' := [(8, .int (iI 0)), (7, .int (iI 6)), (6, .ref q_44), (5, .ref q_44), (4, .int (iI (j : Int))), (2, .long d1), (0, .ref x)]) hx hb dX1_digest_245 hl (by decide) rfl (fun ls hl => ?_)
                have LP247 : ∀ (r247 : Nat) (z : Nat) (d2 : Int64), z ≤ 6 → 6 - z < r247 → d2 = dgl (d1) (List.take z (dgP σ j)) → ∀ (ls : Array Slot), lv_has ls 10 [(8, .int (iI (z : Int))), (7, .int (iI 6)), (6, .ref q_44), (5, .ref q_44), (4, .int (iI (j : Int))), (2, .long d2), (0, .ref x)] → W pp l ee (headSpec wsX1_digest ({ frames := 4, cells := 27, slots := 208, locals := 93 } : Room)).room s m ([.ref x] : List Value).toArray below meth c H locs ((1 + j) + 1) ((12 + 6 * j) + 6) (MQ below (va_Ql (fun r (_ : Unit) => r = (dig σ)) (fun _ t9 => va_P G.1 vwCl (mW G x a 0 σ) t9.heap) (zA x a s.heap.size)) ([.ref x] : List Value).toArray s 27 208 (zA x a s.heap.size)) (F0 m 247 ls []) := by
                  intro r247
                  induction r247 with
                  | zero => intro z d2 hv247_0 hv247_1; exfalso; omega
                  | succ r247 ih247 =>
                    intro z d2 hv247_0 hv247_1 hv247_2 ls hl
                    refine lv_iload hx hb dX1_digest_247 (lv_at hl 0 rfl) ?_
                    refine lv_iload hx hb dX1_digest_249 (lv_at hl 1 rfl) ?_
                    refine z_icmp_ge (tgt := 277) hx hb dX1_digest_251 (by decide) (by omega) (by omega) (fun c_59 => ?_) (fun c_59 => ?_)
                    ·
                      refine lv_iinc (v := iI ((j : Int) + 1)) (lv' := [(4, .int (iI ((j : Int) + 1))), (8, .int (iI (z : Int))), (7, .int (iI 6)), (6, .ref q_44), (5, .ref q_44), (2, .long d2), (0, .ref x)]) hx hb dX1_digest_277 hl (k := 4) rfl (iI_add _ _) (by decide) rfl (fun ls hl => ?_)
                      refine lv_goto (tgt := 152) hx hb dX1_digest_280 (by decide) ?_
                      have hP := va_Pl hP
                      have hD := va_Dl hD
                      refine W.widen (k := 1 + (j + 1)) (n := 12 + 6 * (j + 1)) (by omega) (by omega) ?_
                      exact ih152 (j + 1) d2 (by omega) (by omega) (by rw [hv247_2, show z = 6 from by omega, hv152_2]; rfl) H locs ls hP hD hS (lv_sub hl [0, 5, 6] rfl)
                    ·
                      refine lv_aload hx hb dX1_digest_254 (lv_at hl 2 rfl) ?_
                      refine lv_iload hx hb dX1_digest_256 (lv_at hl 0 rfl) ?_
                      refine z_iald (v := iI ((dgP σ j).getD z 0)) hx hb hK hP 9 0 rfl rfl (k := z) (by omega) (by decide) (hf_58 z (by omega)) dX1_digest_258 ?_
                      refine lv_istore (lv' := [(9, .int (iI ((dgP σ j).getD z 0))), (8, .int (iI (z : Int))), (7, .int (iI 6)), (6, .ref q_44), (5, .ref q_44), (4, .int (iI (j : Int))), (2, .long d2), (0, .ref x)]) hx hb dX1_digest_259 hl (by decide) rfl (fun ls hl => ?_)
                      refine lv_lload_n hx hb dX1_digest_261 rfl (lv_at hl 6 rfl) ?_
                      refine lv_ldc2 hx hb hown w_11 dX1_digest_262 ?_
                      refine lv_lmul hx hb dX1_digest_265 ?_
                      refine lv_iload hx hb dX1_digest_266 (lv_at hl 0 rfl) ?_
                      refine lv_i2l (v := (iI ((dgP σ j).getD z 0)).toInt64) hx hb dX1_digest_268 rfl ?_
                      refine lv_ladd hx hb dX1_digest_269 ?_
                      refine lv_lstore_n (lv' := [(2, .long ((d2 * 31) + ((iI ((dgP σ j).getD z 0)).toInt64))), (9, .int (iI ((dgP σ j).getD z 0))), (8, .int (iI (z : Int))), (7, .int (iI 6)), (6, .ref q_44), (5, .ref q_44), (4, .int (iI (j : Int))), (0, .ref x)]) hx hb dX1_digest_270 rfl hl (by decide) rfl (fun ls hl => ?_)
                      refine lv_iinc (v := iI ((z : Int) + 1)) (lv' := [(8, .int (iI ((z : Int) + 1))), (2, .long ((d2 * 31) + ((iI ((dgP σ j).getD z 0)).toInt64))), (9, .int (iI ((dgP σ j).getD z 0))), (7, .int (iI 6)), (6, .ref q_44), (5, .ref q_44), (4, .int (iI (j : Int))), (0, .ref x)]) hx hb dX1_digest_271 hl (k := 2) rfl (iI_add _ _) (by decide) rfl (fun ls hl => ?_)
                      refine lv_goto (tgt := 247) hx hb dX1_digest_274 (by decide) ?_
                      exact ih247 (z + 1) ((d2 * 31) + ((iI ((dgP σ j).getD z 0)).toInt64)) (by omega) (by omega) (by rw [hv247_2]; exact (dgl_take _ (dgP σ j) z (by show _ < 6; omega)).symm) ls (lv_sub hl [0, 3, 4, 5, 6, 1, 7] rfl)
                exact LP247 (6 - (0) + 1) 0 d1 (by omega) (by omega) (by rfl) ls (lv_sub hl [0, 1, 2, 3, 4, 5, 6] rfl)
              ·
                refine lv_iconst (v := iI 1) hx hb dX1_digest_177 rfl ?_
                refine lv_goto (tgt := 182) hx hb dX1_digest_178 (by decide) ?_
                refine z_iast (v := iI 1) hx hb hK hP hD hS 9 0 rfl rfl (k := 0) (by decide) (by decide) rfl dX1_digest_182 (fun H locs hP hD hS => ?_)
                obtain ⟨f_60, ef_60⟩ : ∃ y : Nat → Int32, y = upd f_45 0 (iI 1) := ⟨_, rfl⟩
                have hP : va_P G.1 vwCl (mW G x a 0 σ ++ [(q_44, .inl (G.2.1, 6, .inl f_60))]) H := by rw [ef_60]; exact hP
                have hD : va_D (zA x a s.heap.size) (mW G x a 0 σ ++ [(q_44, .inl (G.2.1, 6, .inl f_60))]) := by rw [ef_60]; exact hD
                refine lv_dup hx hb dX1_digest_183 rfl ?_
                refine lv_iconst (v := iI 1) hx hb dX1_digest_184 rfl ?_
                refine lv_aload_n hx hb dX1_digest_185 rfl (lv_at hl 2 rfl) ?_
                refine m_get (v := .ref (a 0)) hx hb hts hin0 hown hK hP 0 rfl 4 (by decide) w_13 rfl dX1_digest_186 ?_
                refine lv_iload hx hb dX1_digest_189 (lv_at hl 0 rfl) ?_
                refine z_iald (v := iI (σ.2 0 j)) hx hb hK hP 1 0 rfl rfl (k := j) (by omega) (by decide) rfl dX1_digest_191 ?_
                have f_61 := hI.r0 j
                refine z_iast (v := iI (σ.2 0 j)) hx hb hK hP hD hS 9 0 rfl rfl (k := 1) (by decide) (by decide) rfl dX1_digest_192 (fun H locs hP hD hS => ?_)
                obtain ⟨f_62, ef_62⟩ : ∃ y : Nat → Int32, y = upd f_60 1 (iI (σ.2 0 j)) := ⟨_, rfl⟩
                have hP : va_P G.1 vwCl (mW G x a 0 σ ++ [(q_44, .inl (G.2.1, 6, .inl f_62))]) H := by rw [ef_62]; exact hP
                have hD : va_D (zA x a s.heap.size) (mW G x a 0 σ ++ [(q_44, .inl (G.2.1, 6, .inl f_62))]) := by rw [ef_62]; exact hD
                refine lv_dup hx hb dX1_digest_193 rfl ?_
                refine lv_iconst (v := iI 2) hx hb dX1_digest_194 rfl ?_
                refine lv_aload_n hx hb dX1_digest_195 rfl (lv_at hl 2 rfl) ?_
                refine lv_iconst (v := iI (-1)) hx hb dX1_digest_196 rfl ?_
                refine lv_iload hx hb dX1_digest_197 (lv_at hl 0 rfl) ?_
                refine zc_i (va_runV (As := [.int (iI (-1)), .int (iI (j : Int))]) (rest := [.int (iI 2), .ref q_44, .ref q_44]) ⟨hx, hb, hml, hown, hts⟩ (c_done_b l G x a B σ 0 (j : Int) hI (by omega)) (cwV 2 hts gX1_digest_X1_done rfl rfl rfl (by decide +kernel) ⟨Nat.le_of_ble_eq_true rfl, Nat.le_of_ble_eq_true rfl⟩) (preVM hK (va_Pl hP)) rfl rfl hl.1 rfl (lv_room (Nat.le_of_ble_eq_true rfl)) dX1_digest_199 ⟨(by show ((1 + j) + 1) + 0 ≤ 27; omega), (by show ((12 + 6 * j) + 6) + 0 ≤ 208; omega)⟩) ?_
                have f_63 := bor_bd hI (j : Int)
                refine z_iast (v := iI (bor σ (j : Int))) hx hb hK hP hD hS 9 0 rfl rfl (k := 2) (by decide) (by decide) rfl dX1_digest_202 (fun H locs hP hD hS => ?_)
                obtain ⟨f_64, ef_64⟩ : ∃ y : Nat → Int32, y = upd f_62 2 (iI (bor σ (j : Int))) := ⟨_, rfl⟩
                have hP : va_P G.1 vwCl (mW G x a 0 σ ++ [(q_44, .inl (G.2.1, 6, .inl f_64))]) H := by rw [ef_64]; exact hP
                have hD : va_D (zA x a s.heap.size) (mW G x a 0 σ ++ [(q_44, .inl (G.2.1, 6, .inl f_64))]) := by rw [ef_64]; exact hD
                refine lv_dup hx hb dX1_digest_203 rfl ?_
                refine lv_iconst (v := iI 3) hx hb dX1_digest_204 rfl ?_
                refine lv_aload_n hx hb dX1_digest_205 rfl (lv_at hl 2 rfl) ?_
                refine lv_iload hx hb dX1_digest_206 (lv_at hl 0 rfl) ?_
                refine lv_iconst (v := iI (-1)) hx hb dX1_digest_208 rfl ?_
                refine zc_i (va_runV (As := [.int (iI (j : Int)), .int (iI (-1))]) (rest := [.int (iI 3), .ref q_44, .ref q_44]) ⟨hx, hb, hml, hown, hts⟩ (c_done_o l G x a B σ 0 (j : Int) hI (by omega)) (cwV 2 hts gX1_digest_X1_done rfl rfl rfl (by decide +kernel) ⟨Nat.le_of_ble_eq_true rfl, Nat.le_of_ble_eq_true rfl⟩) (preVM hK (va_Pl hP)) rfl rfl hl.1 rfl (lv_room (Nat.le_of_ble_eq_true rfl)) dX1_digest_209 ⟨(by show ((1 + j) + 1) + 0 ≤ 27; omega), (by show ((12 + 6 * j) + 6) + 0 ≤ 208; omega)⟩) ?_
                have f_65 := owe_bd hI (j : Int)
                refine z_iast (v := iI (owe σ (j : Int))) hx hb hK hP hD hS 9 0 rfl rfl (k := 3) (by decide) (by decide) rfl dX1_digest_212 (fun H locs hP hD hS => ?_)
                obtain ⟨f_66, ef_66⟩ : ∃ y : Nat → Int32, y = upd f_64 3 (iI (owe σ (j : Int))) := ⟨_, rfl⟩
                have hP : va_P G.1 vwCl (mW G x a 0 σ ++ [(q_44, .inl (G.2.1, 6, .inl f_66))]) H := by rw [ef_66]; exact hP
                have hD : va_D (zA x a s.heap.size) (mW G x a 0 σ ++ [(q_44, .inl (G.2.1, 6, .inl f_66))]) := by rw [ef_66]; exact hD
                refine lv_dup hx hb dX1_digest_213 rfl ?_
                refine lv_iconst (v := iI 4) hx hb dX1_digest_214 rfl ?_
                refine lv_aload_n hx hb dX1_digest_215 rfl (lv_at hl 2 rfl) ?_
                refine lv_iload hx hb dX1_digest_216 (lv_at hl 0 rfl) ?_
                refine lv_bipush (v := iI 10) hx hb dX1_digest_218 (by decide) ?_
                refine zc_i (va_runV (As := [.int (iI (j : Int)), .int (iI 10)]) (rest := [.int (iI 4), .ref q_44, .ref q_44]) ⟨hx, hb, hml, hown, hts⟩ (c_X1_borneThen l G x a B σ 0 j 10 hI (by omega) (by omega)) (cwV 2 hts gX1_digest_X1_borneThen rfl rfl rfl (by decide +kernel) ⟨Nat.le_of_ble_eq_true rfl, Nat.le_of_ble_eq_true rfl⟩) (preVM hK (va_Pl hP)) rfl rfl hl.1 rfl (lv_room (Nat.le_of_ble_eq_true rfl)) dX1_digest_220 ⟨(by show ((1 + j) + 1) + 0 ≤ 27; omega), (by show ((12 + 6 * j) + 6) + 0 ≤ 208; omega)⟩) ?_
                have f_67 := bth_bd hI (j : Int) 10
                refine z_iast (v := iI (bth σ (j : Int) 10)) hx hb hK hP hD hS 9 0 rfl rfl (k := 4) (by decide) (by decide) rfl dX1_digest_223 (fun H locs hP hD hS => ?_)
                obtain ⟨f_68, ef_68⟩ : ∃ y : Nat → Int32, y = upd f_66 4 (iI (bth σ (j : Int) 10)) := ⟨_, rfl⟩
                have hP : va_P G.1 vwCl (mW G x a 0 σ ++ [(q_44, .inl (G.2.1, 6, .inl f_68))]) H := by rw [ef_68]; exact hP
                have hD : va_D (zA x a s.heap.size) (mW G x a 0 σ ++ [(q_44, .inl (G.2.1, 6, .inl f_68))]) := by rw [ef_68]; exact hD
                refine lv_dup hx hb dX1_digest_224 rfl ?_
                refine lv_iconst (v := iI 5) hx hb dX1_digest_225 rfl ?_
                refine lv_aload_n hx hb dX1_digest_226 rfl (lv_at hl 2 rfl) ?_
                refine lv_iload hx hb dX1_digest_227 (lv_at hl 0 rfl) ?_
                refine zc_i (va_runV (As := [.int (iI (j : Int))]) (rest := [.int (iI 5), .ref q_44, .ref q_44]) ⟨hx, hb, hml, hown, hts⟩ (c_X1_worst l G x a B σ 0 j hI (by omega)) (cwV 1 hts gX1_digest_X1_worst rfl rfl rfl (by decide +kernel) ⟨Nat.le_of_ble_eq_true rfl, Nat.le_of_ble_eq_true rfl⟩) (preVM hK (va_Pl hP)) rfl rfl hl.1 rfl (lv_room (Nat.le_of_ble_eq_true rfl)) dX1_digest_229 ⟨(by show ((1 + j) + 1) + 0 ≤ 27; omega), (by show ((12 + 6 * j) + 6) + 0 ≤ 208; omega)⟩) ?_
                refine z_iast (v := iI (wor σ (j : Int))) hx hb hK hP hD hS 9 0 rfl rfl (k := 5) (by decide) (by decide) rfl dX1_digest_232 (fun H locs hP hD hS => ?_)
                obtain ⟨f_69, ef_69⟩ : ∃ y : Nat → Int32, y = upd f_68 5 (iI (wor σ (j : Int))) := ⟨_, rfl⟩
                have hP : va_P G.1 vwCl (mW G x a 0 σ ++ [(q_44, .inl (G.2.1, 6, .inl f_69))]) H := by rw [ef_69]; exact hP
                have hD : va_D (zA x a s.heap.size) (mW G x a 0 σ ++ [(q_44, .inl (G.2.1, 6, .inl f_69))]) := by rw [ef_69]; exact hD
                have e01 : (1 : Int) = σ.2 1 j := by omega
                have hf_70 : ∀ z, z < 6 → f_69 z = iI ((dgP σ j).getD z 0) := by
                  intro z hz
                  rcases (show z = 0 ∨ z = 1 ∨ z = 2 ∨ z = 3 ∨ z = 4 ∨ z = 5 by omega) with h | h | h | h | h | h <;> subst h <;> simp [ef_45, ef_60, ef_62, ef_64, ef_66, ef_68, ef_69, upd, dgW, dgP, dgS, e01]
                refine lv_astore (lv' := [(5, .ref q_44), (4, .int (iI (j : Int))), (2, .long d1), (0, .ref x)]) hx hb dX1_digest_233 hl (by decide) rfl (fun ls hl => ?_)
                refine lv_aload hx hb dX1_digest_235 (lv_at hl 0 rfl) ?_
                refine lv_astore (lv' := [(6, .ref q_44), (5, .ref q_44), (4, .int (iI (j : Int))), (2, .long d1), (0, .ref x)]) hx hb dX1_digest_237 hl (by decide) rfl (fun ls hl => ?_)
                refine lv_aload hx hb dX1_digest_239 (lv_at hl 0 rfl) ?_
                refine va_alen (v := iI 6) hx hb hK hP 9 0 rfl rfl rfl dX1_digest_241 ?_
                refine lv_istore (lv' := [(7, .int (iI 6)), (6, .ref q_44), (5, .ref q_44), (4, .int (iI (j : Int))), (2, .long d1), (0, .ref x)]) hx hb dX1_digest_242 hl (by decide) rfl (fun ls hl => ?_)
                refine lv_iconst (v := iI 0) hx hb dX1_digest_244 rfl ?_
                refine lv_istore (lv' := [(8, .int (iI 0)), (7, .int (iI 6)), (6, .ref q_44), (5, .ref q_44), (4, .int (iI (j : Int))), (2, .long d1), (0, .ref x)]) hx hb dX1_digest_245 hl (by decide) rfl (fun ls hl => ?_)
                have LP247 : ∀ (r247 : Nat) (z : Nat) (d2 : Int64), z ≤ 6 → 6 - z < r247 → d2 = dgl (d1) (List.take z (dgP σ j)) → ∀ (ls : Array Slot), lv_has ls 10 [(8, .int (iI (z : Int))), (7, .int (iI 6)), (6, .ref q_44), (5, .ref q_44), (4, .int (iI (j : Int))), (2, .long d2), (0, .ref x)] → W pp l ee (headSpec wsX1_digest ({ frames := 4, cells := 27, slots := 208, locals := 93 } : Room)).room s m ([.ref x] : List Value).toArray below meth c H locs ((1 + j) + 1) ((12 + 6 * j) + 6) (MQ below (va_Ql (fun r (_ : Unit) => r = (dig σ)) (fun _ t9 => va_P G.1 vwCl (mW G x a 0 σ) t9.heap) (zA x a s.heap.size)) ([.ref x] : List Value).toArray s 27 208 (zA x a s.heap.size)) (F0 m 247 ls []) := by
                  intro r247
                  induction r247 with
                  | zero => intro z d2 hv247_0 hv247_1; exfalso; omega
                  | succ r247 ih247 =>
                    intro z d2 hv247_0 hv247_1 hv247_2 ls hl
                    refine lv_iload hx hb dX1_digest_247 (lv_at hl 0 rfl) ?_
                    refine lv_iload hx hb dX1_digest_249 (lv_at hl 1 rfl) ?_
                    refine z_icmp_ge (tgt := 277) hx hb dX1_digest_251 (by decide) (by omega) (by omega) (fun c_71 => ?_) (fun c_71 => ?_)
                    ·
                      refine lv_iinc (v := iI ((j : Int) + 1)) (lv' := [(4, .int (iI ((j : Int) + 1))), (8, .int (iI (z : Int))), (7, .int (iI 6)), (6, .ref q_44), (5, .ref q_44), (2, .long d2), (0, .ref x)]) hx hb dX1_digest_277 hl (k := 4) rfl (iI_add _ _) (by decide) rfl (fun ls hl => ?_)
                      refine lv_goto (tgt := 152) hx hb dX1_digest_280 (by decide) ?_
                      have hP := va_Pl hP
                      have hD := va_Dl hD
                      refine W.widen (k := 1 + (j + 1)) (n := 12 + 6 * (j + 1)) (by omega) (by omega) ?_
                      exact ih152 (j + 1) d2 (by omega) (by omega) (by rw [hv247_2, show z = 6 from by omega, hv152_2]; rfl) H locs ls hP hD hS (lv_sub hl [0, 5, 6] rfl)
                    ·
                      refine lv_aload hx hb dX1_digest_254 (lv_at hl 2 rfl) ?_
                      refine lv_iload hx hb dX1_digest_256 (lv_at hl 0 rfl) ?_
                      refine z_iald (v := iI ((dgP σ j).getD z 0)) hx hb hK hP 9 0 rfl rfl (k := z) (by omega) (by decide) (hf_70 z (by omega)) dX1_digest_258 ?_
                      refine lv_istore (lv' := [(9, .int (iI ((dgP σ j).getD z 0))), (8, .int (iI (z : Int))), (7, .int (iI 6)), (6, .ref q_44), (5, .ref q_44), (4, .int (iI (j : Int))), (2, .long d2), (0, .ref x)]) hx hb dX1_digest_259 hl (by decide) rfl (fun ls hl => ?_)
                      refine lv_lload_n hx hb dX1_digest_261 rfl (lv_at hl 6 rfl) ?_
                      refine lv_ldc2 hx hb hown w_11 dX1_digest_262 ?_
                      refine lv_lmul hx hb dX1_digest_265 ?_
                      refine lv_iload hx hb dX1_digest_266 (lv_at hl 0 rfl) ?_
                      refine lv_i2l (v := (iI ((dgP σ j).getD z 0)).toInt64) hx hb dX1_digest_268 rfl ?_
                      refine lv_ladd hx hb dX1_digest_269 ?_
                      refine lv_lstore_n (lv' := [(2, .long ((d2 * 31) + ((iI ((dgP σ j).getD z 0)).toInt64))), (9, .int (iI ((dgP σ j).getD z 0))), (8, .int (iI (z : Int))), (7, .int (iI 6)), (6, .ref q_44), (5, .ref q_44), (4, .int (iI (j : Int))), (0, .ref x)]) hx hb dX1_digest_270 rfl hl (by decide) rfl (fun ls hl => ?_)
                      refine lv_iinc (v := iI ((z : Int) + 1)) (lv' := [(8, .int (iI ((z : Int) + 1))), (2, .long ((d2 * 31) + ((iI ((dgP σ j).getD z 0)).toInt64))), (9, .int (iI ((dgP σ j).getD z 0))), (7, .int (iI 6)), (6, .ref q_44), (5, .ref q_44), (4, .int (iI (j : Int))), (0, .ref x)]) hx hb dX1_digest_271 hl (k := 2) rfl (iI_add _ _) (by decide) rfl (fun ls hl => ?_)
                      refine lv_goto (tgt := 247) hx hb dX1_digest_274 (by decide) ?_
                      exact ih247 (z + 1) ((d2 * 31) + ((iI ((dgP σ j).getD z 0)).toInt64)) (by omega) (by omega) (by rw [hv247_2]; exact (dgl_take _ (dgP σ j) z (by show _ < 6; omega)).symm) ls (lv_sub hl [0, 3, 4, 5, 6, 1, 7] rfl)
                exact LP247 (6 - (0) + 1) 0 d1 (by omega) (by omega) (by rfl) ls (lv_sub hl [0, 1, 2, 3, 4, 5, 6] rfl)
        have hP := va_Pl hP
        have hD := va_Dl hD
        refine W.widen (k := 1 + 0) (n := 12 + 6 * 0) (by omega) (by omega) ?_
        exact LP152 (σ.1 0 - (0) + 1) 0 d0 (by omega) (by omega) (by rw [hv119_2, show z = 12 from by omega]; rfl) H locs ls hP hD hS (lv_sub hl [0, 3, 5] rfl)
      ·
        refine lv_aload hx hb dX1_digest_126 (lv_at hl 2 rfl) ?_
        refine lv_iload hx hb dX1_digest_128 (lv_at hl 0 rfl) ?_
        refine z_iald (v := iI ((dgW σ).getD z 0)) hx hb hK hP 9 0 rfl rfl (k := z) (by omega) (by decide) (hf_20 z (by omega)) dX1_digest_130 ?_
        refine lv_istore (lv' := [(7, .int (iI ((dgW σ).getD z 0))), (6, .int (iI (z : Int))), (5, .int (iI 12)), (4, .ref q_1), (2, .long d0), (1, .ref q_1), (0, .ref x)]) hx hb dX1_digest_131 hl (by decide) rfl (fun ls hl => ?_)
        refine lv_lload_n hx hb dX1_digest_133 rfl (lv_at hl 4 rfl) ?_
        refine lv_ldc2 hx hb hown w_11 dX1_digest_134 ?_
        refine lv_lmul hx hb dX1_digest_137 ?_
        refine lv_iload hx hb dX1_digest_138 (lv_at hl 0 rfl) ?_
        refine lv_i2l (v := (iI ((dgW σ).getD z 0)).toInt64) hx hb dX1_digest_140 rfl ?_
        refine lv_ladd hx hb dX1_digest_141 ?_
        refine lv_lstore_n (lv' := [(2, .long ((d0 * 31) + ((iI ((dgW σ).getD z 0)).toInt64))), (7, .int (iI ((dgW σ).getD z 0))), (6, .int (iI (z : Int))), (5, .int (iI 12)), (4, .ref q_1), (1, .ref q_1), (0, .ref x)]) hx hb dX1_digest_142 rfl hl (by decide) rfl (fun ls hl => ?_)
        refine lv_iinc (v := iI ((z : Int) + 1)) (lv' := [(6, .int (iI ((z : Int) + 1))), (2, .long ((d0 * 31) + ((iI ((dgW σ).getD z 0)).toInt64))), (7, .int (iI ((dgW σ).getD z 0))), (5, .int (iI 12)), (4, .ref q_1), (1, .ref q_1), (0, .ref x)]) hx hb dX1_digest_143 hl (k := 2) rfl (iI_add _ _) (by decide) rfl (fun ls hl => ?_)
        refine lv_goto (tgt := 119) hx hb dX1_digest_146 (by decide) ?_
        exact ih119 (z + 1) ((d0 * 31) + ((iI ((dgW σ).getD z 0)).toInt64)) (by omega) (by omega) (by rw [hv119_2]; exact (dgl_take _ (dgW σ) z (by show _ < 12; omega)).symm) ls (lv_sub hl [0, 3, 4, 1, 5, 6] rfl)
  exact LP119 (12 - (0) + 1) 0 2027 (by omega) (by omega) (by rfl) ls (lv_sub hl [0, 1, 2, 3, 4, 5] rfl)
