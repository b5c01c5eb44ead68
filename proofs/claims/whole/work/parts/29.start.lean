/-! THE LAW'S START: what the tables and the start give. -/
theorem z_arr {args : Array Value} {s : State} {ty : FieldType} (h : (Cond.arrayClass ty).before args s = true) : ∃ cA : ClassId, ArrOfT s cA ty ∧ s.vm.findClass ("[" ++ ty.toString) = some cA := by
  obtain ⟨cA, kA, comp, h1, h2, h3⟩ := Cond.arrayClass_spec h
  exact ⟨cA, fun n z => ⟨fun k h => (by cases h), kA, h2, comp, h3⟩, h1⟩
theorem z_tab {args : Array Value} {s : State} (hts : ∀ w ∈ lw_tbl, w.before args s = true) (i : Nat) (w : Cond) (h : tables_1[i]? = some w) : w.before args s = true := hts w (List.mem_append_right _ (List.mem_of_getElem? h))
theorem start_G {args : Array Value} {s : State} (hts : ∀ w ∈ lw_tbl, w.before args s = true) : ∃ G : zG, zK G s := by
  have hT := z_tab hts
  obtain ⟨c0, iS0, hKn0⟩ := u_known (C := RX0) (T := TX0) (N := 12) (n := 12) hts inX0 (hT 11 (.instantiable RX0 12) (by decide +kernel))
  obtain ⟨c1, iS1, hKn1⟩ := u_known (C := RX1) (T := TX1) (N := 13) (n := 13) hts inX1 (hT 507 (.instantiable RX1 13) (by decide +kernel))
  obtain ⟨cI, a1, a2⟩ := z_arr (ty := .int) (hT 55 (.arrayClass .int) (by decide +kernel))
  obtain ⟨cZ, b1, b2⟩ := z_arr (ty := .boolean) (hT 56 (.arrayClass .boolean) (by decide +kernel))
  obtain ⟨cJ, d1, d2⟩ := z_arr (ty := .long) (hT 806 (.arrayClass .long) (by decide +kernel))
  refine ⟨((fun k => if k = 0 then c0 else c1, fun k => if k = 0 then iS0 else iS1), cI, cZ, cJ), ?_, ?_⟩
  · intro k q hq
    match k, hq with
    | 0, hq => cases hq; exact hKn0
    | 1, hq => cases hq; exact hKn1
    | k + 2, hq => simp [vwCl] at hq
  · intro k q hq
    match k, hq with
    | 0, hq => cases hq; exact ⟨a1, a2⟩
    | 1, hq => cases hq; exact ⟨b1, b2⟩
    | 2, hq => cases hq; exact ⟨d1, d2⟩
    | k + 3, hq => simp at hq
theorem z_str {args : Array Value} {s : State} {own tx : String} {k : Nat} (h1 : (Cond.stringRef own k tx).before args s = true) (h2 : (Cond.exactly (.string own k) "java/lang/String").before args s = true) : ∃ sa, vk_R own k tx sa s := by
  obtain ⟨a, -, -, -, ha, -⟩ := Cond.exactly_spec (args := args) (first := s) (o := none) (s := s) (idx := []) h2
  exact ⟨a, vk_R.of h1 ha⟩
theorem start_E {b : Nat} {s : State} (hts : ∀ w ∈ lw_tbl, w.before #[Value.ref b] s = true) (hgv : (Jvm.Cond.and given_1 narrow_1).before #[Value.ref b] s = true) : zE (nA s.heap.size) s s.heap ∧ zN s := by
  have hT := z_tab hts
  have hf := flat_of_before _ hgv
  have hA : ∀ a : Nat, a < s.heap.size → ¬ nA s.heap.size a := fun a h1 h2 => by have : s.heap.size ≤ a := h2; omega
  refine ⟨⟨?_, ?_, fun w hw => ?_, fun q hq => ?_⟩, ?_⟩
  · exact vx_Zqof (hT 116 (.laysStatic Bundle.tN "UNASSIGNED_STACK" Bundle.steD) (by decide +kernel)) (hT 3 (.initialized Bundle.tN) (by decide +kernel)) (hf (.isRef (.static Bundle.tN "UNASSIGNED_STACK" Bundle.steD)) (by decide +kernel)) hA
  · exact vx_Zqof (hT 118 (.laysStatic Bundle.tN "SUPPRESSED_SENTINEL" Bundle.listD) (by decide +kernel)) (hT 3 (.initialized Bundle.tN) (by decide +kernel)) (hf (.isRef (.static Bundle.tN "SUPPRESSED_SENTINEL" Bundle.listD)) (by decide +kernel)) hA
  · refine va_tabs (A := #[Value.ref b]) (u := s) (U := s) (zB_on w hw) rfl ?_
    simp only [zB, List.mem_cons, List.not_mem_nil, or_false] at hw
    rcases hw with h | h | h | h | h | h <;> subst h
    · exact hT 211 _ (by decide +kernel)
    · exact hT 323 _ (by decide +kernel)
    · exact hT 91 _ (by decide +kernel)
    · exact hT 93 _ (by decide +kernel)
    · exact hT 95 _ (by decide +kernel)
    · exact hT 97 _ (by decide +kernel)
  · simp only [zStr, List.mem_cons, List.not_mem_nil, or_false] at hq
    rcases hq with h | h | h | h | h | h | h | h | h | h | h | h <;> subst h
    · exact z_str (hT 218 _ (by decide +kernel)) (hf (.exactly (.string RX0 119) "java/lang/String") (by decide +kernel))
    · exact z_str (hT 130 _ (by decide +kernel)) (hf (.exactly (.string RX0 145) "java/lang/String") (by decide +kernel))
    · exact z_str (hT 177 _ (by decide +kernel)) (hf (.exactly (.string RX0 148) "java/lang/String") (by decide +kernel))
    · exact z_str (hT 366 _ (by decide +kernel)) (hf (.exactly (.string RX0 153) "java/lang/String") (by decide +kernel))
    · exact z_str (hT 320 _ (by decide +kernel)) (hf (.exactly (.string RX0 155) "java/lang/String") (by decide +kernel))
    · exact z_str (hT 381 _ (by decide +kernel)) (hf (.exactly (.string RX0 157) "java/lang/String") (by decide +kernel))
    · exact z_str (hT 250 _ (by decide +kernel)) (hf (.exactly (.string RX0 159) "java/lang/String") (by decide +kernel))
    · exact z_str (hT 330 _ (by decide +kernel)) (hf (.exactly (.string RX0 45) "java/lang/String") (by decide +kernel))
    · exact z_str (hT 352 _ (by decide +kernel)) (hf (.exactly (.string RX0 55) "java/lang/String") (by decide +kernel))
    · exact z_str (hT 353 _ (by decide +kernel)) (hf (.exactly (.string RX0 58) "java/lang/String") (by decide +kernel))
    · exact z_str (hT 354 _ (by decide +kernel)) (hf (.exactly (.string RX0 63) "java/lang/String") (by decide +kernel))
    · exact z_str (hT 397 _ (by decide +kernel)) (hf (.exactly (.string RX0 96) "java/lang/String") (by decide +kernel))
  · exact ⟨va_Nc.of (hf (.not (.castable zISE zIAE)) (by decide +kernel)), va_Nc.of (hf (.not (.castable zIAE zIOE)) (by decide +kernel)), va_Nc.of (hf (.not (.castable zISE zIOE)) (by decide +kernel))⟩
theorem σ0_zI : zI 0 σ0 := by
  unfold zI
  simp [σ0]
theorem j_nA {x sz n : Nat} (h1 : n ≤ x) (h2 : n ≤ sz) : ∀ q, iA x sz q → nA n q := fun q h => h.elim (fun h => by rw [h]; exact h1) (fun h => Nat.le_trans h2 h)
/-! THE LAW'S LOOP. -/
section LL
variable {pg : Program} {l : Launch} {e : Env} {s : State} {m : MethodId} {args : Array Value} {below : List Frame} {meth : Method} {c : Code} {Q : State → Prop}
variable {G : zG} {b L : Nat} {xs : Nat → Int32} {xa : Nat} {xr : Nat → Nat} {ma : Nat} {mr : Nat → Nat} {oa : Nat}
set_option maxHeartbeats 4000000 in
set_option maxRecDepth 100000 in
theorem law_loop (C : lC pg l s m args c G b L xs) (kend : ∀ (H : Heap) (locs : List Loc) (cs ss : Nat) (ls : Array Slot), va_S (nA s.heap.size) s.heap H locs → cs ≤ 698866 → ss ≤ 6999506 → W pg l e room_1 s m args below meth c H locs cs ss Q (F0 m 2006 ls [])) :
    ∀ (r j : Nat) (σ : zS) (t : Nat) (v : Int64) (H : Heap) (locs : List Loc) (cells slots : Nat) (ls : Array Slot), L + 8 - 4 * j < r → 4 * j ≤ L + 3 → lP G s xa xr ma mr oa σ t v H locs → zI (60 * j) σ → cells ≤ 100 + 32 * j → slots ≤ 1000 + 256 * j →
      lv_has ls 9 [(4, .int (iI ((4 * j : Nat) : Int))), (0, .ref b), (1, .ref xa), (2, .ref ma), (3, .ref oa)] → W pg l e room_1 s m args below meth c H locs cells slots Q (F0 m 23 ls []) := by
  intro r
  induction r with
  | zero => intro j σ t v H locs cells slots ls h; omega
  | succ r ih =>
    intro j σ t v H locs cells slots ls hr hj hP hI hc hs hl
    obtain ⟨hx, hb, hml, hown, hts, hfl, hK, hE0, hN, hX, hbl, hL⟩ := id C
    have hS := hP.2.2
    refine lv_iload hx hb dL_law_23 (lv_at hl 0 rfl) ?_
    refine lv_aload_n hx hb dL_law_25 rfl (lv_at hl 1 rfl) ?_
    refine va_slen hx hb hX hbl (fun h => by have : s.heap.size ≤ b := h; omega) hS dL_law_26 ?_
    refine z_re (v' := iI ((L : Nat) : Int)) (by first | rfl | exact (Int32.ofInt_natCast _).symm | simp [iI]) ?_
    refine lv_iconst (v := iI 4) hx hb dL_law_27 rfl ?_
    refine z_isub hx hb dL_law_28 ?_
    refine z_icmp_gt (tgt := 2006) hx hb dL_law_29 (by decide) (by omega) (by omega) (fun _ => kend H locs cells slots ls hS (by omega) (by omega)) (fun hle => ?_)
    refine lv_aload_n hx hb dL_law_32 rfl (lv_at hl 1 rfl) ?_
    refine lv_iload hx hb dL_law_33 (lv_at hl 0 rfl) ?_
    obtain ⟨z0, hz0, e0⟩ := iI_of (xs (4 * j))
    refine z_sld hx hb hX hbl hS (4 * j) rfl (by omega) hL e0 dL_law_35 ?_
    refine lv_bipush (v := iI 63) hx hb dL_law_36 (by decide) ?_
    refine lv_iand hx hb dL_law_38 ?_
    refine K_switch C hP (by omega) (by omega) hl (by omega) hI (by omega) (fun σ9 hI9 => ?_) _
    intro H2 locs2 t2 v2 cs ss ls2 hP2 hcs hss hl2
    refine lv_iinc (v := iI ((4 * (j + 1) : Nat) : Int)) (lv' := [(4, .int (iI ((4 * (j + 1) : Nat) : Int))), (0, .ref b), (1, .ref xa), (2, .ref ma), (3, .ref oa)]) hx hb dL_law_2000 hl2 (k := 0) rfl ((iI_add _ _).trans (congrArg iI (by omega))) (by decide) rfl (fun ls hl => ?_)
    refine lv_goto (tgt := 23) hx hb dL_law_2003 (by decide) ?_
    exact ih (j + 1) σ9 t2 v2 H2 locs2 cs ss ls (by omega) (by omega) hP2 (by rw [show 60 * (j + 1) = 60 * j + 60 from by omega]; exact hI9) (by omega) (by omega) hl
end LL
