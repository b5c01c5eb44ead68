/-! THE LAW'S START: what the tables and the start give. -/
theorem z_arr {args : Array Value} {s : State} {ty : FieldType} (h : (Cond.arrayClass ty).before args s = true) : ∃ cA : ClassId, ArrOfT s cA ty ∧ s.vm.findClass ("[" ++ ty.toString) = some cA := by
  obtain ⟨cA, kA, comp, h1, h2, h3⟩ := Cond.arrayClass_spec h
  exact ⟨cA, fun n z => ⟨fun k h => (by cases h), kA, h2, comp, h3⟩, h1⟩
theorem z_tab {args : Array Value} {s : State} (hts : ∀ w ∈ lw_tbl, w.before args s = true) (i : Nat) (w : Cond) (h : tables_1[i]? = some w) : w.before args s = true := hts w (List.mem_append_right _ (List.mem_of_getElem? h))
theorem start_O {args : Array Value} {s : State} (hts : ∀ w ∈ lw_tbl, w.before args s = true) : zO s ∧ zH s :=
  ⟨z_tab hts 467 (.arrayOver (.array .int)) (by decide +kernel), va_Nw.of rfl (z_tab hts 507 (.methodLinkNest RL 74 yX1_init RL) (by decide +kernel))⟩
theorem start_G {args : Array Value} {s : State} (hts : ∀ w ∈ lw_tbl, w.before args s = true) : ∃ G : zG, zK G s := by
  have hT := z_tab hts
  obtain ⟨c0, iS0, hKn0⟩ := u_known (C := RX0) (T := TX0) (N := 12) (n := 12) hts inX0 (hT 11 (.instantiable RX0 12) (by decide +kernel))
  obtain ⟨c1, iS1, hKn1⟩ := u_known (C := RX1) (T := TX1) (N := 4) (n := 4) hts inX1 (hT 506 (.instantiable RX1 4) (by decide +kernel))
  obtain ⟨cI, a1, a2⟩ := z_arr (ty := .int) (hT 55 (.arrayClass .int) (by decide +kernel))
  obtain ⟨cZ, b1, b2⟩ := z_arr (ty := .boolean) (hT 56 (.arrayClass .boolean) (by decide +kernel))
  obtain ⟨comp, cA, kA, d1, d2, d3, d4, d5⟩ := arrayOverA_spec (start_O hts).1
  refine ⟨((fun k => if k = 0 then c0 else c1, fun k => if k = 0 then iS0 else iS1), cI, cZ, cA), ?_, ?_⟩
  · intro k q hq
    match k, hq with
    | 0, hq => cases hq; exact hKn0
    | 1, hq => cases hq; exact hKn1
    | k + 2, hq => simp [vwCl] at hq
  · intro k q hq
    match k, hq with
    | 0, hq => cases hq; exact ⟨a1, a2⟩
    | 1, hq => cases hq; exact ⟨b1, b2⟩
    | 2, hq => cases hq; exact ⟨fun n z => ⟨fun k h => (by cases h), kA, d3, comp, d4⟩, d5⟩
    | k + 3, hq => simp at hq
theorem z_str {args : Array Value} {s : State} {own tx : String} {k : Nat} (h1 : (Cond.stringRef own k tx).before args s = true) (h2 : (Cond.exactly (.string own k) "java/lang/String").before args s = true) : ∃ sa, vk_R own k tx sa s := by
  obtain ⟨a, -, -, -, ha, -⟩ := Cond.exactly_spec (args := args) (first := s) (o := none) (s := s) (idx := []) h2
  exact ⟨a, vk_R.of h1 ha⟩
theorem start_E {b : Nat} {s : State} (hts : ∀ w ∈ lw_tbl, w.before #[Value.ref b] s = true) (hgv : (Jvm.Cond.and given_1 narrow_1).before #[Value.ref b] s = true) : zE (nA s.heap.size) s s.heap := by
  have hT := z_tab hts
  have hf := flat_of_before _ hgv
  have hA : ∀ a : Nat, a < s.heap.size → ¬ nA s.heap.size a := fun a h1 h2 => by have : s.heap.size ≤ a := h2; omega
  refine ⟨?_, ?_, fun w hw => ?_, fun q hq => ?_⟩
  · exact vx_Zqof (hT 92 (.laysStatic Bundle.tN "UNASSIGNED_STACK" Bundle.steD) (by decide +kernel)) (hT 3 (.initialized Bundle.tN) (by decide +kernel)) (hf (.isRef (.static Bundle.tN "UNASSIGNED_STACK" Bundle.steD)) (by decide +kernel)) hA
  · exact vx_Zqof (hT 94 (.laysStatic Bundle.tN "SUPPRESSED_SENTINEL" Bundle.listD) (by decide +kernel)) (hT 3 (.initialized Bundle.tN) (by decide +kernel)) (hf (.isRef (.static Bundle.tN "SUPPRESSED_SENTINEL" Bundle.listD)) (by decide +kernel)) hA
  · refine va_tabs (A := #[Value.ref b]) (u := s) (U := s) (zB_on w hw) rfl ?_
    simp only [zB, List.mem_cons, List.not_mem_nil, or_false] at hw
    rcases hw with h | h | h | h | h | h <;> subst h
    · exact hT 138 _ (by decide +kernel)
    · exact hT 162 _ (by decide +kernel)
    · exact hT 67 _ (by decide +kernel)
    · exact hT 69 _ (by decide +kernel)
    · exact hT 71 _ (by decide +kernel)
    · exact hT 73 _ (by decide +kernel)
  · simp only [zStr, List.mem_cons, List.not_mem_nil, or_false] at hq
    rcases hq with h | h | h | h | h | h | h | h | h | h | h | h <;> subst h
    · exact z_str (hT 309 _ (by decide +kernel)) (hf (.exactly (.string RX0 119) "java/lang/String") (by decide +kernel))
    · exact z_str (hT 200 _ (by decide +kernel)) (hf (.exactly (.string RX0 145) "java/lang/String") (by decide +kernel))
    · exact z_str (hT 106 _ (by decide +kernel)) (hf (.exactly (.string RX0 148) "java/lang/String") (by decide +kernel))
    · exact z_str (hT 169 _ (by decide +kernel)) (hf (.exactly (.string RX0 153) "java/lang/String") (by decide +kernel))
    · exact z_str (hT 475 _ (by decide +kernel)) (hf (.exactly (.string RX0 155) "java/lang/String") (by decide +kernel))
    · exact z_str (hT 145 _ (by decide +kernel)) (hf (.exactly (.string RX0 157) "java/lang/String") (by decide +kernel))
    · exact z_str (hT 243 _ (by decide +kernel)) (hf (.exactly (.string RX0 159) "java/lang/String") (by decide +kernel))
    · exact z_str (hT 476 _ (by decide +kernel)) (hf (.exactly (.string RX0 45) "java/lang/String") (by decide +kernel))
    · exact z_str (hT 481 _ (by decide +kernel)) (hf (.exactly (.string RX0 55) "java/lang/String") (by decide +kernel))
    · exact z_str (hT 482 _ (by decide +kernel)) (hf (.exactly (.string RX0 58) "java/lang/String") (by decide +kernel))
    · exact z_str (hT 483 _ (by decide +kernel)) (hf (.exactly (.string RX0 63) "java/lang/String") (by decide +kernel))
    · exact z_str (hT 235 _ (by decide +kernel)) (hf (.exactly (.string RX0 96) "java/lang/String") (by decide +kernel))
