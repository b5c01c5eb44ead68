/-! THE LAW'S BODY, piece by piece. -/
section SG
variable {pg : Program} {l : Launch} {e : Env} {s : State} {m : MethodId} {args : Array Value} {below : List Frame} {meth : Method} {c : Code} {Q : State → Prop}
variable {G : zG} {b L : Nat} {xs : Nat → Int32} {x : Nat} {a : Nat → Nat} {y : Nat}
set_option maxHeartbeats 8000000 in
set_option maxRecDepth 100000 in
theorem seg_acts (C : lC pg l s m args c G b L xs) {B0 : Nat} {σ : zS} {P S : Nat} {rp rs : Nat → Nat} {z : Int32} {t : Nat} {cells0 slots0 : Nat} {H : Heap} {locs : List Loc} {cells slots : Nat} {ls : Array Slot} (hP : va_P G.1 vwCl (xW G x a σ ++ uW G y P S rp rs σ ++ []) H) (hD : va_D (nA s.heap.size) (xW G x a σ ++ uW G y P S rp rs σ ++ [])) (hS : va_S (nA s.heap.size) s.heap H locs) (hl : lv_has ls 23 [(4, .int z), (3, .int (iI (t : Int))), (0, .ref b), (1, .ref x), (2, .ref y)]) (hJ : zJ B0 σ) (hB : B0 + 180 ≤ 100000) (h2 : 2 ≤ σ.1 0) (hc : cells = cells0 ∧ cells + 6 ≤ 600000) (hs : slots = slots0 ∧ slots + 81 ≤ 7300000) (kk : ∀ (σ : zS) (P S : Nat) (rp rs : Nat → Nat) (H2 : Heap) (locs2 : List Loc) (cells2 slots2 : Nat) (ls2 : Array Slot), zJ (B0 + 180) σ → 2 ≤ σ.1 0 → cells2 ≤ cells + 6 → slots2 ≤ slots + 81 → va_P G.1 vwCl (xW G x a σ ++ uW G y P S rp rs σ ++ []) H2 → va_D (nA s.heap.size) (xW G x a σ ++ uW G y P S rp rs σ ++ []) → va_S (nA s.heap.size) s.heap H2 locs2 → lv_has ls2 23 [(4, .int z), (3, .int (iI (t : Int))), (0, .ref b), (1, .ref x), (2, .ref y)] → W pg l e room_1 s m args below meth c H2 locs2 cells2 slots2 Q (F0 m 82 ls2 [])) : W pg l e room_1 s m args below meth c H locs cells slots Q (F0 m 44 ls []) := by
  obtain ⟨hx, hb, hml, hown, hts, hfl, hK, hO, hE, hH, hX, hbl, hL⟩ := C
  have hA : ∀ q : Nat, s.heap.size ≤ q → nA s.heap.size q := fun _ h => h
  have hbA : ¬ nA s.heap.size b := fun h => by have h9 : s.heap.size ≤ b := h; omega
  have hin0 : ∀ w ∈ wsX10, w ∈ wsL_law := inlX1
  have hI := hJ.1
  have hIn := hI.n
  have hIb := hI.b
  refine lv_iconst (v := iI 0) hx hb dL_law_44 rfl ?_
  refine lv_istore (lv' := [(5, .int (iI 0)), (4, .int z), (3, .int (iI (t : Int))), (0, .ref b), (1, .ref x), (2, .ref y)]) hx hb dL_law_45 hl (by decide) rfl (fun ls hl => ?_)
  have LP47 : ∀ (r47 : Nat) (j : Nat) (σ : zS) (P S : Nat) (rp rs : Nat → Nat) (cells slots : Nat), j ≤ 3 → 3 - j < r47 → zJ (B0 + 60 * j) σ → cells ≤ cells0 + 2 * j → slots ≤ slots0 + 27 * j → 2 ≤ σ.1 0 → ∀ (H : Heap) (locs : List Loc) (ls : Array Slot), va_P G.1 vwCl (xW G x a σ ++ uW G y P S rp rs σ ++ []) H → va_D (nA s.heap.size) (xW G x a σ ++ uW G y P S rp rs σ ++ []) → va_S (nA s.heap.size) s.heap H locs → lv_has ls 23 [(5, .int (iI (j : Int))), (4, .int z), (3, .int (iI (t : Int))), (0, .ref b), (1, .ref x), (2, .ref y)] → W pg l e room_1 s m args below meth c H locs cells slots Q (F0 m 47 ls []) := by
    intro r47
    induction r47 with
    | zero => intro j σ P S rp rs cells slots hv47_0 hv47_1; exfalso; omega
    | succ r47 ih47 =>
      intro j σ P S rp rs cells slots hv47_0 hv47_1 hJ hc47 hs47 hw47_0 H locs ls hP hD hS hl
      have hI := hJ.1
      have hIn := hI.n
      have hIb := hI.b
      refine lv_iload hx hb dL_law_47 (lv_at hl 0 rfl) ?_
      refine lv_iconst (v := iI 3) hx hb dL_law_49 rfl ?_
      refine z_icmp_ge (tgt := 82) hx hb dL_law_50 (by decide) (by omega) (by omega) (fun c_1 => ?_) (fun c_1 => ?_)
      ·
        exact kk σ P S rp rs H locs _ _ ls (mono_zJ hJ (by omega) (by omega)) (by omega) (by omega) (by omega) hP hD hS (lv_sub hl [1, 2, 3, 4, 5] rfl)
      ·
        refine lv_aload_n hx hb dL_law_53 rfl (lv_at hl 4 rfl) ?_
        refine lv_aload_n hx hb dL_law_54 rfl (lv_at hl 5 rfl) ?_
        refine lv_iload hx hb dL_law_55 (lv_at hl 1 rfl) ?_
        refine lv_iconst (v := iI 3) hx hb dL_law_57 rfl ?_
        refine lv_iload hx hb dL_law_58 (lv_at hl 0 rfl) ?_
        refine z_imul hx hb dL_law_60 ?_
        refine lv_ishr hx hb dL_law_61 ?_
        refine lv_bipush (v := iI 29) hx hb dL_law_62 (by decide) ?_
        refine lv_iload hx hb dL_law_64 (lv_at hl 0 rfl) ?_
        refine z_imul hx hb dL_law_66 ?_
        refine lv_iadd hx hb dL_law_67 ?_
        refine va_calli (vx_runSW (As := [.ref x, .ref y, .int ((z >>> ((iI (3 * (j : Int))) &&& 31)) + (iI (29 * (j : Int))))]) (rest := []) ⟨hx, hb, hml, hown, hts⟩ (c_L_act l hfl G x a y P S rp rs _ (B0 + 60 * j) σ ((z >>> ((iI (3 * (j : Int))) &&& 31)) + (iI (29 * (j : Int)))) hJ (by omega)) (vx_cwSW 3 hts gL_law_L_act rfl rfl rfl (by decide +kernel) ⟨Nat.le_of_ble_eq_true rfl, Nat.le_of_ble_eq_true rfl⟩) (preWJ hK (va_Pl hP) (va_Dl hD) hO ((hE.kept hS.2.1).narrow (fun q h => vA_in (va_Dl hD) hA hS.1 h))) rfl rfl hl.1 rfl (lv_room (Nat.le_of_ble_eq_true rfl)) dL_law_68 ⟨by show cells + 2 ≤ 600130; omega, by show slots + 27 ≤ 7301080; omega⟩) hS (fun q _ h => vA_in (va_Dl hD) hA hS.1 h) (fun q h => vA_in (va_Dl hD) hA hS.1 h) (fun r9 u t8 H1 locs1 ht8 _ hr9 hB9 _ _ hS1 => ?_)
        obtain ⟨hr9, hJ1, hn0, hn2⟩ := hr9
        subst hr9
        obtain ⟨hP1, hD1⟩ := hB9
        rw [ht8] at hP1
        have hD := hD1.weaken (fun k q _ h => vA_in (va_Dl hD) hA hS.1 h)
        obtain ⟨σ, P, S, rp, rs⟩ := u
        have hJ : zJ ((B0 + 60 * j) + 60) σ := hJ1
        have hn0 : _ ≤ σ.1 0 := hn0
        have hn2 : min 2 _ ≤ σ.1 0 := hn2
        have hP : va_P G.1 vwCl (xW G x a σ ++ uW G y P S rp rs σ ++ []) H1 := by rw [List.append_nil]; exact hP1
        have hD : va_D (nA s.heap.size) (xW G x a σ ++ uW G y P S rp rs σ ++ []) := by rw [List.append_nil]; exact hD
        have hS := hS1
        refine z_if_ne (tgt := 76) hx hb dL_law_71 (by decide) (by omega) (fun c_2 => ?_) (fun c_2 => ?_)
        ·
          refine lv_iinc (v := iI ((j + 1 : Nat) : Int)) (lv' := [(5, .int (iI ((j + 1 : Nat) : Int))), (4, .int z), (3, .int (iI (t : Int))), (0, .ref b), (1, .ref x), (2, .ref y)]) hx hb dL_law_76 hl (k := 0) rfl ((iI_add _ _).trans (congrArg iI (by omega))) (by decide) rfl (fun ls hl => ?_)
          refine lv_goto (tgt := 47) hx hb dL_law_79 (by decide) ?_
          exact ih47 (j + 1) σ P S rp rs  _ _ (by omega) (by omega) (mono_zJ hJ (by omega) (by omega)) (by omega) (by omega) (by omega) H1 locs1 ls hP hD hS (lv_sub hl [0, 1, 2, 3, 4, 5] rfl)
        · exfalso; revert c_2; decide
  exact LP47 (3 - 0 + 1) 0 σ P S rp rs  _ _ (by omega) (by omega) (mono_zJ hJ (by omega) (by omega)) (by omega) (by omega) (by omega) H locs ls hP hD hS (lv_sub hl [0, 1, 2, 3, 4, 5] rfl)
set_option maxHeartbeats 8000000 in
set_option maxRecDepth 100000 in
theorem seg_held (C : lC pg l s m args c G b L xs) {B : Nat} {σ : zS} {P S : Nat} {rp rs : Nat → Nat} {z : Int32} {t : Nat} {H : Heap} {locs : List Loc} {cells slots : Nat} {ls : Array Slot} (hP : va_P G.1 vwCl (xW G x a σ ++ uW G y P S rp rs σ ++ []) H) (hD : va_D (nA s.heap.size) (xW G x a σ ++ uW G y P S rp rs σ ++ [])) (hS : va_S (nA s.heap.size) s.heap H locs) (hl : lv_has ls 23 [(4, .int z), (3, .int (iI (t : Int))), (0, .ref b), (1, .ref x), (2, .ref y)]) (hJ : zJ B σ) (h2 : 2 ≤ σ.1 0) (hc : cells ≤ 600000) (hs : slots ≤ 7300000) (kk : ∀  (H2 : Heap) (locs2 : List Loc) (cells2 slots2 : Nat) (ls2 : Array Slot), cells2 ≤ cells → slots2 ≤ slots → va_P G.1 vwCl (xW G x a σ ++ uW G y P S rp rs σ ++ []) H2 → va_D (nA s.heap.size) (xW G x a σ ++ uW G y P S rp rs σ ++ []) → va_S (nA s.heap.size) s.heap H2 locs2 → lv_has ls2 23 [(8, .int (iI (σ.1 1 : Nat))), (7, .int (iI (σ.1 0 : Nat))), (4, .int z), (3, .int (iI (t : Int))), (0, .ref b), (1, .ref x), (2, .ref y)] → W pg l e room_1 s m args below meth c H2 locs2 cells2 slots2 Q (F0 m 458 ls2 [])) : W pg l e room_1 s m args below meth c H locs cells slots Q (F0 m 82 ls []) := by
  obtain ⟨hx, hb, hml, hown, hts, hfl, hK, hO, hE, hH, hX, hbl, hL⟩ := C
  have hA : ∀ q : Nat, s.heap.size ≤ q → nA s.heap.size q := fun _ h => h
  have hbA : ¬ nA s.heap.size b := fun h => by have h9 : s.heap.size ≤ b := h; omega
  have hin0 : ∀ w ∈ wsX10, w ∈ wsL_law := inlX1
  have hI := hJ.1
  have hIn := hI.n
  have hIb := hI.b
  refine lv_aload_n hx hb dL_law_82 rfl (lv_at hl 3 rfl) ?_
  refine zc_l (va_runV (As := []) (rest := []) ⟨hx, hb, hml, hown, hts⟩ (c_X0_digest l G x a B σ hI) (cwV 0 hts gL_law_X0_digest rfl rfl rfl (by decide +kernel) ⟨Nat.le_of_ble_eq_true rfl, Nat.le_of_ble_eq_true rfl⟩) (preVX hK (va_Pl (va_Pl hP))) rfl rfl hl.1 rfl (lv_room (Nat.le_of_ble_eq_true rfl)) dL_law_83 ⟨by show cells + 0 ≤ 600130; omega, by show slots + 0 ≤ 7301080; omega⟩) ?_
  refine lv_lstore (lv' := [(5, .long (dig σ)), (4, .int z), (3, .int (iI (t : Int))), (0, .ref b), (1, .ref x), (2, .ref y)]) hx hb dL_law_86 hl (by decide) rfl (fun ls hl => ?_)
  refine lv_aload_n hx hb dL_law_88 rfl (lv_at hl 4 rfl) ?_
  refine zc_i (va_runV (As := []) (rest := []) ⟨hx, hb, hml, hown, hts⟩ (c_X0_persons l G x a B σ hI) (cwV 0 hts gL_law_X0_persons rfl rfl rfl (by decide +kernel) ⟨Nat.le_of_ble_eq_true rfl, Nat.le_of_ble_eq_true rfl⟩) (preVX hK (va_Pl (va_Pl hP))) rfl rfl hl.1 rfl (lv_room (Nat.le_of_ble_eq_true rfl)) dL_law_89 ⟨by show cells + 0 ≤ 600130; omega, by show slots + 0 ≤ 7301080; omega⟩) ?_
  refine lv_istore (lv' := [(7, .int (iI (σ.1 0 : Nat))), (5, .long (dig σ)), (4, .int z), (3, .int (iI (t : Int))), (0, .ref b), (1, .ref x), (2, .ref y)]) hx hb dL_law_92 hl (by decide) rfl (fun ls hl => ?_)
  refine lv_aload_n hx hb dL_law_94 rfl (lv_at hl 5 rfl) ?_
  refine zc_i (va_runV (As := []) (rest := []) ⟨hx, hb, hml, hown, hts⟩ (c_X0_slights l G x a B σ hI) (cwV 0 hts gL_law_X0_slights rfl rfl rfl (by decide +kernel) ⟨Nat.le_of_ble_eq_true rfl, Nat.le_of_ble_eq_true rfl⟩) (preVX hK (va_Pl (va_Pl hP))) rfl rfl hl.1 rfl (lv_room (Nat.le_of_ble_eq_true rfl)) dL_law_95 ⟨by show cells + 0 ≤ 600130; omega, by show slots + 0 ≤ 7301080; omega⟩) ?_
  refine lv_istore (lv' := [(8, .int (iI (σ.1 1 : Nat))), (7, .int (iI (σ.1 0 : Nat))), (5, .long (dig σ)), (4, .int z), (3, .int (iI (t : Int))), (0, .ref b), (1, .ref x), (2, .ref y)]) hx hb dL_law_98 hl (by decide) rfl (fun ls hl => ?_)
  refine lv_iconst (v := iI 0) hx hb dL_law_100 rfl ?_
  refine lv_istore (lv' := [(9, .int (iI 0)), (8, .int (iI (σ.1 1 : Nat))), (7, .int (iI (σ.1 0 : Nat))), (5, .long (dig σ)), (4, .int z), (3, .int (iI (t : Int))), (0, .ref b), (1, .ref x), (2, .ref y)]) hx hb dL_law_101 hl (by decide) rfl (fun ls hl => ?_)
  refine lv_iconst (v := iI 0) hx hb dL_law_103 rfl ?_
  refine lv_istore (lv' := [(10, .int (iI 0)), (9, .int (iI 0)), (8, .int (iI (σ.1 1 : Nat))), (7, .int (iI (σ.1 0 : Nat))), (5, .long (dig σ)), (4, .int z), (3, .int (iI (t : Int))), (0, .ref b), (1, .ref x), (2, .ref y)]) hx hb dL_law_104 hl (by decide) rfl (fun ls hl => ?_)
  refine lv_iconst (v := iI 0) hx hb dL_law_106 rfl ?_
  refine lv_istore (lv' := [(11, .int (iI 0)), (10, .int (iI 0)), (9, .int (iI 0)), (8, .int (iI (σ.1 1 : Nat))), (7, .int (iI (σ.1 0 : Nat))), (5, .long (dig σ)), (4, .int z), (3, .int (iI (t : Int))), (0, .ref b), (1, .ref x), (2, .ref y)]) hx hb dL_law_107 hl (by decide) rfl (fun ls hl => ?_)
  have LP109 : ∀ (r109 : Nat) (p : Nat) (s9 : Int) (s10 : Int), p ≤ σ.1 0 → σ.1 0 - p < r109 → s9 = zs (fun p => bor σ (p : Int)) p → s10 = zs (fun p => owe σ (p : Int)) p → 0 ≤ s9 ∧ s9 ≤ 1980 * p → 0 ≤ s10 ∧ s10 ≤ 1980 * p → ∀ (ls : Array Slot), lv_has ls 23 [(11, .int (iI (p : Int))), (10, .int (iI s10)), (9, .int (iI s9)), (8, .int (iI (σ.1 1 : Nat))), (7, .int (iI (σ.1 0 : Nat))), (5, .long (dig σ)), (4, .int z), (3, .int (iI (t : Int))), (0, .ref b), (1, .ref x), (2, .ref y)] → W pg l e room_1 s m args below meth c H locs cells slots Q (F0 m 109 ls []) := by
    intro r109
    induction r109 with
    | zero => intro p s9 s10 hv109_0 hv109_1; exfalso; omega
    | succ r109 ih109 =>
      intro p s9 s10 hv109_0 hv109_1 hv109_2 hv109_3 hv109_4 hv109_5 ls hl
      refine lv_iload hx hb dL_law_109 (lv_at hl 0 rfl) ?_
      refine lv_iload hx hb dL_law_111 (lv_at hl 4 rfl) ?_
      refine z_icmp_ge (tgt := 201) hx hb dL_law_113 (by decide) (by omega) (by omega) (fun c_1 => ?_) (fun c_1 => ?_)
      ·
        have hb9 : s9 = zs (fun k => σ.2 4 k) (σ.1 1) := by rw [hv109_2, show p = σ.1 0 from by omega]; exact bor_sum hI
        have hb10 : s10 = zs (fun k => σ.2 4 k) (σ.1 1) := by rw [hv109_3, show p = σ.1 0 from by omega]; exact owe_sum hI
        refine lv_iconst (v := iI 0) hx hb dL_law_201 rfl ?_
        refine lv_istore (lv' := [(11, .int (iI 0)), (10, .int (iI s10)), (9, .int (iI s9)), (8, .int (iI (σ.1 1 : Nat))), (7, .int (iI (σ.1 0 : Nat))), (5, .long (dig σ)), (4, .int z), (3, .int (iI (t : Int))), (0, .ref b), (1, .ref x), (2, .ref y)]) hx hb dL_law_202 hl (by decide) rfl (fun ls hl => ?_)
        refine lv_iconst (v := iI 0) hx hb dL_law_204 rfl ?_
        refine lv_istore (lv' := [(12, .int (iI 0)), (11, .int (iI 0)), (10, .int (iI s10)), (9, .int (iI s9)), (8, .int (iI (σ.1 1 : Nat))), (7, .int (iI (σ.1 0 : Nat))), (5, .long (dig σ)), (4, .int z), (3, .int (iI (t : Int))), (0, .ref b), (1, .ref x), (2, .ref y)]) hx hb dL_law_205 hl (by decide) rfl (fun ls hl => ?_)
        have LP207 : ∀ (r207 : Nat) (k : Nat) (s11 : Int), k ≤ σ.1 1 → σ.1 1 - k < r207 → s11 = zs (fun k => σ.2 4 k) k → 0 ≤ s11 ∧ s11 ≤ 99 * k → ∀ (ls : Array Slot), lv_has ls 23 [(12, .int (iI (k : Int))), (11, .int (iI s11)), (10, .int (iI s10)), (9, .int (iI s9)), (8, .int (iI (σ.1 1 : Nat))), (7, .int (iI (σ.1 0 : Nat))), (5, .long (dig σ)), (4, .int z), (3, .int (iI (t : Int))), (0, .ref b), (1, .ref x), (2, .ref y)] → W pg l e room_1 s m args below meth c H locs cells slots Q (F0 m 207 ls []) := by
          intro r207
          induction r207 with
          | zero => intro k s11 hv207_0 hv207_1; exfalso; omega
          | succ r207 ih207 =>
            intro k s11 hv207_0 hv207_1 hv207_2 hv207_3 ls hl
            refine lv_iload hx hb dL_law_207 (lv_at hl 0 rfl) ?_
            refine lv_iload hx hb dL_law_209 (lv_at hl 4 rfl) ?_
            refine z_icmp_ge (tgt := 376) hx hb dL_law_211 (by decide) (by omega) (by omega) (fun c_2 => ?_) (fun c_2 => ?_)
            ·
              have hb11 : s11 = zs (fun k => σ.2 4 k) (σ.1 1) := by rw [hv207_2, show k = σ.1 1 from by omega]
              refine lv_iload hx hb dL_law_376 (lv_at hl 3 rfl) ?_
              refine lv_iload hx hb dL_law_378 (lv_at hl 1 rfl) ?_
              have f_3 := bor_sum hI
              have f_4 := owe_sum hI
              refine z_icmp_ne (tgt := 456) hx hb dL_law_380 (by decide) (by omega) (by omega) (fun c_5 => ?_) (fun c_5 => ?_)
              · exfalso; omega
              ·
                refine lv_iload hx hb dL_law_383 (lv_at hl 2 rfl) ?_
                refine lv_iload hx hb dL_law_385 (lv_at hl 1 rfl) ?_
                refine z_icmp_ne (tgt := 456) hx hb dL_law_387 (by decide) (by omega) (by omega) (fun c_6 => ?_) (fun c_6 => ?_)
                · exfalso; omega
                ·
                  refine lv_aload_n hx hb dL_law_390 rfl (lv_at hl 10 rfl) ?_
                  refine lv_iconst (v := iI 0) hx hb dL_law_391 rfl ?_
                  refine zc_i (va_runV (As := [.int (iI 0)]) (rest := []) ⟨hx, hb, hml, hown, hts⟩ (c_X0_inState l G x a B σ 0 hI (by omega)) (cwV 1 hts gL_law_X0_inState rfl rfl rfl (by decide +kernel) ⟨Nat.le_of_ble_eq_true rfl, Nat.le_of_ble_eq_true rfl⟩) (preVX hK (va_Pl (va_Pl hP))) rfl rfl hl.1 rfl (lv_room (Nat.le_of_ble_eq_true rfl)) dL_law_392 ⟨by show cells + 0 ≤ 600130; omega, by show slots + 0 ≤ 7301080; omega⟩) ?_
                  have f_7 := cnt_bd hI 0
                  refine lv_aload_n hx hb dL_law_395 rfl (lv_at hl 10 rfl) ?_
                  refine lv_iconst (v := iI 1) hx hb dL_law_396 rfl ?_
                  refine zc_i (va_runV (As := [.int (iI 1)]) (rest := [.int (iI (cnt σ 0))]) ⟨hx, hb, hml, hown, hts⟩ (c_X0_inState l G x a B σ 1 hI (by omega)) (cwV 1 hts gL_law_X0_inState rfl rfl rfl (by decide +kernel) ⟨Nat.le_of_ble_eq_true rfl, Nat.le_of_ble_eq_true rfl⟩) (preVX hK (va_Pl (va_Pl hP))) rfl rfl hl.1 rfl (lv_room (Nat.le_of_ble_eq_true rfl)) dL_law_397 ⟨by show cells + 0 ≤ 600130; omega, by show slots + 0 ≤ 7301080; omega⟩) ?_
                  have f_8 := cnt_bd hI 1
                  refine z_iadd hx hb dL_law_400 ?_
                  refine lv_aload_n hx hb dL_law_401 rfl (lv_at hl 10 rfl) ?_
                  refine lv_iconst (v := iI 2) hx hb dL_law_402 rfl ?_
                  refine zc_i (va_runV (As := [.int (iI 2)]) (rest := [.int (iI ((cnt σ 0) + (cnt σ 1)))]) ⟨hx, hb, hml, hown, hts⟩ (c_X0_inState l G x a B σ 2 hI (by omega)) (cwV 1 hts gL_law_X0_inState rfl rfl rfl (by decide +kernel) ⟨Nat.le_of_ble_eq_true rfl, Nat.le_of_ble_eq_true rfl⟩) (preVX hK (va_Pl (va_Pl hP))) rfl rfl hl.1 rfl (lv_room (Nat.le_of_ble_eq_true rfl)) dL_law_403 ⟨by show cells + 0 ≤ 600130; omega, by show slots + 0 ≤ 7301080; omega⟩) ?_
                  have f_9 := cnt_bd hI 2
                  refine z_iadd hx hb dL_law_406 ?_
                  refine lv_aload_n hx hb dL_law_407 rfl (lv_at hl 10 rfl) ?_
                  refine lv_iconst (v := iI 3) hx hb dL_law_408 rfl ?_
                  refine zc_i (va_runV (As := [.int (iI 3)]) (rest := [.int (iI (((cnt σ 0) + (cnt σ 1)) + (cnt σ 2)))]) ⟨hx, hb, hml, hown, hts⟩ (c_X0_inState l G x a B σ 3 hI (by omega)) (cwV 1 hts gL_law_X0_inState rfl rfl rfl (by decide +kernel) ⟨Nat.le_of_ble_eq_true rfl, Nat.le_of_ble_eq_true rfl⟩) (preVX hK (va_Pl (va_Pl hP))) rfl rfl hl.1 rfl (lv_room (Nat.le_of_ble_eq_true rfl)) dL_law_409 ⟨by show cells + 0 ≤ 600130; omega, by show slots + 0 ≤ 7301080; omega⟩) ?_
                  have f_10 := cnt_bd hI 3
                  refine z_iadd hx hb dL_law_412 ?_
                  refine lv_iload hx hb dL_law_413 (lv_at hl 4 rfl) ?_
                  have f_11 := cnt_sum hI
                  refine z_icmp_ne (tgt := 456) hx hb dL_law_415 (by decide) (by omega) (by omega) (fun c_12 => ?_) (fun c_12 => ?_)
                  · exfalso; omega
                  ·
                    refine lv_aload_n hx hb dL_law_418 rfl (lv_at hl 10 rfl) ?_
                    refine zc_i (va_runV (As := []) (rest := []) ⟨hx, hb, hml, hown, hts⟩ (c_X0_heaviest l G x a B σ hI) (cwV 0 hts gL_law_X0_heaviest rfl rfl rfl (by decide +kernel) ⟨Nat.le_of_ble_eq_true rfl, Nat.le_of_ble_eq_true rfl⟩) (preVX hK (va_Pl (va_Pl hP))) rfl rfl hl.1 rfl (lv_room (Nat.le_of_ble_eq_true rfl)) dL_law_419 ⟨by show cells + 0 ≤ 600130; omega, by show slots + 0 ≤ 7301080; omega⟩) ?_
                    have f_13 := hea_cnt σ
                    have f_14 := hea_bd σ
                    refine z_if_ge (tgt := 429) hx hb dL_law_422 (by decide) (by omega) (fun c_15 => ?_) (fun c_15 => ?_)
                    ·
                      refine lv_iconst (v := iI 0) hx hb dL_law_429 rfl ?_
                      refine lv_aload_n hx hb dL_law_430 rfl (lv_at hl 10 rfl) ?_
                      refine lv_iconst (v := iI 0) hx hb dL_law_431 rfl ?_
                      refine zc_i (va_runV (As := [.int (iI 0)]) (rest := [.int (iI 0)]) ⟨hx, hb, hml, hown, hts⟩ (c_X0_inState l G x a B σ 0 hI (by omega)) (cwV 1 hts gL_law_X0_inState rfl rfl rfl (by decide +kernel) ⟨Nat.le_of_ble_eq_true rfl, Nat.le_of_ble_eq_true rfl⟩) (preVX hK (va_Pl (va_Pl hP))) rfl rfl hl.1 rfl (lv_room (Nat.le_of_ble_eq_true rfl)) dL_law_432 ⟨by show cells + 0 ≤ 600130; omega, by show slots + 0 ≤ 7301080; omega⟩) ?_
                      have f_16 := cnt_bd hI 0
                      refine z_if_ne (tgt := 442) hx hb dL_law_435 (by decide) (by omega) (fun c_17 => ?_) (fun c_17 => ?_)
                      ·
                        refine lv_iconst (v := iI 0) hx hb dL_law_442 rfl ?_
                        refine z_icmp_ne (tgt := 456) hx hb dL_law_443 (by decide) (by omega) (by omega) (fun c_18 => ?_) (fun c_18 => ?_)
                        · exfalso; revert c_18; decide
                        ·
                          refine lv_aload_n hx hb dL_law_446 rfl (lv_at hl 10 rfl) ?_
                          refine zc_l (va_runV (As := []) (rest := []) ⟨hx, hb, hml, hown, hts⟩ (c_X0_digest l G x a B σ hI) (cwV 0 hts gL_law_X0_digest rfl rfl rfl (by decide +kernel) ⟨Nat.le_of_ble_eq_true rfl, Nat.le_of_ble_eq_true rfl⟩) (preVX hK (va_Pl (va_Pl hP))) rfl rfl hl.1 rfl (lv_room (Nat.le_of_ble_eq_true rfl)) dL_law_447 ⟨by show cells + 0 ≤ 600130; omega, by show slots + 0 ≤ 7301080; omega⟩) ?_
                          refine lv_lload hx hb dL_law_450 (lv_at hl 6 rfl) ?_
                          refine z_leq (tgt := 458) hx hb rfl dL_law_452 dL_law_453 (by decide) ?_
                          exact kk  H locs _ _ ls (by omega) (by omega) hP hD hS (lv_sub hl [4, 5, 7, 8, 9, 10, 11] rfl)
                      ·
                        refine lv_iconst (v := iI 1) hx hb dL_law_438 rfl ?_
                        refine lv_goto (tgt := 443) hx hb dL_law_439 (by decide) ?_
                        exfalso; omega
                    ·
                      refine lv_iconst (v := iI 1) hx hb dL_law_425 rfl ?_
                      refine lv_goto (tgt := 430) hx hb dL_law_426 (by decide) ?_
                      refine lv_aload_n hx hb dL_law_430 rfl (lv_at hl 10 rfl) ?_
                      refine lv_iconst (v := iI 0) hx hb dL_law_431 rfl ?_
                      refine zc_i (va_runV (As := [.int (iI 0)]) (rest := [.int (iI 1)]) ⟨hx, hb, hml, hown, hts⟩ (c_X0_inState l G x a B σ 0 hI (by omega)) (cwV 1 hts gL_law_X0_inState rfl rfl rfl (by decide +kernel) ⟨Nat.le_of_ble_eq_true rfl, Nat.le_of_ble_eq_true rfl⟩) (preVX hK (va_Pl (va_Pl hP))) rfl rfl hl.1 rfl (lv_room (Nat.le_of_ble_eq_true rfl)) dL_law_432 ⟨by show cells + 0 ≤ 600130; omega, by show slots + 0 ≤ 7301080; omega⟩) ?_
                      have f_19 := cnt_bd hI 0
                      refine z_if_ne (tgt := 442) hx hb dL_law_435 (by decide) (by omega) (fun c_20 => ?_) (fun c_20 => ?_)
                      ·
                        refine lv_iconst (v := iI 0) hx hb dL_law_442 rfl ?_
                        exfalso; omega
                      ·
                        refine lv_iconst (v := iI 1) hx hb dL_law_438 rfl ?_
                        refine lv_goto (tgt := 443) hx hb dL_law_439 (by decide) ?_
                        refine z_icmp_ne (tgt := 456) hx hb dL_law_443 (by decide) (by omega) (by omega) (fun c_21 => ?_) (fun c_21 => ?_)
                        · exfalso; revert c_21; decide
                        ·
                          refine lv_aload_n hx hb dL_law_446 rfl (lv_at hl 10 rfl) ?_
                          refine zc_l (va_runV (As := []) (rest := []) ⟨hx, hb, hml, hown, hts⟩ (c_X0_digest l G x a B σ hI) (cwV 0 hts gL_law_X0_digest rfl rfl rfl (by decide +kernel) ⟨Nat.le_of_ble_eq_true rfl, Nat.le_of_ble_eq_true rfl⟩) (preVX hK (va_Pl (va_Pl hP))) rfl rfl hl.1 rfl (lv_room (Nat.le_of_ble_eq_true rfl)) dL_law_447 ⟨by show cells + 0 ≤ 600130; omega, by show slots + 0 ≤ 7301080; omega⟩) ?_
                          refine lv_lload hx hb dL_law_450 (lv_at hl 6 rfl) ?_
                          refine z_leq (tgt := 458) hx hb rfl dL_law_452 dL_law_453 (by decide) ?_
                          exact kk  H locs _ _ ls (by omega) (by omega) hP hD hS (lv_sub hl [4, 5, 7, 8, 9, 10, 11] rfl)
            ·
              refine lv_aload_n hx hb dL_law_214 rfl (lv_at hl 10 rfl) ?_
              refine lv_iload hx hb dL_law_215 (lv_at hl 0 rfl) ?_
              have f_22 := hI.r4 k
              have f_23 := hI.r5 k
              have f_24 := hI.r6 k
              have f_25 := hI.r7 k
              have f_26 := hJ.2.2 k
              have f_27 := wit_inh σ k
              have f_28 := hI.r4 (hea σ).toNat
              refine zc_i (va_runV (As := [.int (iI (k : Int))]) (rest := []) ⟨hx, hb, hml, hown, hts⟩ (c_X0_weightOf l G x a B σ k hI (by omega)) (cwV 1 hts gL_law_X0_weightOf rfl rfl rfl (by decide +kernel) ⟨Nat.le_of_ble_eq_true rfl, Nat.le_of_ble_eq_true rfl⟩) (preVX hK (va_Pl (va_Pl hP))) rfl rfl hl.1 rfl (lv_room (Nat.le_of_ble_eq_true rfl)) dL_law_217 ⟨by show cells + 0 ≤ 600130; omega, by show slots + 0 ≤ 7301080; omega⟩) ?_
              have f_29 := hI.r4 k
              refine lv_istore (lv' := [(13, .int (iI (σ.2 4 k))), (12, .int (iI (k : Int))), (11, .int (iI s11)), (10, .int (iI s10)), (9, .int (iI s9)), (8, .int (iI (σ.1 1 : Nat))), (7, .int (iI (σ.1 0 : Nat))), (5, .long (dig σ)), (4, .int z), (3, .int (iI (t : Int))), (0, .ref b), (1, .ref x), (2, .ref y)]) hx hb dL_law_220 hl (by decide) rfl (fun ls hl => ?_)
              refine lv_aload_n hx hb dL_law_222 rfl (lv_at hl 11 rfl) ?_
              refine lv_iload hx hb dL_law_223 (lv_at hl 1 rfl) ?_
              refine zc_i (va_runV (As := [.int (iI (k : Int))]) (rest := []) ⟨hx, hb, hml, hown, hts⟩ (c_X0_stateOf l G x a B σ k hI (by omega)) (cwV 1 hts gL_law_X0_stateOf rfl rfl rfl (by decide +kernel) ⟨Nat.le_of_ble_eq_true rfl, Nat.le_of_ble_eq_true rfl⟩) (preVX hK (va_Pl (va_Pl hP))) rfl rfl hl.1 rfl (lv_room (Nat.le_of_ble_eq_true rfl)) dL_law_225 ⟨by show cells + 0 ≤ 600130; omega, by show slots + 0 ≤ 7301080; omega⟩) ?_
              have f_30 := hI.r5 k
              refine z_if_ne (tgt := 235) hx hb dL_law_228 (by decide) (by omega) (fun c_31 => ?_) (fun c_31 => ?_)
              ·
                have f_32 := hI.c4 k (by omega)
                have f_33 := show unt σ k = -1 from if_neg (by omega)
                have f_34 := show wan σ k = -1 from if_neg (by omega)
                refine lv_iconst (v := iI 0) hx hb dL_law_235 rfl ?_
                refine lv_istore (lv' := [(14, .int (iI 0)), (13, .int (iI (σ.2 4 k))), (12, .int (iI (k : Int))), (11, .int (iI s11)), (10, .int (iI s10)), (9, .int (iI s9)), (8, .int (iI (σ.1 1 : Nat))), (7, .int (iI (σ.1 0 : Nat))), (5, .long (dig σ)), (4, .int z), (3, .int (iI (t : Int))), (0, .ref b), (1, .ref x), (2, .ref y)]) hx hb dL_law_236 hl (by decide) rfl (fun ls hl => ?_)
                refine lv_iload hx hb dL_law_238 (lv_at hl 3 rfl) ?_
                refine lv_iload hx hb dL_law_240 (lv_at hl 1 rfl) ?_
                refine z_iadd hx hb dL_law_242 ?_
                refine lv_istore (lv' := [(11, .int (iI (s11 + (σ.2 4 k)))), (14, .int (iI 0)), (13, .int (iI (σ.2 4 k))), (12, .int (iI (k : Int))), (10, .int (iI s10)), (9, .int (iI s9)), (8, .int (iI (σ.1 1 : Nat))), (7, .int (iI (σ.1 0 : Nat))), (5, .long (dig σ)), (4, .int z), (3, .int (iI (t : Int))), (0, .ref b), (1, .ref x), (2, .ref y)]) hx hb dL_law_243 hl (by decide) rfl (fun ls hl => ?_)
                refine lv_iload hx hb dL_law_245 (lv_at hl 1 rfl) ?_
                refine z_if_eq (tgt := 290) hx hb dL_law_247 (by decide) (by omega) (fun c_35 => ?_) (fun c_35 => ?_)
                ·
                  refine lv_iload hx hb dL_law_290 (lv_at hl 2 rfl) ?_
                  refine z_if_ne (tgt := 315) hx hb dL_law_292 (by decide) (by omega) (fun c_36 => ?_) (fun c_36 => ?_)
                  · exfalso; omega
                  ·
                    refine lv_aload_n hx hb dL_law_295 rfl (lv_at hl 12 rfl) ?_
                    refine lv_iload hx hb dL_law_296 (lv_at hl 3 rfl) ?_
                    refine zc_i (va_runV (As := [.int (iI (k : Int))]) (rest := []) ⟨hx, hb, hml, hown, hts⟩ (c_X0_daysUntilForgotten l G x a B σ k hI (by omega)) (cwV 1 hts gL_law_X0_daysUntilForgotten rfl rfl rfl (by decide +kernel) ⟨Nat.le_of_ble_eq_true rfl, Nat.le_of_ble_eq_true rfl⟩) (preVX hK (va_Pl (va_Pl hP))) rfl rfl hl.1 rfl (lv_room (Nat.le_of_ble_eq_true rfl)) dL_law_298 ⟨by show cells + 0 ≤ 600130; omega, by show slots + 0 ≤ 7301080; omega⟩) ?_
                    have f_37 := unt_bd hI k
                    refine lv_iconst (v := iI (-1)) hx hb dL_law_301 rfl ?_
                    refine z_icmp_ne (tgt := 315) hx hb dL_law_302 (by decide) (by omega) (by omega) (fun c_38 => ?_) (fun c_38 => ?_)
                    · exfalso; omega
                    ·
                      refine lv_aload_n hx hb dL_law_305 rfl (lv_at hl 12 rfl) ?_
                      refine lv_iload hx hb dL_law_306 (lv_at hl 3 rfl) ?_
                      refine zc_i (va_runV (As := [.int (iI (k : Int))]) (rest := []) ⟨hx, hb, hml, hown, hts⟩ (c_X0_wordsWanted l G x a B σ k hI (by omega)) (cwV 1 hts gL_law_X0_wordsWanted rfl rfl rfl (by decide +kernel) ⟨Nat.le_of_ble_eq_true rfl, Nat.le_of_ble_eq_true rfl⟩) (preVX hK (va_Pl (va_Pl hP))) rfl rfl hl.1 rfl (lv_room (Nat.le_of_ble_eq_true rfl)) dL_law_308 ⟨by show cells + 0 ≤ 600130; omega, by show slots + 0 ≤ 7301080; omega⟩) ?_
                      have f_39 := wan_bd σ k
                      refine lv_iconst (v := iI (-1)) hx hb dL_law_311 rfl ?_
                      refine z_icmp_eq (tgt := 317) hx hb dL_law_312 (by decide) (by omega) (by omega) (fun c_40 => ?_) (fun c_40 => ?_)
                      ·
                        refine lv_aload_n hx hb dL_law_317 rfl (lv_at hl 12 rfl) ?_
                        refine lv_iload hx hb dL_law_318 (lv_at hl 3 rfl) ?_
                        refine zc_i (va_runV (As := [.int (iI (k : Int))]) (rest := []) ⟨hx, hb, hml, hown, hts⟩ (c_X0_quietFor l G x a B σ k hI (by omega)) (cwV 1 hts gL_law_X0_quietFor rfl rfl rfl (by decide +kernel) ⟨Nat.le_of_ble_eq_true rfl, Nat.le_of_ble_eq_true rfl⟩) (preVX hK (va_Pl (va_Pl hP))) rfl rfl hl.1 rfl (lv_room (Nat.le_of_ble_eq_true rfl)) dL_law_320 ⟨by show cells + 0 ≤ 600130; omega, by show slots + 0 ≤ 7301080; omega⟩) ?_
                        have f_41 := hI.r7 k
                        refine lv_aload_n hx hb dL_law_323 rfl (lv_at hl 12 rfl) ?_
                        refine lv_iload hx hb dL_law_324 (lv_at hl 3 rfl) ?_
                        refine zc_i (va_runV (As := [.int (iI (k : Int))]) (rest := [.int (iI (σ.2 7 k))]) ⟨hx, hb, hml, hown, hts⟩ (c_X0_borneFor l G x a B σ k hI (by omega)) (cwV 1 hts gL_law_X0_borneFor rfl rfl rfl (by decide +kernel) ⟨Nat.le_of_ble_eq_true rfl, Nat.le_of_ble_eq_true rfl⟩) (preVX hK (va_Pl (va_Pl hP))) rfl rfl hl.1 rfl (lv_room (Nat.le_of_ble_eq_true rfl)) dL_law_326 ⟨by show cells + 0 ≤ 600130; omega, by show slots + 0 ≤ 7301080; omega⟩) ?_
                        have f_42 := hI.r6 k
                        refine z_icmp_gt (tgt := 368) hx hb dL_law_329 (by decide) (by omega) (by omega) (fun c_43 => ?_) (fun c_43 => ?_)
                        · exfalso; omega
                        ·
                          refine lv_aload_n hx hb dL_law_332 rfl (lv_at hl 12 rfl) ?_
                          refine lv_iload hx hb dL_law_333 (lv_at hl 3 rfl) ?_
                          refine zc_i (va_runV (As := [.int (iI (k : Int))]) (rest := []) ⟨hx, hb, hml, hown, hts⟩ (c_X0_witnessesFor l G x a B σ k hI (by omega)) (cwV 1 hts gL_law_X0_witnessesFor rfl rfl rfl (by decide +kernel) ⟨Nat.le_of_ble_eq_true rfl, Nat.le_of_ble_eq_true rfl⟩) (preVX hK (va_Pl (va_Pl hP))) rfl rfl hl.1 rfl (lv_room (Nat.le_of_ble_eq_true rfl)) dL_law_335 ⟨by show cells + 0 ≤ 600130; omega, by show slots + 0 ≤ 7301080; omega⟩) ?_
                          have f_44 := wit_bd hI k
                          refine lv_aload_n hx hb dL_law_338 rfl (lv_at hl 12 rfl) ?_
                          refine zc_i (va_runV (As := []) (rest := [.int (iI (wit σ k))]) ⟨hx, hb, hml, hown, hts⟩ (c_X0_inHall l G x a B σ hI) (cwV 0 hts gL_law_X0_inHall rfl rfl rfl (by decide +kernel) ⟨Nat.le_of_ble_eq_true rfl, Nat.le_of_ble_eq_true rfl⟩) (preVX hK (va_Pl (va_Pl hP))) rfl rfl hl.1 rfl (lv_room (Nat.le_of_ble_eq_true rfl)) dL_law_339 ⟨by show cells + 0 ≤ 600130; omega, by show slots + 0 ≤ 7301080; omega⟩) ?_
                          have f_45 := inh_bd hI
                          refine z_icmp_gt (tgt := 368) hx hb dL_law_342 (by decide) (by omega) (by omega) (fun c_46 => ?_) (fun c_46 => ?_)
                          · exfalso; omega
                          ·
                            refine lv_iload hx hb dL_law_345 (lv_at hl 1 rfl) ?_
                            refine z_if_eq (tgt := 370) hx hb dL_law_347 (by decide) (by omega) (fun c_47 => ?_) (fun c_47 => ?_)
                            ·
                              refine lv_iinc (v := iI ((k + 1 : Nat) : Int)) (lv' := [(12, .int (iI ((k + 1 : Nat) : Int))), (11, .int (iI (s11 + (σ.2 4 k)))), (14, .int (iI 0)), (13, .int (iI (σ.2 4 k))), (10, .int (iI s10)), (9, .int (iI s9)), (8, .int (iI (σ.1 1 : Nat))), (7, .int (iI (σ.1 0 : Nat))), (5, .long (dig σ)), (4, .int z), (3, .int (iI (t : Int))), (0, .ref b), (1, .ref x), (2, .ref y)]) hx hb dL_law_370 hl (k := 3) rfl ((iI_add _ _).trans (congrArg iI (by omega))) (by decide) rfl (fun ls hl => ?_)
                              refine lv_goto (tgt := 207) hx hb dL_law_373 (by decide) ?_
                              exact ih207 (k + 1) (s11 + (σ.2 4 k)) (by omega) (by omega) (by rw [zs_s, ← hv207_2]) (by omega) ls (lv_sub hl [0, 1, 4, 5, 6, 7, 8, 9, 10, 11, 12, 13] rfl)
                            · exfalso; revert c_47; decide
                      · exfalso; omega
                · exfalso; revert c_35; decide
              ·
                have f_48 := hI.o4 (k := k) (by omega) (by omega)
                have f_49 := hI.o7 k (by omega)
                have f_50 := hea_max σ (k := k) (by omega) (by omega)
                have f_51 := show unt σ k = 30 - σ.2 7 k from if_pos (by omega)
                refine lv_iconst (v := iI 1) hx hb dL_law_231 rfl ?_
                refine lv_goto (tgt := 236) hx hb dL_law_232 (by decide) ?_
                refine lv_istore (lv' := [(14, .int (iI 1)), (13, .int (iI (σ.2 4 k))), (12, .int (iI (k : Int))), (11, .int (iI s11)), (10, .int (iI s10)), (9, .int (iI s9)), (8, .int (iI (σ.1 1 : Nat))), (7, .int (iI (σ.1 0 : Nat))), (5, .long (dig σ)), (4, .int z), (3, .int (iI (t : Int))), (0, .ref b), (1, .ref x), (2, .ref y)]) hx hb dL_law_236 hl (by decide) rfl (fun ls hl => ?_)
                refine lv_iload hx hb dL_law_238 (lv_at hl 3 rfl) ?_
                refine lv_iload hx hb dL_law_240 (lv_at hl 1 rfl) ?_
                refine z_iadd hx hb dL_law_242 ?_
                refine lv_istore (lv' := [(11, .int (iI (s11 + (σ.2 4 k)))), (14, .int (iI 1)), (13, .int (iI (σ.2 4 k))), (12, .int (iI (k : Int))), (10, .int (iI s10)), (9, .int (iI s9)), (8, .int (iI (σ.1 1 : Nat))), (7, .int (iI (σ.1 0 : Nat))), (5, .long (dig σ)), (4, .int z), (3, .int (iI (t : Int))), (0, .ref b), (1, .ref x), (2, .ref y)]) hx hb dL_law_243 hl (by decide) rfl (fun ls hl => ?_)
                refine lv_iload hx hb dL_law_245 (lv_at hl 1 rfl) ?_
                refine z_if_eq (tgt := 290) hx hb dL_law_247 (by decide) (by omega) (fun c_52 => ?_) (fun c_52 => ?_)
                · exfalso; revert c_52; decide
                ·
                  refine lv_iload hx hb dL_law_250 (lv_at hl 2 rfl) ?_
                  refine lv_iconst (v := iI 1) hx hb dL_law_252 rfl ?_
                  refine z_icmp_lt (tgt := 315) hx hb dL_law_253 (by decide) (by omega) (by omega) (fun c_53 => ?_) (fun c_53 => ?_)
                  · exfalso; omega
                  ·
                    refine lv_iload hx hb dL_law_256 (lv_at hl 2 rfl) ?_
                    refine lv_bipush (v := iI 99) hx hb dL_law_258 (by decide) ?_
                    refine z_icmp_gt (tgt := 315) hx hb dL_law_260 (by decide) (by omega) (by omega) (fun c_54 => ?_) (fun c_54 => ?_)
                    · exfalso; omega
                    ·
                      refine lv_aload_n hx hb dL_law_263 rfl (lv_at hl 12 rfl) ?_
                      refine lv_iload hx hb dL_law_264 (lv_at hl 3 rfl) ?_
                      refine zc_i (va_runV (As := [.int (iI (k : Int))]) (rest := []) ⟨hx, hb, hml, hown, hts⟩ (c_X0_quietFor l G x a B σ k hI (by omega)) (cwV 1 hts gL_law_X0_quietFor rfl rfl rfl (by decide +kernel) ⟨Nat.le_of_ble_eq_true rfl, Nat.le_of_ble_eq_true rfl⟩) (preVX hK (va_Pl (va_Pl hP))) rfl rfl hl.1 rfl (lv_room (Nat.le_of_ble_eq_true rfl)) dL_law_266 ⟨by show cells + 0 ≤ 600130; omega, by show slots + 0 ≤ 7301080; omega⟩) ?_
                      have f_55 := hI.r7 k
                      refine lv_bipush (v := iI 29) hx hb dL_law_269 (by decide) ?_
                      refine z_icmp_gt (tgt := 315) hx hb dL_law_271 (by decide) (by omega) (by omega) (fun c_56 => ?_) (fun c_56 => ?_)
                      · exfalso; omega
                      ·
                        refine lv_iload hx hb dL_law_274 (lv_at hl 2 rfl) ?_
                        refine lv_aload_n hx hb dL_law_276 rfl (lv_at hl 12 rfl) ?_
                        refine lv_aload_n hx hb dL_law_277 rfl (lv_at hl 12 rfl) ?_
                        refine zc_i (va_runV (As := []) (rest := [.ref x, .int (iI (σ.2 4 k))]) ⟨hx, hb, hml, hown, hts⟩ (c_X0_heaviest l G x a B σ hI) (cwV 0 hts gL_law_X0_heaviest rfl rfl rfl (by decide +kernel) ⟨Nat.le_of_ble_eq_true rfl, Nat.le_of_ble_eq_true rfl⟩) (preVX hK (va_Pl (va_Pl hP))) rfl rfl hl.1 rfl (lv_room (Nat.le_of_ble_eq_true rfl)) dL_law_278 ⟨by show cells + 0 ≤ 600130; omega, by show slots + 0 ≤ 7301080; omega⟩) ?_
                        refine z_re (v' := iI (((hea σ).toNat : Nat) : Int)) (congrArg iI (by omega)) ?_
                        refine zc_i (va_runV (As := [.int (iI (((hea σ).toNat : Nat) : Int))]) (rest := [.int (iI (σ.2 4 k))]) ⟨hx, hb, hml, hown, hts⟩ (c_X0_weightOf l G x a B σ ((hea σ).toNat) hI (by omega)) (cwV 1 hts gL_law_X0_weightOf rfl rfl rfl (by decide +kernel) ⟨Nat.le_of_ble_eq_true rfl, Nat.le_of_ble_eq_true rfl⟩) (preVX hK (va_Pl (va_Pl hP))) rfl rfl hl.1 rfl (lv_room (Nat.le_of_ble_eq_true rfl)) dL_law_281 ⟨by show cells + 0 ≤ 600130; omega, by show slots + 0 ≤ 7301080; omega⟩) ?_
                        have f_57 := hI.r4 ((hea σ).toNat)
                        refine z_icmp_le (tgt := 317) hx hb dL_law_284 (by decide) (by omega) (by omega) (fun c_58 => ?_) (fun c_58 => ?_)
                        ·
                          refine lv_aload_n hx hb dL_law_317 rfl (lv_at hl 12 rfl) ?_
                          refine lv_iload hx hb dL_law_318 (lv_at hl 3 rfl) ?_
                          refine zc_i (va_runV (As := [.int (iI (k : Int))]) (rest := []) ⟨hx, hb, hml, hown, hts⟩ (c_X0_quietFor l G x a B σ k hI (by omega)) (cwV 1 hts gL_law_X0_quietFor rfl rfl rfl (by decide +kernel) ⟨Nat.le_of_ble_eq_true rfl, Nat.le_of_ble_eq_true rfl⟩) (preVX hK (va_Pl (va_Pl hP))) rfl rfl hl.1 rfl (lv_room (Nat.le_of_ble_eq_true rfl)) dL_law_320 ⟨by show cells + 0 ≤ 600130; omega, by show slots + 0 ≤ 7301080; omega⟩) ?_
                          have f_59 := hI.r7 k
                          refine lv_aload_n hx hb dL_law_323 rfl (lv_at hl 12 rfl) ?_
                          refine lv_iload hx hb dL_law_324 (lv_at hl 3 rfl) ?_
                          refine zc_i (va_runV (As := [.int (iI (k : Int))]) (rest := [.int (iI (σ.2 7 k))]) ⟨hx, hb, hml, hown, hts⟩ (c_X0_borneFor l G x a B σ k hI (by omega)) (cwV 1 hts gL_law_X0_borneFor rfl rfl rfl (by decide +kernel) ⟨Nat.le_of_ble_eq_true rfl, Nat.le_of_ble_eq_true rfl⟩) (preVX hK (va_Pl (va_Pl hP))) rfl rfl hl.1 rfl (lv_room (Nat.le_of_ble_eq_true rfl)) dL_law_326 ⟨by show cells + 0 ≤ 600130; omega, by show slots + 0 ≤ 7301080; omega⟩) ?_
                          have f_60 := hI.r6 k
                          refine z_icmp_gt (tgt := 368) hx hb dL_law_329 (by decide) (by omega) (by omega) (fun c_61 => ?_) (fun c_61 => ?_)
                          · exfalso; omega
                          ·
                            refine lv_aload_n hx hb dL_law_332 rfl (lv_at hl 12 rfl) ?_
                            refine lv_iload hx hb dL_law_333 (lv_at hl 3 rfl) ?_
                            refine zc_i (va_runV (As := [.int (iI (k : Int))]) (rest := []) ⟨hx, hb, hml, hown, hts⟩ (c_X0_witnessesFor l G x a B σ k hI (by omega)) (cwV 1 hts gL_law_X0_witnessesFor rfl rfl rfl (by decide +kernel) ⟨Nat.le_of_ble_eq_true rfl, Nat.le_of_ble_eq_true rfl⟩) (preVX hK (va_Pl (va_Pl hP))) rfl rfl hl.1 rfl (lv_room (Nat.le_of_ble_eq_true rfl)) dL_law_335 ⟨by show cells + 0 ≤ 600130; omega, by show slots + 0 ≤ 7301080; omega⟩) ?_
                            have f_62 := wit_bd hI k
                            refine lv_aload_n hx hb dL_law_338 rfl (lv_at hl 12 rfl) ?_
                            refine zc_i (va_runV (As := []) (rest := [.int (iI (wit σ k))]) ⟨hx, hb, hml, hown, hts⟩ (c_X0_inHall l G x a B σ hI) (cwV 0 hts gL_law_X0_inHall rfl rfl rfl (by decide +kernel) ⟨Nat.le_of_ble_eq_true rfl, Nat.le_of_ble_eq_true rfl⟩) (preVX hK (va_Pl (va_Pl hP))) rfl rfl hl.1 rfl (lv_room (Nat.le_of_ble_eq_true rfl)) dL_law_339 ⟨by show cells + 0 ≤ 600130; omega, by show slots + 0 ≤ 7301080; omega⟩) ?_
                            have f_63 := inh_bd hI
                            refine z_icmp_gt (tgt := 368) hx hb dL_law_342 (by decide) (by omega) (by omega) (fun c_64 => ?_) (fun c_64 => ?_)
                            · exfalso; omega
                            ·
                              refine lv_iload hx hb dL_law_345 (lv_at hl 1 rfl) ?_
                              refine z_if_eq (tgt := 370) hx hb dL_law_347 (by decide) (by omega) (fun c_65 => ?_) (fun c_65 => ?_)
                              · exfalso; revert c_65; decide
                              ·
                                refine lv_aload_n hx hb dL_law_350 rfl (lv_at hl 12 rfl) ?_
                                refine lv_iload hx hb dL_law_351 (lv_at hl 3 rfl) ?_
                                refine zc_i (va_runV (As := [.int (iI (k : Int))]) (rest := []) ⟨hx, hb, hml, hown, hts⟩ (c_X0_daysUntilForgotten l G x a B σ k hI (by omega)) (cwV 1 hts gL_law_X0_daysUntilForgotten rfl rfl rfl (by decide +kernel) ⟨Nat.le_of_ble_eq_true rfl, Nat.le_of_ble_eq_true rfl⟩) (preVX hK (va_Pl (va_Pl hP))) rfl rfl hl.1 rfl (lv_room (Nat.le_of_ble_eq_true rfl)) dL_law_353 ⟨by show cells + 0 ≤ 600130; omega, by show slots + 0 ≤ 7301080; omega⟩) ?_
                                have f_66 := unt_bd hI k
                                refine lv_aload_n hx hb dL_law_356 rfl (lv_at hl 12 rfl) ?_
                                refine lv_iload hx hb dL_law_357 (lv_at hl 3 rfl) ?_
                                refine zc_i (va_runV (As := [.int (iI (k : Int))]) (rest := [.int (iI (unt σ k))]) ⟨hx, hb, hml, hown, hts⟩ (c_X0_quietFor l G x a B σ k hI (by omega)) (cwV 1 hts gL_law_X0_quietFor rfl rfl rfl (by decide +kernel) ⟨Nat.le_of_ble_eq_true rfl, Nat.le_of_ble_eq_true rfl⟩) (preVX hK (va_Pl (va_Pl hP))) rfl rfl hl.1 rfl (lv_room (Nat.le_of_ble_eq_true rfl)) dL_law_359 ⟨by show cells + 0 ≤ 600130; omega, by show slots + 0 ≤ 7301080; omega⟩) ?_
                                have f_67 := hI.r7 k
                                refine z_iadd hx hb dL_law_362 ?_
                                refine lv_bipush (v := iI 30) hx hb dL_law_363 (by decide) ?_
                                refine z_icmp_eq (tgt := 370) hx hb dL_law_365 (by decide) (by omega) (by omega) (fun c_68 => ?_) (fun c_68 => ?_)
                                ·
                                  refine lv_iinc (v := iI ((k + 1 : Nat) : Int)) (lv' := [(12, .int (iI ((k + 1 : Nat) : Int))), (11, .int (iI (s11 + (σ.2 4 k)))), (14, .int (iI 1)), (13, .int (iI (σ.2 4 k))), (10, .int (iI s10)), (9, .int (iI s9)), (8, .int (iI (σ.1 1 : Nat))), (7, .int (iI (σ.1 0 : Nat))), (5, .long (dig σ)), (4, .int z), (3, .int (iI (t : Int))), (0, .ref b), (1, .ref x), (2, .ref y)]) hx hb dL_law_370 hl (k := 3) rfl ((iI_add _ _).trans (congrArg iI (by omega))) (by decide) rfl (fun ls hl => ?_)
                                  refine lv_goto (tgt := 207) hx hb dL_law_373 (by decide) ?_
                                  exact ih207 (k + 1) (s11 + (σ.2 4 k)) (by omega) (by omega) (by rw [zs_s, ← hv207_2]) (by omega) ls (lv_sub hl [0, 1, 4, 5, 6, 7, 8, 9, 10, 11, 12, 13] rfl)
                                · exfalso; omega
                        · exfalso; omega
        exact LP207 (σ.1 1 - 0 + 1) 0 0 (by omega) (by omega) (by rfl) (by omega) ls (lv_sub hl [0, 1, 2, 3, 4, 5, 6, 7, 8, 9, 10, 11] rfl)
      ·
        refine lv_iload hx hb dL_law_116 (lv_at hl 2 rfl) ?_
        refine lv_aload_n hx hb dL_law_118 rfl (lv_at hl 9 rfl) ?_
        refine lv_iload hx hb dL_law_119 (lv_at hl 0 rfl) ?_
        refine zc_i (va_runV (As := [.int (iI (p : Int))]) (rest := [.int (iI s9)]) ⟨hx, hb, hml, hown, hts⟩ (c_X0_borneBy l G x a B σ p hI (by omega)) (cwV 1 hts gL_law_X0_borneBy rfl rfl rfl (by decide +kernel) ⟨Nat.le_of_ble_eq_true rfl, Nat.le_of_ble_eq_true rfl⟩) (preVX hK (va_Pl (va_Pl hP))) rfl rfl hl.1 rfl (lv_room (Nat.le_of_ble_eq_true rfl)) dL_law_121 ⟨by show cells + 0 ≤ 600130; omega, by show slots + 0 ≤ 7301080; omega⟩) ?_
        have f_69 := bor_bd hI (p : Int)
        refine z_iadd hx hb dL_law_124 ?_
        refine lv_istore (lv' := [(9, .int (iI (s9 + (bor σ (p : Int))))), (11, .int (iI (p : Int))), (10, .int (iI s10)), (8, .int (iI (σ.1 1 : Nat))), (7, .int (iI (σ.1 0 : Nat))), (5, .long (dig σ)), (4, .int z), (3, .int (iI (t : Int))), (0, .ref b), (1, .ref x), (2, .ref y)]) hx hb dL_law_125 hl (by decide) rfl (fun ls hl => ?_)
        refine lv_iload hx hb dL_law_127 (lv_at hl 2 rfl) ?_
        refine lv_aload_n hx hb dL_law_129 rfl (lv_at hl 9 rfl) ?_
        refine lv_iload hx hb dL_law_130 (lv_at hl 1 rfl) ?_
        refine zc_i (va_runV (As := [.int (iI (p : Int))]) (rest := [.int (iI s10)]) ⟨hx, hb, hml, hown, hts⟩ (c_X0_owedBy l G x a B σ p hI (by omega)) (cwV 1 hts gL_law_X0_owedBy rfl rfl rfl (by decide +kernel) ⟨Nat.le_of_ble_eq_true rfl, Nat.le_of_ble_eq_true rfl⟩) (preVX hK (va_Pl (va_Pl hP))) rfl rfl hl.1 rfl (lv_room (Nat.le_of_ble_eq_true rfl)) dL_law_132 ⟨by show cells + 0 ≤ 600130; omega, by show slots + 0 ≤ 7301080; omega⟩) ?_
        have f_70 := owe_bd hI (p : Int)
        refine z_iadd hx hb dL_law_135 ?_
        refine lv_istore (lv' := [(10, .int (iI (s10 + (owe σ (p : Int))))), (9, .int (iI (s9 + (bor σ (p : Int))))), (11, .int (iI (p : Int))), (8, .int (iI (σ.1 1 : Nat))), (7, .int (iI (σ.1 0 : Nat))), (5, .long (dig σ)), (4, .int z), (3, .int (iI (t : Int))), (0, .ref b), (1, .ref x), (2, .ref y)]) hx hb dL_law_136 hl (by decide) rfl (fun ls hl => ?_)
        have f_71 := sor_max σ (p := p) (by omega)
        refine lv_aload_n hx hb dL_law_138 rfl (lv_at hl 9 rfl) ?_
        refine lv_iload hx hb dL_law_139 (lv_at hl 2 rfl) ?_
        refine zc_i (va_runV (As := [.int (iI (p : Int))]) (rest := []) ⟨hx, hb, hml, hown, hts⟩ (c_X0_borneBy l G x a B σ p hI (by omega)) (cwV 1 hts gL_law_X0_borneBy rfl rfl rfl (by decide +kernel) ⟨Nat.le_of_ble_eq_true rfl, Nat.le_of_ble_eq_true rfl⟩) (preVX hK (va_Pl (va_Pl hP))) rfl rfl hl.1 rfl (lv_room (Nat.le_of_ble_eq_true rfl)) dL_law_141 ⟨by show cells + 0 ≤ 600130; omega, by show slots + 0 ≤ 7301080; omega⟩) ?_
        have f_72 := bor_bd hI (p : Int)
        refine lv_aload_n hx hb dL_law_144 rfl (lv_at hl 9 rfl) ?_
        refine lv_aload_n hx hb dL_law_145 rfl (lv_at hl 9 rfl) ?_
        refine zc_i (va_runV (As := []) (rest := [.ref x, .int (iI (bor σ (p : Int)))]) ⟨hx, hb, hml, hown, hts⟩ (c_X0_sorest l G x a B σ hI) (cwV 0 hts gL_law_X0_sorest rfl rfl rfl (by decide +kernel) ⟨Nat.le_of_ble_eq_true rfl, Nat.le_of_ble_eq_true rfl⟩) (preVX hK (va_Pl (va_Pl hP))) rfl rfl hl.1 rfl (lv_room (Nat.le_of_ble_eq_true rfl)) dL_law_146 ⟨by show cells + 0 ≤ 600130; omega, by show slots + 0 ≤ 7301080; omega⟩) ?_
        refine z_re (v' := iI (((sor σ).toNat : Nat) : Int)) (congrArg iI (by omega)) ?_
        refine zc_i (va_runV (As := [.int (iI (((sor σ).toNat : Nat) : Int))]) (rest := [.int (iI (bor σ (p : Int)))]) ⟨hx, hb, hml, hown, hts⟩ (c_X0_borneBy l G x a B σ ((sor σ).toNat) hI (by omega)) (cwV 1 hts gL_law_X0_borneBy rfl rfl rfl (by decide +kernel) ⟨Nat.le_of_ble_eq_true rfl, Nat.le_of_ble_eq_true rfl⟩) (preVX hK (va_Pl (va_Pl hP))) rfl rfl hl.1 rfl (lv_room (Nat.le_of_ble_eq_true rfl)) dL_law_149 ⟨by show cells + 0 ≤ 600130; omega, by show slots + 0 ≤ 7301080; omega⟩) ?_
        have f_73 := bor_bd hI (((sor σ).toNat) : Int)
        refine z_icmp_le (tgt := 157) hx hb dL_law_152 (by decide) (by omega) (by omega) (fun c_74 => ?_) (fun c_74 => ?_)
        ·
          refine lv_iconst (v := iI 0) hx hb dL_law_157 rfl ?_
          refine lv_istore (lv' := [(12, .int (iI 0)), (10, .int (iI (s10 + (owe σ (p : Int))))), (9, .int (iI (s9 + (bor σ (p : Int))))), (11, .int (iI (p : Int))), (8, .int (iI (σ.1 1 : Nat))), (7, .int (iI (σ.1 0 : Nat))), (5, .long (dig σ)), (4, .int z), (3, .int (iI (t : Int))), (0, .ref b), (1, .ref x), (2, .ref y)]) hx hb dL_law_158 hl (by decide) rfl (fun ls hl => ?_)
          have LP160 : ∀ (r160 : Nat) (o : Nat), o ≤ σ.1 0 → σ.1 0 - o < r160 → ∀ (ls : Array Slot), lv_has ls 23 [(12, .int (iI (o : Int))), (10, .int (iI (s10 + (owe σ (p : Int))))), (9, .int (iI (s9 + (bor σ (p : Int))))), (11, .int (iI (p : Int))), (8, .int (iI (σ.1 1 : Nat))), (7, .int (iI (σ.1 0 : Nat))), (5, .long (dig σ)), (4, .int z), (3, .int (iI (t : Int))), (0, .ref b), (1, .ref x), (2, .ref y)] → W pg l e room_1 s m args below meth c H locs cells slots Q (F0 m 160 ls []) := by
            intro r160
            induction r160 with
            | zero => intro o hv160_0 hv160_1; exfalso; omega
            | succ r160 ih160 =>
              intro o hv160_0 hv160_1 ls hl
              refine lv_iload hx hb dL_law_160 (lv_at hl 0 rfl) ?_
              refine lv_iload hx hb dL_law_162 (lv_at hl 5 rfl) ?_
              refine z_icmp_ge (tgt := 195) hx hb dL_law_164 (by decide) (by omega) (by omega) (fun c_75 => ?_) (fun c_75 => ?_)
              ·
                refine lv_iinc (v := iI ((p + 1 : Nat) : Int)) (lv' := [(11, .int (iI ((p + 1 : Nat) : Int))), (12, .int (iI (o : Int))), (10, .int (iI (s10 + (owe σ (p : Int))))), (9, .int (iI (s9 + (bor σ (p : Int))))), (8, .int (iI (σ.1 1 : Nat))), (7, .int (iI (σ.1 0 : Nat))), (5, .long (dig σ)), (4, .int z), (3, .int (iI (t : Int))), (0, .ref b), (1, .ref x), (2, .ref y)]) hx hb dL_law_195 hl (k := 3) rfl ((iI_add _ _).trans (congrArg iI (by omega))) (by decide) rfl (fun ls hl => ?_)
                refine lv_goto (tgt := 109) hx hb dL_law_198 (by decide) ?_
                exact ih109 (p + 1) (s9 + (bor σ (p : Int))) (s10 + (owe σ (p : Int))) (by omega) (by omega) (by rw [zs_s, ← hv109_2]) (by rw [zs_s, ← hv109_3]) (by omega) (by omega) ls (lv_sub hl [0, 2, 3, 4, 5, 6, 7, 8, 9, 10, 11] rfl)
              ·
                refine lv_aload_n hx hb dL_law_167 rfl (lv_at hl 10 rfl) ?_
                refine lv_iload hx hb dL_law_168 (lv_at hl 3 rfl) ?_
                refine lv_iload hx hb dL_law_170 (lv_at hl 0 rfl) ?_
                refine zc_i (va_runV (As := [.int (iI (p : Int)), .int (iI (o : Int))]) (rest := []) ⟨hx, hb, hml, hown, hts⟩ (c_X0_balance l G x a B σ p o hI (by omega) (by omega)) (cwV 2 hts gL_law_X0_balance rfl rfl rfl (by decide +kernel) ⟨Nat.le_of_ble_eq_true rfl, Nat.le_of_ble_eq_true rfl⟩) (preVX hK (va_Pl (va_Pl hP))) rfl rfl hl.1 rfl (lv_room (Nat.le_of_ble_eq_true rfl)) dL_law_172 ⟨by show cells + 0 ≤ 600130; omega, by show slots + 0 ≤ 7301080; omega⟩) ?_
                refine lv_aload_n hx hb dL_law_175 rfl (lv_at hl 10 rfl) ?_
                refine lv_iload hx hb dL_law_176 (lv_at hl 0 rfl) ?_
                refine lv_iload hx hb dL_law_178 (lv_at hl 3 rfl) ?_
                refine zc_i (va_runV (As := [.int (iI (o : Int)), .int (iI (p : Int))]) (rest := [.int (iI (btw σ (p : Int) (o : Int) - btw σ (o : Int) (p : Int)))]) ⟨hx, hb, hml, hown, hts⟩ (c_X0_balance l G x a B σ o p hI (by omega) (by omega)) (cwV 2 hts gL_law_X0_balance rfl rfl rfl (by decide +kernel) ⟨Nat.le_of_ble_eq_true rfl, Nat.le_of_ble_eq_true rfl⟩) (preVX hK (va_Pl (va_Pl hP))) rfl rfl hl.1 rfl (lv_room (Nat.le_of_ble_eq_true rfl)) dL_law_180 ⟨by show cells + 0 ≤ 600130; omega, by show slots + 0 ≤ 7301080; omega⟩) ?_
                refine lv_ineg hx hb dL_law_183 ?_
                refine z_re (v' := iI (-(btw σ (o : Int) (p : Int) - btw σ (p : Int) (o : Int)))) (iI_neg _) ?_
                have f_76 := btw_bd hI (p : Int) (o : Int)
                have f_77 := btw_bd hI (o : Int) (p : Int)
                refine z_icmp_eq (tgt := 189) hx hb dL_law_184 (by decide) (by omega) (by omega) (fun c_78 => ?_) (fun c_78 => ?_)
                ·
                  refine lv_iinc (v := iI ((o + 1 : Nat) : Int)) (lv' := [(12, .int (iI ((o + 1 : Nat) : Int))), (10, .int (iI (s10 + (owe σ (p : Int))))), (9, .int (iI (s9 + (bor σ (p : Int))))), (11, .int (iI (p : Int))), (8, .int (iI (σ.1 1 : Nat))), (7, .int (iI (σ.1 0 : Nat))), (5, .long (dig σ)), (4, .int z), (3, .int (iI (t : Int))), (0, .ref b), (1, .ref x), (2, .ref y)]) hx hb dL_law_189 hl (k := 0) rfl ((iI_add _ _).trans (congrArg iI (by omega))) (by decide) rfl (fun ls hl => ?_)
                  refine lv_goto (tgt := 160) hx hb dL_law_192 (by decide) ?_
                  exact ih160 (o + 1)  (by omega) (by omega) ls (lv_sub hl [0, 1, 2, 3, 4, 5, 6, 7, 8, 9, 10, 11] rfl)
                · exfalso; omega
          exact LP160 (σ.1 0 - 0 + 1) 0  (by omega) (by omega) ls (lv_sub hl [0, 1, 2, 3, 4, 5, 6, 7, 8, 9, 10, 11] rfl)
        · exfalso; omega
  exact LP109 (σ.1 0 - 0 + 1) 0 0 0 (by omega) (by omega) (by rfl) (by rfl) (by omega) (by omega) ls (lv_sub hl [0, 1, 2, 3, 4, 5, 6, 7, 8, 9, 10] rfl)
set_option maxHeartbeats 8000000 in
set_option maxRecDepth 100000 in
theorem seg_apo (C : lC pg l s m args c G b L xs) {B : Nat} {σ : zS} {P S : Nat} {rp rs : Nat → Nat} {z : Int32} {t n mm : Nat} {H : Heap} {locs : List Loc} {cells slots : Nat} {ls : Array Slot} (hP : va_P G.1 vwCl (xW G x a σ ++ uW G y P S rp rs σ ++ []) H) (hD : va_D (nA s.heap.size) (xW G x a σ ++ uW G y P S rp rs σ ++ [])) (hS : va_S (nA s.heap.size) s.heap H locs) (hl : lv_has ls 23 [(8, .int (iI (mm : Int))), (7, .int (iI (n : Int))), (4, .int z), (3, .int (iI (t : Int))), (0, .ref b), (1, .ref x), (2, .ref y)]) (hJ : zJ B σ) (hB : B + 100 ≤ 100000) (hn : σ.1 0 = n) (hm : σ.1 1 = mm) (hc : cells ≤ 600000) (hs : slots ≤ 7300000) (kk : ∀ (σ9 : zS) (H2 : Heap) (locs2 : List Loc) (cells2 slots2 : Nat) (ls2 : Array Slot), zJ (B + 1) σ9 → σ9.1 0 = n → σ9.1 1 = mm → cells2 ≤ cells → slots2 ≤ slots → va_P G.1 vwCl (xW G x a σ9 ++ uW G y P S rp rs σ9 ++ []) H2 → va_D (nA s.heap.size) (xW G x a σ9 ++ uW G y P S rp rs σ9 ++ []) → va_S (nA s.heap.size) s.heap H2 locs2 → lv_has ls2 23 [(8, .int (iI (mm : Int))), (7, .int (iI (n : Int))), (4, .int z), (3, .int (iI (t : Int))), (0, .ref b), (1, .ref x), (2, .ref y)] → W pg l e room_1 s m args below meth c H2 locs2 cells2 slots2 Q (F0 m 721 ls2 [])) : W pg l e room_1 s m args below meth c H locs cells slots Q (F0 m 458 ls []) := by
  obtain ⟨hx, hb, hml, hown, hts, hfl, hK, hO, hE, hH, hX, hbl, hL⟩ := C
  have hA : ∀ q : Nat, s.heap.size ≤ q → nA s.heap.size q := fun _ h => h
  have hbA : ¬ nA s.heap.size b := fun h => by have h9 : s.heap.size ≤ b := h; omega
  have hin0 : ∀ w ∈ wsX10, w ∈ wsL_law := inlX1
  have w_0 := hts (.fieldLink RL 15 "ApologyLedgerLaw$Sim" "slights" "[[I") (List.mem_of_getElem? (i := 3) (by decide +kernel))
  have w_1 := hts (.methodLink RL 146 Lib.Math.min.name) (List.mem_of_getElem? (i := 4) (by decide +kernel))
  have w_2 := hts (.static Lib.Math.min.name) (List.mem_of_getElem? (i := 5) (by decide +kernel))
  have w_3 := hts (.initialized "java/lang/Math") (List.mem_of_getElem? (i := 6) (by decide +kernel))
  have w_4 := hts (.code Lib.Math.min.name Lib.Math.min.code 2 (some .int)) (List.mem_of_getElem? (i := 7) (by decide +kernel))
  have hI := hJ.1
  have hIn := hI.n
  have hIb := hI.b
  refine lv_iload hx hb dL_law_458 (lv_at hl 0 rfl) ?_
  refine z_if_le (tgt := 721) hx hb dL_law_460 (by decide) (by omega) (fun c_1 => ?_) (fun c_1 => ?_)
  ·
    exact kk σ H locs _ _ ls (mono_zJ hJ (by omega) (by omega)) (hn) (hm) (by omega) (by omega) hP hD hS (lv_sub hl [0, 1, 2, 3, 4, 5, 6] rfl)
  ·
    refine lv_aload_n hx hb dL_law_463 rfl (lv_at hl 5 rfl) ?_
    refine lv_iload hx hb dL_law_464 (lv_at hl 2 rfl) ?_
    refine lv_iconst (v := iI 4) hx hb dL_law_466 rfl ?_
    refine lv_ishr hx hb dL_law_467 ?_
    refine lv_iload hx hb dL_law_468 (lv_at hl 0 rfl) ?_
    refine zc_i (va_runS (As := [.int (z >>> ((iI 4) &&& 31)), .int (iI (mm : Int))]) (rest := [.ref x]) ⟨hx, hb, hml, hown, hts⟩ (c_L_below l (z >>> ((iI 4) &&& 31)) (mm : Int) (by omega)) (va_cwS 2 hts gL_law_L_below rfl rfl rfl (by decide +kernel) ⟨Nat.le_of_ble_eq_true rfl, Nat.le_of_ble_eq_true rfl⟩) preS0 rfl rfl hl.1 rfl (lv_room (Nat.le_of_ble_eq_true rfl)) dL_law_470 ⟨by show cells + 0 ≤ 600130; omega, by show slots + 0 ≤ 7301080; omega⟩) ?_
    have f_2 := bel_bd (z >>> ((iI 4) &&& 31)) (mm : Int) (by omega)
    obtain ⟨k, e_3⟩ : ∃ k : Nat, bel (z >>> ((iI 4) &&& 31)) (mm : Int) = (k : Int) := ⟨(bel (z >>> ((iI 4) &&& 31)) (mm : Int)).toNat, by omega⟩
    refine z_re (v' := iI (k : Int)) (congrArg iI e_3) ?_
    refine zc_i (va_runV (As := [.int (iI (k : Int))]) (rest := []) ⟨hx, hb, hml, hown, hts⟩ (c_X0_stateOf l G x a B σ k hI (by omega)) (cwV 1 hts gL_law_X0_stateOf rfl rfl rfl (by decide +kernel) ⟨Nat.le_of_ble_eq_true rfl, Nat.le_of_ble_eq_true rfl⟩) (preVX hK (va_Pl (va_Pl hP))) rfl rfl hl.1 rfl (lv_room (Nat.le_of_ble_eq_true rfl)) dL_law_473 ⟨by show cells + 0 ≤ 600130; omega, by show slots + 0 ≤ 7301080; omega⟩) ?_
    have f_4 := hI.r5 k
    refine z_if_ne (tgt := 721) hx hb dL_law_476 (by decide) (by omega) (fun c_5 => ?_) (fun c_5 => ?_)
    ·
      exact kk σ H locs _ _ ls (mono_zJ hJ (by omega) (by omega)) (hn) (hm) (by omega) (by omega) hP hD hS (lv_sub hl [0, 1, 2, 3, 4, 5, 6] rfl)
    ·
      refine lv_iload hx hb dL_law_479 (lv_at hl 2 rfl) ?_
      refine lv_iconst (v := iI 4) hx hb dL_law_481 rfl ?_
      refine lv_ishr hx hb dL_law_482 ?_
      refine lv_iload hx hb dL_law_483 (lv_at hl 0 rfl) ?_
      refine zc_i (va_runS (As := [.int (z >>> ((iI 4) &&& 31)), .int (iI (mm : Int))]) (rest := []) ⟨hx, hb, hml, hown, hts⟩ (c_L_below l (z >>> ((iI 4) &&& 31)) (mm : Int) (by omega)) (va_cwS 2 hts gL_law_L_below rfl rfl rfl (by decide +kernel) ⟨Nat.le_of_ble_eq_true rfl, Nat.le_of_ble_eq_true rfl⟩) preS0 rfl rfl hl.1 rfl (lv_room (Nat.le_of_ble_eq_true rfl)) dL_law_485 ⟨by show cells + 0 ≤ 600130; omega, by show slots + 0 ≤ 7301080; omega⟩) ?_
      have f_6 := bel_bd (z >>> ((iI 4) &&& 31)) (mm : Int) (by omega)
      refine z_re (v' := iI (k : Int)) (congrArg iI e_3) ?_
      refine lv_istore (lv' := [(12, .int (iI (k : Int))), (8, .int (iI (mm : Int))), (7, .int (iI (n : Int))), (4, .int z), (3, .int (iI (t : Int))), (0, .ref b), (1, .ref x), (2, .ref y)]) hx hb dL_law_488 hl (by decide) rfl (fun ls hl => ?_)
      have f_7 := hI.r4 k
      have f_8 := wan_bd σ k
      refine lv_aload_n hx hb dL_law_490 rfl (lv_at hl 6 rfl) ?_
      refine lv_iload hx hb dL_law_491 (lv_at hl 0 rfl) ?_
      refine zc_i (va_runV (As := [.int (iI (k : Int))]) (rest := []) ⟨hx, hb, hml, hown, hts⟩ (c_X0_wordsWanted l G x a B σ k hI (by omega)) (cwV 1 hts gL_law_X0_wordsWanted rfl rfl rfl (by decide +kernel) ⟨Nat.le_of_ble_eq_true rfl, Nat.le_of_ble_eq_true rfl⟩) (preVX hK (va_Pl (va_Pl hP))) rfl rfl hl.1 rfl (lv_room (Nat.le_of_ble_eq_true rfl)) dL_law_493 ⟨by show cells + 0 ≤ 600130; omega, by show slots + 0 ≤ 7301080; omega⟩) ?_
      have f_9 := wan_bd σ k
      refine lv_istore (lv' := [(13, .int (iI (wan σ k))), (12, .int (iI (k : Int))), (8, .int (iI (mm : Int))), (7, .int (iI (n : Int))), (4, .int z), (3, .int (iI (t : Int))), (0, .ref b), (1, .ref x), (2, .ref y)]) hx hb dL_law_496 hl (by decide) rfl (fun ls hl => ?_)
      have JN558 : ∀ (w : Int), 1 ≤ w ∧ w ≤ 20 → ∀ (ls : Array Slot), lv_has ls 23 [(14, .int (iI w)), (13, .int (iI (wan σ k))), (12, .int (iI (k : Int))), (8, .int (iI (mm : Int))), (7, .int (iI (n : Int))), (4, .int z), (3, .int (iI (t : Int))), (0, .ref b), (1, .ref x), (2, .ref y)] → W pg l e room_1 s m args below meth c H locs cells slots Q (F0 m 558 ls []) := by
        intro w hj558_0 ls hl
        have f_10 := wbs_or σ k w
        refine lv_aload_n hx hb dL_law_558 rfl (lv_at hl 8 rfl) ?_
        refine lv_iload hx hb dL_law_559 (lv_at hl 2 rfl) ?_
        refine lv_iload hx hb dL_law_561 (lv_at hl 0 rfl) ?_
        refine zc_i (va_runV (As := [.int (iI (k : Int)), .int (iI w)]) (rest := []) ⟨hx, hb, hml, hown, hts⟩ (c_X0_wouldBeScorned l G x a B σ k w hI (by omega) (by omega)) (cwV 2 hts gL_law_X0_wouldBeScorned rfl rfl rfl (by decide +kernel) ⟨Nat.le_of_ble_eq_true rfl, Nat.le_of_ble_eq_true rfl⟩) (preVX hK (va_Pl (va_Pl hP))) rfl rfl hl.1 rfl (lv_room (Nat.le_of_ble_eq_true rfl)) dL_law_563 ⟨by show cells + 0 ≤ 600130; omega, by show slots + 0 ≤ 7301080; omega⟩) ?_
        refine lv_istore (lv' := [(15, .int (iI (wbs σ k w))), (14, .int (iI w)), (13, .int (iI (wan σ k))), (12, .int (iI (k : Int))), (8, .int (iI (mm : Int))), (7, .int (iI (n : Int))), (4, .int z), (3, .int (iI (t : Int))), (0, .ref b), (1, .ref x), (2, .ref y)]) hx hb dL_law_566 hl (by decide) rfl (fun ls hl => ?_)
        refine lv_aload_n hx hb dL_law_568 rfl (lv_at hl 9 rfl) ?_
        refine lv_iload hx hb dL_law_569 (lv_at hl 3 rfl) ?_
        refine zc_i (va_runV (As := [.int (iI (k : Int))]) (rest := []) ⟨hx, hb, hml, hown, hts⟩ (c_X0_weightOf l G x a B σ k hI (by omega)) (cwV 1 hts gL_law_X0_weightOf rfl rfl rfl (by decide +kernel) ⟨Nat.le_of_ble_eq_true rfl, Nat.le_of_ble_eq_true rfl⟩) (preVX hK (va_Pl (va_Pl hP))) rfl rfl hl.1 rfl (lv_room (Nat.le_of_ble_eq_true rfl)) dL_law_571 ⟨by show cells + 0 ≤ 600130; omega, by show slots + 0 ≤ 7301080; omega⟩) ?_
        have f_11 := hI.r4 k
        refine lv_istore (lv' := [(16, .int (iI (σ.2 4 k))), (15, .int (iI (wbs σ k w))), (14, .int (iI w)), (13, .int (iI (wan σ k))), (12, .int (iI (k : Int))), (8, .int (iI (mm : Int))), (7, .int (iI (n : Int))), (4, .int z), (3, .int (iI (t : Int))), (0, .ref b), (1, .ref x), (2, .ref y)]) hx hb dL_law_574 hl (by decide) rfl (fun ls hl => ?_)
        refine lv_aload_n hx hb dL_law_576 rfl (lv_at hl 10 rfl) ?_
        refine zc_i (va_runV (As := []) (rest := []) ⟨hx, hb, hml, hown, hts⟩ (c_X0_scorned l G x a B σ hI) (cwV 0 hts gL_law_X0_scorned rfl rfl rfl (by decide +kernel) ⟨Nat.le_of_ble_eq_true rfl, Nat.le_of_ble_eq_true rfl⟩) (preVX hK (va_Pl (va_Pl hP))) rfl rfl hl.1 rfl (lv_room (Nat.le_of_ble_eq_true rfl)) dL_law_577 ⟨by show cells + 0 ≤ 600130; omega, by show slots + 0 ≤ 7301080; omega⟩) ?_
        refine lv_istore (lv' := [(17, .int (iI (σ.1 3 : Nat))), (16, .int (iI (σ.2 4 k))), (15, .int (iI (wbs σ k w))), (14, .int (iI w)), (13, .int (iI (wan σ k))), (12, .int (iI (k : Int))), (8, .int (iI (mm : Int))), (7, .int (iI (n : Int))), (4, .int z), (3, .int (iI (t : Int))), (0, .ref b), (1, .ref x), (2, .ref y)]) hx hb dL_law_580 hl (by decide) rfl (fun ls hl => ?_)
        refine lv_aload_n hx hb dL_law_582 rfl (lv_at hl 11 rfl) ?_
        refine lv_iload hx hb dL_law_583 (lv_at hl 5 rfl) ?_
        refine lv_iload hx hb dL_law_585 (lv_at hl 3 rfl) ?_
        refine zc_wi (va_runV (As := [.int (iI (k : Int)), .int (iI w)]) (rest := []) ⟨hx, hb, hml, hown, hts⟩ (c_X0_apologize l G x a _ B σ k w hI (by omega) (by omega) (by omega)) (cwV 2 hts gL_law_X0_apologize rfl rfl rfl (by decide +kernel) ⟨Nat.le_of_ble_eq_true rfl, Nat.le_of_ble_eq_true rfl⟩) (preWX hK (va_Pl (va_Pl hP)) (va_Dl (va_Dl hD))) rfl rfl hl.1 rfl (lv_room (Nat.le_of_ble_eq_true rfl)) dL_law_587 ⟨by show cells + 0 ≤ 600130; omega, by show slots + 0 ≤ 7301080; omega⟩) hS (jA_x hD hA hS.1) (fun H locs hP1 hS _ hkk => ?_)
        have hP := jx_keep hP hD hP1 hkk
        have hD := jx_D (σ' := (apo σ k w)) hD
        have hP : va_P G.1 vwCl (xW G x a (apo σ k w) ++ uW G y P S rp rs σ ++ []) H := hP
        have hD : va_D (nA s.heap.size) (xW G x a (apo σ k w) ++ uW G y P S rp rs σ ++ []) := hD
        have hJ2 := apo_zJ hJ (k := k) (w := w) (by omega) (by omega) (by omega) (by omega)
        have ha0 : (apo σ k w).1 0 = σ.1 0 := apo_1 (by decide)
        have ha1 : (apo σ k w).1 1 = σ.1 1 := apo_1 (by decide)
        have hall := apo_all hI (k := k) (w := w) (by omega) (by omega) (by omega)
        have ha4 := hJ2.1.r4 k
        have ha5 := hJ2.1.r5 k
        have hab := hJ2.1.b
        refine lv_istore (lv' := [(18, .int (iI ((apo σ k w).2 4 k))), (17, .int (iI (σ.1 3 : Nat))), (16, .int (iI (σ.2 4 k))), (15, .int (iI (wbs σ k w))), (14, .int (iI w)), (13, .int (iI (wan σ k))), (12, .int (iI (k : Int))), (8, .int (iI (mm : Int))), (7, .int (iI (n : Int))), (4, .int z), (3, .int (iI (t : Int))), (0, .ref b), (1, .ref x), (2, .ref y)]) hx hb dL_law_590 hl (by decide) rfl (fun ls hl => ?_)
        refine lv_iload hx hb dL_law_592 (lv_at hl 0 rfl) ?_
        refine lv_aload_n hx hb dL_law_594 rfl (lv_at hl 13 rfl) ?_
        refine lv_aload_n hx hb dL_law_595 rfl (lv_at hl 13 rfl) ?_
        refine u_get (v := .ref S) hx hb hts hin0 hown hK (va_Pr (va_Pl hP)) 0 rfl 1 (by decide) w_0 rfl rfl dL_law_596 ?_
        refine lv_iload hx hb dL_law_599 (lv_at hl 6 rfl) ?_
        refine u_aalS hx hb hK (va_Pr (va_Pl hP)) (k := k) (show k < σ.1 1 from by omega) (show σ.1 1 < 2147483648 from by omega) dL_law_601 ?_
        refine lv_iload hx hb dL_law_602 (lv_at hl 4 rfl) ?_
        refine zc_wi (va_runV (As := [.ref (rs k), .int (iI w)]) (rest := [.int (iI ((apo σ k w).2 4 k))]) ⟨hx, hb, hml, hown, hts⟩ (c_X1_apologize l G y P S rp rs _ B σ k w hI (by omega) (by omega) (by omega)) (cwV 2 hts gL_law_X1_apologize rfl rfl rfl (by decide +kernel) ⟨Nat.le_of_ble_eq_true rfl, Nat.le_of_ble_eq_true rfl⟩) (preWU hK (va_Pr (va_Pl hP)) (va_Dr (va_Dl hD))) rfl rfl hl.1 rfl (lv_room (Nat.le_of_ble_eq_true rfl)) dL_law_604 ⟨by show cells + 0 ≤ 600130; omega, by show slots + 0 ≤ 7301080; omega⟩) hS (jA_u hD hA hS.1) (fun H locs hP1 hS _ hkk => ?_)
        have hP := ju_keep hP hD hP1 hkk
        have hD := ju_D (σ := σ) (σ' := (apo σ k w)) (apo_1 (by decide)) (apo_1 (by decide)) hD
        have hP : va_P G.1 vwCl (xW G x a (apo σ k w) ++ uW G y P S rp rs (apo σ k w) ++ []) H := hP
        have hD : va_D (nA s.heap.size) (xW G x a (apo σ k w) ++ uW G y P S rp rs (apo σ k w) ++ []) := hD
        refine z_icmp_ne (tgt := 719) hx hb dL_law_607 (by decide) (by omega) (by omega) (fun c_12 => ?_) (fun c_12 => ?_)
        · exfalso; omega
        ·
          refine lv_iload hx hb dL_law_610 (lv_at hl 0 rfl) ?_
          refine z_if_ne (tgt := 619) hx hb dL_law_612 (by decide) (by omega) (fun c_13 => ?_) (fun c_13 => ?_)
          ·
            refine lv_iconst (v := iI 0) hx hb dL_law_619 rfl ?_
            refine lv_iload hx hb dL_law_620 (lv_at hl 5 rfl) ?_
            refine z_if_le (tgt := 636) hx hb dL_law_622 (by decide) (by omega) (fun c_14 => ?_) (fun c_14 => ?_)
            ·
              refine lv_iconst (v := iI 0) hx hb dL_law_636 rfl ?_
              refine z_icmp_ne (tgt := 719) hx hb dL_law_637 (by decide) (by omega) (by omega) (fun c_15 => ?_) (fun c_15 => ?_)
              · exfalso; revert c_15; decide
              ·
                refine lv_iload hx hb dL_law_640 (lv_at hl 0 rfl) ?_
                refine z_if_ne (tgt := 649) hx hb dL_law_642 (by decide) (by omega) (fun c_16 => ?_) (fun c_16 => ?_)
                ·
                  refine lv_iconst (v := iI 0) hx hb dL_law_649 rfl ?_
                  refine lv_aload_n hx hb dL_law_650 rfl (lv_at hl 12 rfl) ?_
                  refine lv_iload hx hb dL_law_651 (lv_at hl 6 rfl) ?_
                  refine zc_i (va_runV (As := [.int (iI (k : Int))]) (rest := [.int (iI 0)]) ⟨hx, hb, hml, hown, hts⟩ (c_X0_stateOf l G x a (B + 1) (apo σ k w) k hJ2.1 (by omega)) (cwV 1 hts gL_law_X0_stateOf rfl rfl rfl (by decide +kernel) ⟨Nat.le_of_ble_eq_true rfl, Nat.le_of_ble_eq_true rfl⟩) (preVX hK (va_Pl (va_Pl hP))) rfl rfl hl.1 rfl (lv_room (Nat.le_of_ble_eq_true rfl)) dL_law_653 ⟨by show cells + 0 ≤ 600130; omega, by show slots + 0 ≤ 7301080; omega⟩) ?_
                  have f_17 := hJ2.1.r5 k
                  refine lv_iconst (v := iI 1) hx hb dL_law_656 rfl ?_
                  refine z_icmp_ne (tgt := 664) hx hb dL_law_657 (by decide) (by omega) (by omega) (fun c_18 => ?_) (fun c_18 => ?_)
                  ·
                    refine lv_iconst (v := iI 0) hx hb dL_law_664 rfl ?_
                    refine z_icmp_ne (tgt := 719) hx hb dL_law_665 (by decide) (by omega) (by omega) (fun c_19 => ?_) (fun c_19 => ?_)
                    · exfalso; revert c_19; decide
                    ·
                      refine lv_aload_n hx hb dL_law_668 rfl (lv_at hl 12 rfl) ?_
                      refine zc_i (va_runV (As := []) (rest := []) ⟨hx, hb, hml, hown, hts⟩ (c_X0_scorned l G x a (B + 1) (apo σ k w) hJ2.1) (cwV 0 hts gL_law_X0_scorned rfl rfl rfl (by decide +kernel) ⟨Nat.le_of_ble_eq_true rfl, Nat.le_of_ble_eq_true rfl⟩) (preVX hK (va_Pl (va_Pl hP))) rfl rfl hl.1 rfl (lv_room (Nat.le_of_ble_eq_true rfl)) dL_law_669 ⟨by show cells + 0 ≤ 600130; omega, by show slots + 0 ≤ 7301080; omega⟩) ?_
                      refine lv_iload hx hb dL_law_672 (lv_at hl 1 rfl) ?_
                      refine lv_iload hx hb dL_law_674 (lv_at hl 3 rfl) ?_
                      refine z_if_eq (tgt := 683) hx hb dL_law_676 (by decide) (by omega) (fun c_20 => ?_) (fun c_20 => ?_)
                      ·
                        refine lv_iconst (v := iI 0) hx hb dL_law_683 rfl ?_
                        refine z_iadd hx hb dL_law_684 ?_
                        refine z_icmp_ne (tgt := 719) hx hb dL_law_685 (by decide) (by omega) (by omega) (fun c_21 => ?_) (fun c_21 => ?_)
                        · exfalso; omega
                        ·
                          refine lv_iload hx hb dL_law_688 (lv_at hl 3 rfl) ?_
                          refine z_if_eq (tgt := 707) hx hb dL_law_690 (by decide) (by omega) (fun c_22 => ?_) (fun c_22 => ?_)
                          ·
                            refine lv_iload hx hb dL_law_707 (lv_at hl 3 rfl) ?_
                            refine z_if_ne (tgt := 721) hx hb dL_law_709 (by decide) (by omega) (fun c_23 => ?_) (fun c_23 => ?_)
                            ·
                              exact kk (apo σ k w) H locs _ _ ls (hJ2) (ha0.trans hn) (ha1.trans hm) (by omega) (by omega) hP hD hS (lv_sub hl [7, 8, 9, 10, 11, 12, 13] rfl)
                            ·
                              refine lv_iload hx hb dL_law_712 (lv_at hl 0 rfl) ?_
                              refine lv_iload hx hb dL_law_714 (lv_at hl 2 rfl) ?_
                              refine z_icmp_lt (tgt := 721) hx hb dL_law_716 (by decide) (by omega) (by omega) (fun c_24 => ?_) (fun c_24 => ?_)
                              ·
                                exact kk (apo σ k w) H locs _ _ ls (hJ2) (ha0.trans hn) (ha1.trans hm) (by omega) (by omega) hP hD hS (lv_sub hl [7, 8, 9, 10, 11, 12, 13] rfl)
                              · exfalso; omega
                          ·
                            refine lv_iload hx hb dL_law_693 (lv_at hl 0 rfl) ?_
                            refine lv_bipush (v := iI 99) hx hb dL_law_695 (by decide) ?_
                            refine lv_iload hx hb dL_law_697 (lv_at hl 2 rfl) ?_
                            refine lv_iconst (v := iI 1) hx hb dL_law_699 rfl ?_
                            refine z_iadd hx hb dL_law_700 ?_
                            refine z_min hx hb (by rw [hml]; exact hl.1.symm) hown w_1 w_2 w_3 w_4 (Nat.le_of_ble_eq_true rfl) (Nat.le_of_ble_eq_true rfl) (by show cells ≤ 600130; omega) (by show slots ≤ 7301080; omega) (by omega) (by omega) dL_law_701 ?_
                            refine z_icmp_ne (tgt := 719) hx hb dL_law_704 (by decide) (by omega) (by omega) (fun c_25 => ?_) (fun c_25 => ?_)
                            · exfalso; omega
                            ·
                              refine lv_iload hx hb dL_law_707 (lv_at hl 3 rfl) ?_
                              refine z_if_ne (tgt := 721) hx hb dL_law_709 (by decide) (by omega) (fun c_26 => ?_) (fun c_26 => ?_)
                              ·
                                exact kk (apo σ k w) H locs _ _ ls (hJ2) (ha0.trans hn) (ha1.trans hm) (by omega) (by omega) hP hD hS (lv_sub hl [7, 8, 9, 10, 11, 12, 13] rfl)
                              ·
                                refine lv_iload hx hb dL_law_712 (lv_at hl 0 rfl) ?_
                                refine lv_iload hx hb dL_law_714 (lv_at hl 2 rfl) ?_
                                refine z_icmp_lt (tgt := 721) hx hb dL_law_716 (by decide) (by omega) (by omega) (fun c_27 => ?_) (fun c_27 => ?_)
                                ·
                                  exact kk (apo σ k w) H locs _ _ ls (hJ2) (ha0.trans hn) (ha1.trans hm) (by omega) (by omega) hP hD hS (lv_sub hl [7, 8, 9, 10, 11, 12, 13] rfl)
                                · exfalso; omega
                      ·
                        refine lv_iconst (v := iI 1) hx hb dL_law_679 rfl ?_
                        refine lv_goto (tgt := 684) hx hb dL_law_680 (by decide) ?_
                        refine z_iadd hx hb dL_law_684 ?_
                        refine z_icmp_ne (tgt := 719) hx hb dL_law_685 (by decide) (by omega) (by omega) (fun c_28 => ?_) (fun c_28 => ?_)
                        · exfalso; omega
                        ·
                          refine lv_iload hx hb dL_law_688 (lv_at hl 3 rfl) ?_
                          refine z_if_eq (tgt := 707) hx hb dL_law_690 (by decide) (by omega) (fun c_29 => ?_) (fun c_29 => ?_)
                          ·
                            refine lv_iload hx hb dL_law_707 (lv_at hl 3 rfl) ?_
                            refine z_if_ne (tgt := 721) hx hb dL_law_709 (by decide) (by omega) (fun c_30 => ?_) (fun c_30 => ?_)
                            ·
                              exact kk (apo σ k w) H locs _ _ ls (hJ2) (ha0.trans hn) (ha1.trans hm) (by omega) (by omega) hP hD hS (lv_sub hl [7, 8, 9, 10, 11, 12, 13] rfl)
                            ·
                              refine lv_iload hx hb dL_law_712 (lv_at hl 0 rfl) ?_
                              refine lv_iload hx hb dL_law_714 (lv_at hl 2 rfl) ?_
                              refine z_icmp_lt (tgt := 721) hx hb dL_law_716 (by decide) (by omega) (by omega) (fun c_31 => ?_) (fun c_31 => ?_)
                              ·
                                exact kk (apo σ k w) H locs _ _ ls (hJ2) (ha0.trans hn) (ha1.trans hm) (by omega) (by omega) hP hD hS (lv_sub hl [7, 8, 9, 10, 11, 12, 13] rfl)
                              · exfalso; omega
                          ·
                            refine lv_iload hx hb dL_law_693 (lv_at hl 0 rfl) ?_
                            refine lv_bipush (v := iI 99) hx hb dL_law_695 (by decide) ?_
                            refine lv_iload hx hb dL_law_697 (lv_at hl 2 rfl) ?_
                            refine lv_iconst (v := iI 1) hx hb dL_law_699 rfl ?_
                            refine z_iadd hx hb dL_law_700 ?_
                            refine z_min hx hb (by rw [hml]; exact hl.1.symm) hown w_1 w_2 w_3 w_4 (Nat.le_of_ble_eq_true rfl) (Nat.le_of_ble_eq_true rfl) (by show cells ≤ 600130; omega) (by show slots ≤ 7301080; omega) (by omega) (by omega) dL_law_701 ?_
                            refine z_icmp_ne (tgt := 719) hx hb dL_law_704 (by decide) (by omega) (by omega) (fun c_32 => ?_) (fun c_32 => ?_)
                            · exfalso; omega
                            ·
                              refine lv_iload hx hb dL_law_707 (lv_at hl 3 rfl) ?_
                              refine z_if_ne (tgt := 721) hx hb dL_law_709 (by decide) (by omega) (fun c_33 => ?_) (fun c_33 => ?_)
                              ·
                                exact kk (apo σ k w) H locs _ _ ls (hJ2) (ha0.trans hn) (ha1.trans hm) (by omega) (by omega) hP hD hS (lv_sub hl [7, 8, 9, 10, 11, 12, 13] rfl)
                              ·
                                refine lv_iload hx hb dL_law_712 (lv_at hl 0 rfl) ?_
                                refine lv_iload hx hb dL_law_714 (lv_at hl 2 rfl) ?_
                                refine z_icmp_lt (tgt := 721) hx hb dL_law_716 (by decide) (by omega) (by omega) (fun c_34 => ?_) (fun c_34 => ?_)
                                ·
                                  exact kk (apo σ k w) H locs _ _ ls (hJ2) (ha0.trans hn) (ha1.trans hm) (by omega) (by omega) hP hD hS (lv_sub hl [7, 8, 9, 10, 11, 12, 13] rfl)
                                · exfalso; omega
                  ·
                    refine lv_iconst (v := iI 1) hx hb dL_law_660 rfl ?_
                    refine lv_goto (tgt := 665) hx hb dL_law_661 (by decide) ?_
                    exfalso; omega
                ·
                  refine lv_iconst (v := iI 1) hx hb dL_law_645 rfl ?_
                  refine lv_goto (tgt := 650) hx hb dL_law_646 (by decide) ?_
                  refine lv_aload_n hx hb dL_law_650 rfl (lv_at hl 12 rfl) ?_
                  refine lv_iload hx hb dL_law_651 (lv_at hl 6 rfl) ?_
                  refine zc_i (va_runV (As := [.int (iI (k : Int))]) (rest := [.int (iI 1)]) ⟨hx, hb, hml, hown, hts⟩ (c_X0_stateOf l G x a (B + 1) (apo σ k w) k hJ2.1 (by omega)) (cwV 1 hts gL_law_X0_stateOf rfl rfl rfl (by decide +kernel) ⟨Nat.le_of_ble_eq_true rfl, Nat.le_of_ble_eq_true rfl⟩) (preVX hK (va_Pl (va_Pl hP))) rfl rfl hl.1 rfl (lv_room (Nat.le_of_ble_eq_true rfl)) dL_law_653 ⟨by show cells + 0 ≤ 600130; omega, by show slots + 0 ≤ 7301080; omega⟩) ?_
                  have f_35 := hJ2.1.r5 k
                  refine lv_iconst (v := iI 1) hx hb dL_law_656 rfl ?_
                  refine z_icmp_ne (tgt := 664) hx hb dL_law_657 (by decide) (by omega) (by omega) (fun c_36 => ?_) (fun c_36 => ?_)
                  ·
                    refine lv_iconst (v := iI 0) hx hb dL_law_664 rfl ?_
                    exfalso; omega
                  ·
                    refine lv_iconst (v := iI 1) hx hb dL_law_660 rfl ?_
                    refine lv_goto (tgt := 665) hx hb dL_law_661 (by decide) ?_
                    refine z_icmp_ne (tgt := 719) hx hb dL_law_665 (by decide) (by omega) (by omega) (fun c_37 => ?_) (fun c_37 => ?_)
                    · exfalso; revert c_37; decide
                    ·
                      refine lv_aload_n hx hb dL_law_668 rfl (lv_at hl 12 rfl) ?_
                      refine zc_i (va_runV (As := []) (rest := []) ⟨hx, hb, hml, hown, hts⟩ (c_X0_scorned l G x a (B + 1) (apo σ k w) hJ2.1) (cwV 0 hts gL_law_X0_scorned rfl rfl rfl (by decide +kernel) ⟨Nat.le_of_ble_eq_true rfl, Nat.le_of_ble_eq_true rfl⟩) (preVX hK (va_Pl (va_Pl hP))) rfl rfl hl.1 rfl (lv_room (Nat.le_of_ble_eq_true rfl)) dL_law_669 ⟨by show cells + 0 ≤ 600130; omega, by show slots + 0 ≤ 7301080; omega⟩) ?_
                      refine lv_iload hx hb dL_law_672 (lv_at hl 1 rfl) ?_
                      refine lv_iload hx hb dL_law_674 (lv_at hl 3 rfl) ?_
                      refine z_if_eq (tgt := 683) hx hb dL_law_676 (by decide) (by omega) (fun c_38 => ?_) (fun c_38 => ?_)
                      ·
                        refine lv_iconst (v := iI 0) hx hb dL_law_683 rfl ?_
                        refine z_iadd hx hb dL_law_684 ?_
                        refine z_icmp_ne (tgt := 719) hx hb dL_law_685 (by decide) (by omega) (by omega) (fun c_39 => ?_) (fun c_39 => ?_)
                        · exfalso; omega
                        ·
                          refine lv_iload hx hb dL_law_688 (lv_at hl 3 rfl) ?_
                          refine z_if_eq (tgt := 707) hx hb dL_law_690 (by decide) (by omega) (fun c_40 => ?_) (fun c_40 => ?_)
                          ·
                            refine lv_iload hx hb dL_law_707 (lv_at hl 3 rfl) ?_
                            refine z_if_ne (tgt := 721) hx hb dL_law_709 (by decide) (by omega) (fun c_41 => ?_) (fun c_41 => ?_)
                            ·
                              exact kk (apo σ k w) H locs _ _ ls (hJ2) (ha0.trans hn) (ha1.trans hm) (by omega) (by omega) hP hD hS (lv_sub hl [7, 8, 9, 10, 11, 12, 13] rfl)
                            ·
                              refine lv_iload hx hb dL_law_712 (lv_at hl 0 rfl) ?_
                              refine lv_iload hx hb dL_law_714 (lv_at hl 2 rfl) ?_
                              refine z_icmp_lt (tgt := 721) hx hb dL_law_716 (by decide) (by omega) (by omega) (fun c_42 => ?_) (fun c_42 => ?_)
                              ·
                                exact kk (apo σ k w) H locs _ _ ls (hJ2) (ha0.trans hn) (ha1.trans hm) (by omega) (by omega) hP hD hS (lv_sub hl [7, 8, 9, 10, 11, 12, 13] rfl)
                              · exfalso; omega
                          ·
                            refine lv_iload hx hb dL_law_693 (lv_at hl 0 rfl) ?_
                            refine lv_bipush (v := iI 99) hx hb dL_law_695 (by decide) ?_
                            refine lv_iload hx hb dL_law_697 (lv_at hl 2 rfl) ?_
                            refine lv_iconst (v := iI 1) hx hb dL_law_699 rfl ?_
                            refine z_iadd hx hb dL_law_700 ?_
                            refine z_min hx hb (by rw [hml]; exact hl.1.symm) hown w_1 w_2 w_3 w_4 (Nat.le_of_ble_eq_true rfl) (Nat.le_of_ble_eq_true rfl) (by show cells ≤ 600130; omega) (by show slots ≤ 7301080; omega) (by omega) (by omega) dL_law_701 ?_
                            refine z_icmp_ne (tgt := 719) hx hb dL_law_704 (by decide) (by omega) (by omega) (fun c_43 => ?_) (fun c_43 => ?_)
                            · exfalso; omega
                            ·
                              refine lv_iload hx hb dL_law_707 (lv_at hl 3 rfl) ?_
                              refine z_if_ne (tgt := 721) hx hb dL_law_709 (by decide) (by omega) (fun c_44 => ?_) (fun c_44 => ?_)
                              ·
                                exact kk (apo σ k w) H locs _ _ ls (hJ2) (ha0.trans hn) (ha1.trans hm) (by omega) (by omega) hP hD hS (lv_sub hl [7, 8, 9, 10, 11, 12, 13] rfl)
                              ·
                                refine lv_iload hx hb dL_law_712 (lv_at hl 0 rfl) ?_
                                refine lv_iload hx hb dL_law_714 (lv_at hl 2 rfl) ?_
                                refine z_icmp_lt (tgt := 721) hx hb dL_law_716 (by decide) (by omega) (by omega) (fun c_45 => ?_) (fun c_45 => ?_)
                                ·
                                  exact kk (apo σ k w) H locs _ _ ls (hJ2) (ha0.trans hn) (ha1.trans hm) (by omega) (by omega) hP hD hS (lv_sub hl [7, 8, 9, 10, 11, 12, 13] rfl)
                                · exfalso; omega
                      ·
                        refine lv_iconst (v := iI 1) hx hb dL_law_679 rfl ?_
                        refine lv_goto (tgt := 684) hx hb dL_law_680 (by decide) ?_
                        refine z_iadd hx hb dL_law_684 ?_
                        refine z_icmp_ne (tgt := 719) hx hb dL_law_685 (by decide) (by omega) (by omega) (fun c_46 => ?_) (fun c_46 => ?_)
                        · exfalso; omega
                        ·
                          refine lv_iload hx hb dL_law_688 (lv_at hl 3 rfl) ?_
                          refine z_if_eq (tgt := 707) hx hb dL_law_690 (by decide) (by omega) (fun c_47 => ?_) (fun c_47 => ?_)
                          ·
                            refine lv_iload hx hb dL_law_707 (lv_at hl 3 rfl) ?_
                            refine z_if_ne (tgt := 721) hx hb dL_law_709 (by decide) (by omega) (fun c_48 => ?_) (fun c_48 => ?_)
                            ·
                              exact kk (apo σ k w) H locs _ _ ls (hJ2) (ha0.trans hn) (ha1.trans hm) (by omega) (by omega) hP hD hS (lv_sub hl [7, 8, 9, 10, 11, 12, 13] rfl)
                            ·
                              refine lv_iload hx hb dL_law_712 (lv_at hl 0 rfl) ?_
                              refine lv_iload hx hb dL_law_714 (lv_at hl 2 rfl) ?_
                              refine z_icmp_lt (tgt := 721) hx hb dL_law_716 (by decide) (by omega) (by omega) (fun c_49 => ?_) (fun c_49 => ?_)
                              ·
                                exact kk (apo σ k w) H locs _ _ ls (hJ2) (ha0.trans hn) (ha1.trans hm) (by omega) (by omega) hP hD hS (lv_sub hl [7, 8, 9, 10, 11, 12, 13] rfl)
                              · exfalso; omega
                          ·
                            refine lv_iload hx hb dL_law_693 (lv_at hl 0 rfl) ?_
                            refine lv_bipush (v := iI 99) hx hb dL_law_695 (by decide) ?_
                            refine lv_iload hx hb dL_law_697 (lv_at hl 2 rfl) ?_
                            refine lv_iconst (v := iI 1) hx hb dL_law_699 rfl ?_
                            refine z_iadd hx hb dL_law_700 ?_
                            refine z_min hx hb (by rw [hml]; exact hl.1.symm) hown w_1 w_2 w_3 w_4 (Nat.le_of_ble_eq_true rfl) (Nat.le_of_ble_eq_true rfl) (by show cells ≤ 600130; omega) (by show slots ≤ 7301080; omega) (by omega) (by omega) dL_law_701 ?_
                            refine z_icmp_ne (tgt := 719) hx hb dL_law_704 (by decide) (by omega) (by omega) (fun c_50 => ?_) (fun c_50 => ?_)
                            · exfalso; omega
                            ·
                              refine lv_iload hx hb dL_law_707 (lv_at hl 3 rfl) ?_
                              refine z_if_ne (tgt := 721) hx hb dL_law_709 (by decide) (by omega) (fun c_51 => ?_) (fun c_51 => ?_)
                              ·
                                exact kk (apo σ k w) H locs _ _ ls (hJ2) (ha0.trans hn) (ha1.trans hm) (by omega) (by omega) hP hD hS (lv_sub hl [7, 8, 9, 10, 11, 12, 13] rfl)
                              ·
                                refine lv_iload hx hb dL_law_712 (lv_at hl 0 rfl) ?_
                                refine lv_iload hx hb dL_law_714 (lv_at hl 2 rfl) ?_
                                refine z_icmp_lt (tgt := 721) hx hb dL_law_716 (by decide) (by omega) (by omega) (fun c_52 => ?_) (fun c_52 => ?_)
                                ·
                                  exact kk (apo σ k w) H locs _ _ ls (hJ2) (ha0.trans hn) (ha1.trans hm) (by omega) (by omega) hP hD hS (lv_sub hl [7, 8, 9, 10, 11, 12, 13] rfl)
                                · exfalso; omega
            ·
              refine lv_iload hx hb dL_law_625 (lv_at hl 4 rfl) ?_
              refine lv_iload hx hb dL_law_627 (lv_at hl 5 rfl) ?_
              refine z_icmp_lt (tgt := 636) hx hb dL_law_629 (by decide) (by omega) (by omega) (fun c_53 => ?_) (fun c_53 => ?_)
              ·
                refine lv_iconst (v := iI 0) hx hb dL_law_636 rfl ?_
                refine z_icmp_ne (tgt := 719) hx hb dL_law_637 (by decide) (by omega) (by omega) (fun c_54 => ?_) (fun c_54 => ?_)
                · exfalso; revert c_54; decide
                ·
                  refine lv_iload hx hb dL_law_640 (lv_at hl 0 rfl) ?_
                  refine z_if_ne (tgt := 649) hx hb dL_law_642 (by decide) (by omega) (fun c_55 => ?_) (fun c_55 => ?_)
                  ·
                    refine lv_iconst (v := iI 0) hx hb dL_law_649 rfl ?_
                    refine lv_aload_n hx hb dL_law_650 rfl (lv_at hl 12 rfl) ?_
                    refine lv_iload hx hb dL_law_651 (lv_at hl 6 rfl) ?_
                    refine zc_i (va_runV (As := [.int (iI (k : Int))]) (rest := [.int (iI 0)]) ⟨hx, hb, hml, hown, hts⟩ (c_X0_stateOf l G x a (B + 1) (apo σ k w) k hJ2.1 (by omega)) (cwV 1 hts gL_law_X0_stateOf rfl rfl rfl (by decide +kernel) ⟨Nat.le_of_ble_eq_true rfl, Nat.le_of_ble_eq_true rfl⟩) (preVX hK (va_Pl (va_Pl hP))) rfl rfl hl.1 rfl (lv_room (Nat.le_of_ble_eq_true rfl)) dL_law_653 ⟨by show cells + 0 ≤ 600130; omega, by show slots + 0 ≤ 7301080; omega⟩) ?_
                    have f_56 := hJ2.1.r5 k
                    refine lv_iconst (v := iI 1) hx hb dL_law_656 rfl ?_
                    refine z_icmp_ne (tgt := 664) hx hb dL_law_657 (by decide) (by omega) (by omega) (fun c_57 => ?_) (fun c_57 => ?_)
                    ·
                      refine lv_iconst (v := iI 0) hx hb dL_law_664 rfl ?_
                      refine z_icmp_ne (tgt := 719) hx hb dL_law_665 (by decide) (by omega) (by omega) (fun c_58 => ?_) (fun c_58 => ?_)
                      · exfalso; revert c_58; decide
                      ·
                        refine lv_aload_n hx hb dL_law_668 rfl (lv_at hl 12 rfl) ?_
                        refine zc_i (va_runV (As := []) (rest := []) ⟨hx, hb, hml, hown, hts⟩ (c_X0_scorned l G x a (B + 1) (apo σ k w) hJ2.1) (cwV 0 hts gL_law_X0_scorned rfl rfl rfl (by decide +kernel) ⟨Nat.le_of_ble_eq_true rfl, Nat.le_of_ble_eq_true rfl⟩) (preVX hK (va_Pl (va_Pl hP))) rfl rfl hl.1 rfl (lv_room (Nat.le_of_ble_eq_true rfl)) dL_law_669 ⟨by show cells + 0 ≤ 600130; omega, by show slots + 0 ≤ 7301080; omega⟩) ?_
                        refine lv_iload hx hb dL_law_672 (lv_at hl 1 rfl) ?_
                        refine lv_iload hx hb dL_law_674 (lv_at hl 3 rfl) ?_
                        refine z_if_eq (tgt := 683) hx hb dL_law_676 (by decide) (by omega) (fun c_59 => ?_) (fun c_59 => ?_)
                        ·
                          refine lv_iconst (v := iI 0) hx hb dL_law_683 rfl ?_
                          refine z_iadd hx hb dL_law_684 ?_
                          refine z_icmp_ne (tgt := 719) hx hb dL_law_685 (by decide) (by omega) (by omega) (fun c_60 => ?_) (fun c_60 => ?_)
                          · exfalso; omega
                          ·
                            refine lv_iload hx hb dL_law_688 (lv_at hl 3 rfl) ?_
                            refine z_if_eq (tgt := 707) hx hb dL_law_690 (by decide) (by omega) (fun c_61 => ?_) (fun c_61 => ?_)
                            ·
                              refine lv_iload hx hb dL_law_707 (lv_at hl 3 rfl) ?_
                              refine z_if_ne (tgt := 721) hx hb dL_law_709 (by decide) (by omega) (fun c_62 => ?_) (fun c_62 => ?_)
                              ·
                                exact kk (apo σ k w) H locs _ _ ls (hJ2) (ha0.trans hn) (ha1.trans hm) (by omega) (by omega) hP hD hS (lv_sub hl [7, 8, 9, 10, 11, 12, 13] rfl)
                              ·
                                refine lv_iload hx hb dL_law_712 (lv_at hl 0 rfl) ?_
                                refine lv_iload hx hb dL_law_714 (lv_at hl 2 rfl) ?_
                                refine z_icmp_lt (tgt := 721) hx hb dL_law_716 (by decide) (by omega) (by omega) (fun c_63 => ?_) (fun c_63 => ?_)
                                ·
                                  exact kk (apo σ k w) H locs _ _ ls (hJ2) (ha0.trans hn) (ha1.trans hm) (by omega) (by omega) hP hD hS (lv_sub hl [7, 8, 9, 10, 11, 12, 13] rfl)
                                · exfalso; omega
                            ·
                              refine lv_iload hx hb dL_law_693 (lv_at hl 0 rfl) ?_
                              refine lv_bipush (v := iI 99) hx hb dL_law_695 (by decide) ?_
                              refine lv_iload hx hb dL_law_697 (lv_at hl 2 rfl) ?_
                              refine lv_iconst (v := iI 1) hx hb dL_law_699 rfl ?_
                              refine z_iadd hx hb dL_law_700 ?_
                              refine z_min hx hb (by rw [hml]; exact hl.1.symm) hown w_1 w_2 w_3 w_4 (Nat.le_of_ble_eq_true rfl) (Nat.le_of_ble_eq_true rfl) (by show cells ≤ 600130; omega) (by show slots ≤ 7301080; omega) (by omega) (by omega) dL_law_701 ?_
                              refine z_icmp_ne (tgt := 719) hx hb dL_law_704 (by decide) (by omega) (by omega) (fun c_64 => ?_) (fun c_64 => ?_)
                              · exfalso; omega
                              ·
                                refine lv_iload hx hb dL_law_707 (lv_at hl 3 rfl) ?_
                                refine z_if_ne (tgt := 721) hx hb dL_law_709 (by decide) (by omega) (fun c_65 => ?_) (fun c_65 => ?_)
                                ·
                                  exact kk (apo σ k w) H locs _ _ ls (hJ2) (ha0.trans hn) (ha1.trans hm) (by omega) (by omega) hP hD hS (lv_sub hl [7, 8, 9, 10, 11, 12, 13] rfl)
                                ·
                                  refine lv_iload hx hb dL_law_712 (lv_at hl 0 rfl) ?_
                                  refine lv_iload hx hb dL_law_714 (lv_at hl 2 rfl) ?_
                                  refine z_icmp_lt (tgt := 721) hx hb dL_law_716 (by decide) (by omega) (by omega) (fun c_66 => ?_) (fun c_66 => ?_)
                                  ·
                                    exact kk (apo σ k w) H locs _ _ ls (hJ2) (ha0.trans hn) (ha1.trans hm) (by omega) (by omega) hP hD hS (lv_sub hl [7, 8, 9, 10, 11, 12, 13] rfl)
                                  · exfalso; omega
                        ·
                          refine lv_iconst (v := iI 1) hx hb dL_law_679 rfl ?_
                          refine lv_goto (tgt := 684) hx hb dL_law_680 (by decide) ?_
                          refine z_iadd hx hb dL_law_684 ?_
                          refine z_icmp_ne (tgt := 719) hx hb dL_law_685 (by decide) (by omega) (by omega) (fun c_67 => ?_) (fun c_67 => ?_)
                          · exfalso; omega
                          ·
                            refine lv_iload hx hb dL_law_688 (lv_at hl 3 rfl) ?_
                            refine z_if_eq (tgt := 707) hx hb dL_law_690 (by decide) (by omega) (fun c_68 => ?_) (fun c_68 => ?_)
                            ·
                              refine lv_iload hx hb dL_law_707 (lv_at hl 3 rfl) ?_
                              refine z_if_ne (tgt := 721) hx hb dL_law_709 (by decide) (by omega) (fun c_69 => ?_) (fun c_69 => ?_)
                              ·
                                exact kk (apo σ k w) H locs _ _ ls (hJ2) (ha0.trans hn) (ha1.trans hm) (by omega) (by omega) hP hD hS (lv_sub hl [7, 8, 9, 10, 11, 12, 13] rfl)
                              ·
                                refine lv_iload hx hb dL_law_712 (lv_at hl 0 rfl) ?_
                                refine lv_iload hx hb dL_law_714 (lv_at hl 2 rfl) ?_
                                refine z_icmp_lt (tgt := 721) hx hb dL_law_716 (by decide) (by omega) (by omega) (fun c_70 => ?_) (fun c_70 => ?_)
                                ·
                                  exact kk (apo σ k w) H locs _ _ ls (hJ2) (ha0.trans hn) (ha1.trans hm) (by omega) (by omega) hP hD hS (lv_sub hl [7, 8, 9, 10, 11, 12, 13] rfl)
                                · exfalso; omega
                            ·
                              refine lv_iload hx hb dL_law_693 (lv_at hl 0 rfl) ?_
                              refine lv_bipush (v := iI 99) hx hb dL_law_695 (by decide) ?_
                              refine lv_iload hx hb dL_law_697 (lv_at hl 2 rfl) ?_
                              refine lv_iconst (v := iI 1) hx hb dL_law_699 rfl ?_
                              refine z_iadd hx hb dL_law_700 ?_
                              refine z_min hx hb (by rw [hml]; exact hl.1.symm) hown w_1 w_2 w_3 w_4 (Nat.le_of_ble_eq_true rfl) (Nat.le_of_ble_eq_true rfl) (by show cells ≤ 600130; omega) (by show slots ≤ 7301080; omega) (by omega) (by omega) dL_law_701 ?_
                              refine z_icmp_ne (tgt := 719) hx hb dL_law_704 (by decide) (by omega) (by omega) (fun c_71 => ?_) (fun c_71 => ?_)
                              · exfalso; omega
                              ·
                                refine lv_iload hx hb dL_law_707 (lv_at hl 3 rfl) ?_
                                refine z_if_ne (tgt := 721) hx hb dL_law_709 (by decide) (by omega) (fun c_72 => ?_) (fun c_72 => ?_)
                                ·
                                  exact kk (apo σ k w) H locs _ _ ls (hJ2) (ha0.trans hn) (ha1.trans hm) (by omega) (by omega) hP hD hS (lv_sub hl [7, 8, 9, 10, 11, 12, 13] rfl)
                                ·
                                  refine lv_iload hx hb dL_law_712 (lv_at hl 0 rfl) ?_
                                  refine lv_iload hx hb dL_law_714 (lv_at hl 2 rfl) ?_
                                  refine z_icmp_lt (tgt := 721) hx hb dL_law_716 (by decide) (by omega) (by omega) (fun c_73 => ?_) (fun c_73 => ?_)
                                  ·
                                    exact kk (apo σ k w) H locs _ _ ls (hJ2) (ha0.trans hn) (ha1.trans hm) (by omega) (by omega) hP hD hS (lv_sub hl [7, 8, 9, 10, 11, 12, 13] rfl)
                                  · exfalso; omega
                    ·
                      refine lv_iconst (v := iI 1) hx hb dL_law_660 rfl ?_
                      refine lv_goto (tgt := 665) hx hb dL_law_661 (by decide) ?_
                      exfalso; omega
                  ·
                    refine lv_iconst (v := iI 1) hx hb dL_law_645 rfl ?_
                    refine lv_goto (tgt := 650) hx hb dL_law_646 (by decide) ?_
                    refine lv_aload_n hx hb dL_law_650 rfl (lv_at hl 12 rfl) ?_
                    refine lv_iload hx hb dL_law_651 (lv_at hl 6 rfl) ?_
                    refine zc_i (va_runV (As := [.int (iI (k : Int))]) (rest := [.int (iI 1)]) ⟨hx, hb, hml, hown, hts⟩ (c_X0_stateOf l G x a (B + 1) (apo σ k w) k hJ2.1 (by omega)) (cwV 1 hts gL_law_X0_stateOf rfl rfl rfl (by decide +kernel) ⟨Nat.le_of_ble_eq_true rfl, Nat.le_of_ble_eq_true rfl⟩) (preVX hK (va_Pl (va_Pl hP))) rfl rfl hl.1 rfl (lv_room (Nat.le_of_ble_eq_true rfl)) dL_law_653 ⟨by show cells + 0 ≤ 600130; omega, by show slots + 0 ≤ 7301080; omega⟩) ?_
                    have f_74 := hJ2.1.r5 k
                    refine lv_iconst (v := iI 1) hx hb dL_law_656 rfl ?_
                    refine z_icmp_ne (tgt := 664) hx hb dL_law_657 (by decide) (by omega) (by omega) (fun c_75 => ?_) (fun c_75 => ?_)
                    ·
                      refine lv_iconst (v := iI 0) hx hb dL_law_664 rfl ?_
                      exfalso; omega
                    ·
                      refine lv_iconst (v := iI 1) hx hb dL_law_660 rfl ?_
                      refine lv_goto (tgt := 665) hx hb dL_law_661 (by decide) ?_
                      refine z_icmp_ne (tgt := 719) hx hb dL_law_665 (by decide) (by omega) (by omega) (fun c_76 => ?_) (fun c_76 => ?_)
                      · exfalso; revert c_76; decide
                      ·
                        refine lv_aload_n hx hb dL_law_668 rfl (lv_at hl 12 rfl) ?_
                        refine zc_i (va_runV (As := []) (rest := []) ⟨hx, hb, hml, hown, hts⟩ (c_X0_scorned l G x a (B + 1) (apo σ k w) hJ2.1) (cwV 0 hts gL_law_X0_scorned rfl rfl rfl (by decide +kernel) ⟨Nat.le_of_ble_eq_true rfl, Nat.le_of_ble_eq_true rfl⟩) (preVX hK (va_Pl (va_Pl hP))) rfl rfl hl.1 rfl (lv_room (Nat.le_of_ble_eq_true rfl)) dL_law_669 ⟨by show cells + 0 ≤ 600130; omega, by show slots + 0 ≤ 7301080; omega⟩) ?_
                        refine lv_iload hx hb dL_law_672 (lv_at hl 1 rfl) ?_
                        refine lv_iload hx hb dL_law_674 (lv_at hl 3 rfl) ?_
                        refine z_if_eq (tgt := 683) hx hb dL_law_676 (by decide) (by omega) (fun c_77 => ?_) (fun c_77 => ?_)
                        ·
                          refine lv_iconst (v := iI 0) hx hb dL_law_683 rfl ?_
                          refine z_iadd hx hb dL_law_684 ?_
                          refine z_icmp_ne (tgt := 719) hx hb dL_law_685 (by decide) (by omega) (by omega) (fun c_78 => ?_) (fun c_78 => ?_)
                          · exfalso; omega
                          ·
                            refine lv_iload hx hb dL_law_688 (lv_at hl 3 rfl) ?_
                            refine z_if_eq (tgt := 707) hx hb dL_law_690 (by decide) (by omega) (fun c_79 => ?_) (fun c_79 => ?_)
                            ·
                              refine lv_iload hx hb dL_law_707 (lv_at hl 3 rfl) ?_
                              refine z_if_ne (tgt := 721) hx hb dL_law_709 (by decide) (by omega) (fun c_80 => ?_) (fun c_80 => ?_)
                              ·
                                exact kk (apo σ k w) H locs _ _ ls (hJ2) (ha0.trans hn) (ha1.trans hm) (by omega) (by omega) hP hD hS (lv_sub hl [7, 8, 9, 10, 11, 12, 13] rfl)
                              ·
                                refine lv_iload hx hb dL_law_712 (lv_at hl 0 rfl) ?_
                                refine lv_iload hx hb dL_law_714 (lv_at hl 2 rfl) ?_
                                refine z_icmp_lt (tgt := 721) hx hb dL_law_716 (by decide) (by omega) (by omega) (fun c_81 => ?_) (fun c_81 => ?_)
                                ·
                                  exact kk (apo σ k w) H locs _ _ ls (hJ2) (ha0.trans hn) (ha1.trans hm) (by omega) (by omega) hP hD hS (lv_sub hl [7, 8, 9, 10, 11, 12, 13] rfl)
                                · exfalso; omega
                            ·
                              refine lv_iload hx hb dL_law_693 (lv_at hl 0 rfl) ?_
                              refine lv_bipush (v := iI 99) hx hb dL_law_695 (by decide) ?_
                              refine lv_iload hx hb dL_law_697 (lv_at hl 2 rfl) ?_
                              refine lv_iconst (v := iI 1) hx hb dL_law_699 rfl ?_
                              refine z_iadd hx hb dL_law_700 ?_
                              refine z_min hx hb (by rw [hml]; exact hl.1.symm) hown w_1 w_2 w_3 w_4 (Nat.le_of_ble_eq_true rfl) (Nat.le_of_ble_eq_true rfl) (by show cells ≤ 600130; omega) (by show slots ≤ 7301080; omega) (by omega) (by omega) dL_law_701 ?_
                              refine z_icmp_ne (tgt := 719) hx hb dL_law_704 (by decide) (by omega) (by omega) (fun c_82 => ?_) (fun c_82 => ?_)
                              · exfalso; omega
                              ·
                                refine lv_iload hx hb dL_law_707 (lv_at hl 3 rfl) ?_
                                refine z_if_ne (tgt := 721) hx hb dL_law_709 (by decide) (by omega) (fun c_83 => ?_) (fun c_83 => ?_)
                                ·
                                  exact kk (apo σ k w) H locs _ _ ls (hJ2) (ha0.trans hn) (ha1.trans hm) (by omega) (by omega) hP hD hS (lv_sub hl [7, 8, 9, 10, 11, 12, 13] rfl)
                                ·
                                  refine lv_iload hx hb dL_law_712 (lv_at hl 0 rfl) ?_
                                  refine lv_iload hx hb dL_law_714 (lv_at hl 2 rfl) ?_
                                  refine z_icmp_lt (tgt := 721) hx hb dL_law_716 (by decide) (by omega) (by omega) (fun c_84 => ?_) (fun c_84 => ?_)
                                  ·
                                    exact kk (apo σ k w) H locs _ _ ls (hJ2) (ha0.trans hn) (ha1.trans hm) (by omega) (by omega) hP hD hS (lv_sub hl [7, 8, 9, 10, 11, 12, 13] rfl)
                                  · exfalso; omega
                        ·
                          refine lv_iconst (v := iI 1) hx hb dL_law_679 rfl ?_
                          refine lv_goto (tgt := 684) hx hb dL_law_680 (by decide) ?_
                          refine z_iadd hx hb dL_law_684 ?_
                          refine z_icmp_ne (tgt := 719) hx hb dL_law_685 (by decide) (by omega) (by omega) (fun c_85 => ?_) (fun c_85 => ?_)
                          · exfalso; omega
                          ·
                            refine lv_iload hx hb dL_law_688 (lv_at hl 3 rfl) ?_
                            refine z_if_eq (tgt := 707) hx hb dL_law_690 (by decide) (by omega) (fun c_86 => ?_) (fun c_86 => ?_)
                            ·
                              refine lv_iload hx hb dL_law_707 (lv_at hl 3 rfl) ?_
                              refine z_if_ne (tgt := 721) hx hb dL_law_709 (by decide) (by omega) (fun c_87 => ?_) (fun c_87 => ?_)
                              ·
                                exact kk (apo σ k w) H locs _ _ ls (hJ2) (ha0.trans hn) (ha1.trans hm) (by omega) (by omega) hP hD hS (lv_sub hl [7, 8, 9, 10, 11, 12, 13] rfl)
                              ·
                                refine lv_iload hx hb dL_law_712 (lv_at hl 0 rfl) ?_
                                refine lv_iload hx hb dL_law_714 (lv_at hl 2 rfl) ?_
                                refine z_icmp_lt (tgt := 721) hx hb dL_law_716 (by decide) (by omega) (by omega) (fun c_88 => ?_) (fun c_88 => ?_)
                                ·
                                  exact kk (apo σ k w) H locs _ _ ls (hJ2) (ha0.trans hn) (ha1.trans hm) (by omega) (by omega) hP hD hS (lv_sub hl [7, 8, 9, 10, 11, 12, 13] rfl)
                                · exfalso; omega
                            ·
                              refine lv_iload hx hb dL_law_693 (lv_at hl 0 rfl) ?_
                              refine lv_bipush (v := iI 99) hx hb dL_law_695 (by decide) ?_
                              refine lv_iload hx hb dL_law_697 (lv_at hl 2 rfl) ?_
                              refine lv_iconst (v := iI 1) hx hb dL_law_699 rfl ?_
                              refine z_iadd hx hb dL_law_700 ?_
                              refine z_min hx hb (by rw [hml]; exact hl.1.symm) hown w_1 w_2 w_3 w_4 (Nat.le_of_ble_eq_true rfl) (Nat.le_of_ble_eq_true rfl) (by show cells ≤ 600130; omega) (by show slots ≤ 7301080; omega) (by omega) (by omega) dL_law_701 ?_
                              refine z_icmp_ne (tgt := 719) hx hb dL_law_704 (by decide) (by omega) (by omega) (fun c_89 => ?_) (fun c_89 => ?_)
                              · exfalso; omega
                              ·
                                refine lv_iload hx hb dL_law_707 (lv_at hl 3 rfl) ?_
                                refine z_if_ne (tgt := 721) hx hb dL_law_709 (by decide) (by omega) (fun c_90 => ?_) (fun c_90 => ?_)
                                ·
                                  exact kk (apo σ k w) H locs _ _ ls (hJ2) (ha0.trans hn) (ha1.trans hm) (by omega) (by omega) hP hD hS (lv_sub hl [7, 8, 9, 10, 11, 12, 13] rfl)
                                ·
                                  refine lv_iload hx hb dL_law_712 (lv_at hl 0 rfl) ?_
                                  refine lv_iload hx hb dL_law_714 (lv_at hl 2 rfl) ?_
                                  refine z_icmp_lt (tgt := 721) hx hb dL_law_716 (by decide) (by omega) (by omega) (fun c_91 => ?_) (fun c_91 => ?_)
                                  ·
                                    exact kk (apo σ k w) H locs _ _ ls (hJ2) (ha0.trans hn) (ha1.trans hm) (by omega) (by omega) hP hD hS (lv_sub hl [7, 8, 9, 10, 11, 12, 13] rfl)
                                  · exfalso; omega
              ·
                refine lv_iconst (v := iI 1) hx hb dL_law_632 rfl ?_
                refine lv_goto (tgt := 637) hx hb dL_law_633 (by decide) ?_
                exfalso; omega
          ·
            refine lv_iconst (v := iI 1) hx hb dL_law_615 rfl ?_
            refine lv_goto (tgt := 620) hx hb dL_law_616 (by decide) ?_
            refine lv_iload hx hb dL_law_620 (lv_at hl 5 rfl) ?_
            refine z_if_le (tgt := 636) hx hb dL_law_622 (by decide) (by omega) (fun c_92 => ?_) (fun c_92 => ?_)
            ·
              refine lv_iconst (v := iI 0) hx hb dL_law_636 rfl ?_
              exfalso; omega
            ·
              refine lv_iload hx hb dL_law_625 (lv_at hl 4 rfl) ?_
              refine lv_iload hx hb dL_law_627 (lv_at hl 5 rfl) ?_
              refine z_icmp_lt (tgt := 636) hx hb dL_law_629 (by decide) (by omega) (by omega) (fun c_93 => ?_) (fun c_93 => ?_)
              ·
                refine lv_iconst (v := iI 0) hx hb dL_law_636 rfl ?_
                exfalso; omega
              ·
                refine lv_iconst (v := iI 1) hx hb dL_law_632 rfl ?_
                refine lv_goto (tgt := 637) hx hb dL_law_633 (by decide) ?_
                refine z_icmp_ne (tgt := 719) hx hb dL_law_637 (by decide) (by omega) (by omega) (fun c_94 => ?_) (fun c_94 => ?_)
                · exfalso; revert c_94; decide
                ·
                  refine lv_iload hx hb dL_law_640 (lv_at hl 0 rfl) ?_
                  refine z_if_ne (tgt := 649) hx hb dL_law_642 (by decide) (by omega) (fun c_95 => ?_) (fun c_95 => ?_)
                  ·
                    refine lv_iconst (v := iI 0) hx hb dL_law_649 rfl ?_
                    refine lv_aload_n hx hb dL_law_650 rfl (lv_at hl 12 rfl) ?_
                    refine lv_iload hx hb dL_law_651 (lv_at hl 6 rfl) ?_
                    refine zc_i (va_runV (As := [.int (iI (k : Int))]) (rest := [.int (iI 0)]) ⟨hx, hb, hml, hown, hts⟩ (c_X0_stateOf l G x a (B + 1) (apo σ k w) k hJ2.1 (by omega)) (cwV 1 hts gL_law_X0_stateOf rfl rfl rfl (by decide +kernel) ⟨Nat.le_of_ble_eq_true rfl, Nat.le_of_ble_eq_true rfl⟩) (preVX hK (va_Pl (va_Pl hP))) rfl rfl hl.1 rfl (lv_room (Nat.le_of_ble_eq_true rfl)) dL_law_653 ⟨by show cells + 0 ≤ 600130; omega, by show slots + 0 ≤ 7301080; omega⟩) ?_
                    have f_96 := hJ2.1.r5 k
                    refine lv_iconst (v := iI 1) hx hb dL_law_656 rfl ?_
                    refine z_icmp_ne (tgt := 664) hx hb dL_law_657 (by decide) (by omega) (by omega) (fun c_97 => ?_) (fun c_97 => ?_)
                    ·
                      refine lv_iconst (v := iI 0) hx hb dL_law_664 rfl ?_
                      refine z_icmp_ne (tgt := 719) hx hb dL_law_665 (by decide) (by omega) (by omega) (fun c_98 => ?_) (fun c_98 => ?_)
                      · exfalso; revert c_98; decide
                      ·
                        refine lv_aload_n hx hb dL_law_668 rfl (lv_at hl 12 rfl) ?_
                        refine zc_i (va_runV (As := []) (rest := []) ⟨hx, hb, hml, hown, hts⟩ (c_X0_scorned l G x a (B + 1) (apo σ k w) hJ2.1) (cwV 0 hts gL_law_X0_scorned rfl rfl rfl (by decide +kernel) ⟨Nat.le_of_ble_eq_true rfl, Nat.le_of_ble_eq_true rfl⟩) (preVX hK (va_Pl (va_Pl hP))) rfl rfl hl.1 rfl (lv_room (Nat.le_of_ble_eq_true rfl)) dL_law_669 ⟨by show cells + 0 ≤ 600130; omega, by show slots + 0 ≤ 7301080; omega⟩) ?_
                        refine lv_iload hx hb dL_law_672 (lv_at hl 1 rfl) ?_
                        refine lv_iload hx hb dL_law_674 (lv_at hl 3 rfl) ?_
                        refine z_if_eq (tgt := 683) hx hb dL_law_676 (by decide) (by omega) (fun c_99 => ?_) (fun c_99 => ?_)
                        ·
                          refine lv_iconst (v := iI 0) hx hb dL_law_683 rfl ?_
                          refine z_iadd hx hb dL_law_684 ?_
                          refine z_icmp_ne (tgt := 719) hx hb dL_law_685 (by decide) (by omega) (by omega) (fun c_100 => ?_) (fun c_100 => ?_)
                          · exfalso; omega
                          ·
                            refine lv_iload hx hb dL_law_688 (lv_at hl 3 rfl) ?_
                            refine z_if_eq (tgt := 707) hx hb dL_law_690 (by decide) (by omega) (fun c_101 => ?_) (fun c_101 => ?_)
                            ·
                              refine lv_iload hx hb dL_law_707 (lv_at hl 3 rfl) ?_
                              refine z_if_ne (tgt := 721) hx hb dL_law_709 (by decide) (by omega) (fun c_102 => ?_) (fun c_102 => ?_)
                              ·
                                exact kk (apo σ k w) H locs _ _ ls (hJ2) (ha0.trans hn) (ha1.trans hm) (by omega) (by omega) hP hD hS (lv_sub hl [7, 8, 9, 10, 11, 12, 13] rfl)
                              ·
                                refine lv_iload hx hb dL_law_712 (lv_at hl 0 rfl) ?_
                                refine lv_iload hx hb dL_law_714 (lv_at hl 2 rfl) ?_
                                refine z_icmp_lt (tgt := 721) hx hb dL_law_716 (by decide) (by omega) (by omega) (fun c_103 => ?_) (fun c_103 => ?_)
                                ·
                                  exact kk (apo σ k w) H locs _ _ ls (hJ2) (ha0.trans hn) (ha1.trans hm) (by omega) (by omega) hP hD hS (lv_sub hl [7, 8, 9, 10, 11, 12, 13] rfl)
                                · exfalso; omega
                            ·
                              refine lv_iload hx hb dL_law_693 (lv_at hl 0 rfl) ?_
                              refine lv_bipush (v := iI 99) hx hb dL_law_695 (by decide) ?_
                              refine lv_iload hx hb dL_law_697 (lv_at hl 2 rfl) ?_
                              refine lv_iconst (v := iI 1) hx hb dL_law_699 rfl ?_
                              refine z_iadd hx hb dL_law_700 ?_
                              refine z_min hx hb (by rw [hml]; exact hl.1.symm) hown w_1 w_2 w_3 w_4 (Nat.le_of_ble_eq_true rfl) (Nat.le_of_ble_eq_true rfl) (by show cells ≤ 600130; omega) (by show slots ≤ 7301080; omega) (by omega) (by omega) dL_law_701 ?_
                              refine z_icmp_ne (tgt := 719) hx hb dL_law_704 (by decide) (by omega) (by omega) (fun c_104 => ?_) (fun c_104 => ?_)
                              · exfalso; omega
                              ·
                                refine lv_iload hx hb dL_law_707 (lv_at hl 3 rfl) ?_
                                refine z_if_ne (tgt := 721) hx hb dL_law_709 (by decide) (by omega) (fun c_105 => ?_) (fun c_105 => ?_)
                                ·
                                  exact kk (apo σ k w) H locs _ _ ls (hJ2) (ha0.trans hn) (ha1.trans hm) (by omega) (by omega) hP hD hS (lv_sub hl [7, 8, 9, 10, 11, 12, 13] rfl)
                                ·
                                  refine lv_iload hx hb dL_law_712 (lv_at hl 0 rfl) ?_
                                  refine lv_iload hx hb dL_law_714 (lv_at hl 2 rfl) ?_
                                  refine z_icmp_lt (tgt := 721) hx hb dL_law_716 (by decide) (by omega) (by omega) (fun c_106 => ?_) (fun c_106 => ?_)
                                  ·
                                    exact kk (apo σ k w) H locs _ _ ls (hJ2) (ha0.trans hn) (ha1.trans hm) (by omega) (by omega) hP hD hS (lv_sub hl [7, 8, 9, 10, 11, 12, 13] rfl)
                                  · exfalso; omega
                        ·
                          refine lv_iconst (v := iI 1) hx hb dL_law_679 rfl ?_
                          refine lv_goto (tgt := 684) hx hb dL_law_680 (by decide) ?_
                          refine z_iadd hx hb dL_law_684 ?_
                          refine z_icmp_ne (tgt := 719) hx hb dL_law_685 (by decide) (by omega) (by omega) (fun c_107 => ?_) (fun c_107 => ?_)
                          · exfalso; omega
                          ·
                            refine lv_iload hx hb dL_law_688 (lv_at hl 3 rfl) ?_
                            refine z_if_eq (tgt := 707) hx hb dL_law_690 (by decide) (by omega) (fun c_108 => ?_) (fun c_108 => ?_)
                            ·
                              refine lv_iload hx hb dL_law_707 (lv_at hl 3 rfl) ?_
                              refine z_if_ne (tgt := 721) hx hb dL_law_709 (by decide) (by omega) (fun c_109 => ?_) (fun c_109 => ?_)
                              ·
                                exact kk (apo σ k w) H locs _ _ ls (hJ2) (ha0.trans hn) (ha1.trans hm) (by omega) (by omega) hP hD hS (lv_sub hl [7, 8, 9, 10, 11, 12, 13] rfl)
                              ·
                                refine lv_iload hx hb dL_law_712 (lv_at hl 0 rfl) ?_
                                refine lv_iload hx hb dL_law_714 (lv_at hl 2 rfl) ?_
                                refine z_icmp_lt (tgt := 721) hx hb dL_law_716 (by decide) (by omega) (by omega) (fun c_110 => ?_) (fun c_110 => ?_)
                                ·
                                  exact kk (apo σ k w) H locs _ _ ls (hJ2) (ha0.trans hn) (ha1.trans hm) (by omega) (by omega) hP hD hS (lv_sub hl [7, 8, 9, 10, 11, 12, 13] rfl)
                                · exfalso; omega
                            ·
                              refine lv_iload hx hb dL_law_693 (lv_at hl 0 rfl) ?_
                              refine lv_bipush (v := iI 99) hx hb dL_law_695 (by decide) ?_
                              refine lv_iload hx hb dL_law_697 (lv_at hl 2 rfl) ?_
                              refine lv_iconst (v := iI 1) hx hb dL_law_699 rfl ?_
                              refine z_iadd hx hb dL_law_700 ?_
                              refine z_min hx hb (by rw [hml]; exact hl.1.symm) hown w_1 w_2 w_3 w_4 (Nat.le_of_ble_eq_true rfl) (Nat.le_of_ble_eq_true rfl) (by show cells ≤ 600130; omega) (by show slots ≤ 7301080; omega) (by omega) (by omega) dL_law_701 ?_
                              refine z_icmp_ne (tgt := 719) hx hb dL_law_704 (by decide) (by omega) (by omega) (fun c_111 => ?_) (fun c_111 => ?_)
                              · exfalso; omega
                              ·
                                refine lv_iload hx hb dL_law_707 (lv_at hl 3 rfl) ?_
                                refine z_if_ne (tgt := 721) hx hb dL_law_709 (by decide) (by omega) (fun c_112 => ?_) (fun c_112 => ?_)
                                ·
                                  exact kk (apo σ k w) H locs _ _ ls (hJ2) (ha0.trans hn) (ha1.trans hm) (by omega) (by omega) hP hD hS (lv_sub hl [7, 8, 9, 10, 11, 12, 13] rfl)
                                ·
                                  refine lv_iload hx hb dL_law_712 (lv_at hl 0 rfl) ?_
                                  refine lv_iload hx hb dL_law_714 (lv_at hl 2 rfl) ?_
                                  refine z_icmp_lt (tgt := 721) hx hb dL_law_716 (by decide) (by omega) (by omega) (fun c_113 => ?_) (fun c_113 => ?_)
                                  ·
                                    exact kk (apo σ k w) H locs _ _ ls (hJ2) (ha0.trans hn) (ha1.trans hm) (by omega) (by omega) hP hD hS (lv_sub hl [7, 8, 9, 10, 11, 12, 13] rfl)
                                  · exfalso; omega
                    ·
                      refine lv_iconst (v := iI 1) hx hb dL_law_660 rfl ?_
                      refine lv_goto (tgt := 665) hx hb dL_law_661 (by decide) ?_
                      exfalso; omega
                  ·
                    refine lv_iconst (v := iI 1) hx hb dL_law_645 rfl ?_
                    refine lv_goto (tgt := 650) hx hb dL_law_646 (by decide) ?_
                    refine lv_aload_n hx hb dL_law_650 rfl (lv_at hl 12 rfl) ?_
                    refine lv_iload hx hb dL_law_651 (lv_at hl 6 rfl) ?_
                    refine zc_i (va_runV (As := [.int (iI (k : Int))]) (rest := [.int (iI 1)]) ⟨hx, hb, hml, hown, hts⟩ (c_X0_stateOf l G x a (B + 1) (apo σ k w) k hJ2.1 (by omega)) (cwV 1 hts gL_law_X0_stateOf rfl rfl rfl (by decide +kernel) ⟨Nat.le_of_ble_eq_true rfl, Nat.le_of_ble_eq_true rfl⟩) (preVX hK (va_Pl (va_Pl hP))) rfl rfl hl.1 rfl (lv_room (Nat.le_of_ble_eq_true rfl)) dL_law_653 ⟨by show cells + 0 ≤ 600130; omega, by show slots + 0 ≤ 7301080; omega⟩) ?_
                    have f_114 := hJ2.1.r5 k
                    refine lv_iconst (v := iI 1) hx hb dL_law_656 rfl ?_
                    refine z_icmp_ne (tgt := 664) hx hb dL_law_657 (by decide) (by omega) (by omega) (fun c_115 => ?_) (fun c_115 => ?_)
                    ·
                      refine lv_iconst (v := iI 0) hx hb dL_law_664 rfl ?_
                      exfalso; omega
                    ·
                      refine lv_iconst (v := iI 1) hx hb dL_law_660 rfl ?_
                      refine lv_goto (tgt := 665) hx hb dL_law_661 (by decide) ?_
                      refine z_icmp_ne (tgt := 719) hx hb dL_law_665 (by decide) (by omega) (by omega) (fun c_116 => ?_) (fun c_116 => ?_)
                      · exfalso; revert c_116; decide
                      ·
                        refine lv_aload_n hx hb dL_law_668 rfl (lv_at hl 12 rfl) ?_
                        refine zc_i (va_runV (As := []) (rest := []) ⟨hx, hb, hml, hown, hts⟩ (c_X0_scorned l G x a (B + 1) (apo σ k w) hJ2.1) (cwV 0 hts gL_law_X0_scorned rfl rfl rfl (by decide +kernel) ⟨Nat.le_of_ble_eq_true rfl, Nat.le_of_ble_eq_true rfl⟩) (preVX hK (va_Pl (va_Pl hP))) rfl rfl hl.1 rfl (lv_room (Nat.le_of_ble_eq_true rfl)) dL_law_669 ⟨by show cells + 0 ≤ 600130; omega, by show slots + 0 ≤ 7301080; omega⟩) ?_
                        refine lv_iload hx hb dL_law_672 (lv_at hl 1 rfl) ?_
                        refine lv_iload hx hb dL_law_674 (lv_at hl 3 rfl) ?_
                        refine z_if_eq (tgt := 683) hx hb dL_law_676 (by decide) (by omega) (fun c_117 => ?_) (fun c_117 => ?_)
                        ·
                          refine lv_iconst (v := iI 0) hx hb dL_law_683 rfl ?_
                          refine z_iadd hx hb dL_law_684 ?_
                          refine z_icmp_ne (tgt := 719) hx hb dL_law_685 (by decide) (by omega) (by omega) (fun c_118 => ?_) (fun c_118 => ?_)
                          · exfalso; omega
                          ·
                            refine lv_iload hx hb dL_law_688 (lv_at hl 3 rfl) ?_
                            refine z_if_eq (tgt := 707) hx hb dL_law_690 (by decide) (by omega) (fun c_119 => ?_) (fun c_119 => ?_)
                            ·
                              refine lv_iload hx hb dL_law_707 (lv_at hl 3 rfl) ?_
                              refine z_if_ne (tgt := 721) hx hb dL_law_709 (by decide) (by omega) (fun c_120 => ?_) (fun c_120 => ?_)
                              ·
                                exact kk (apo σ k w) H locs _ _ ls (hJ2) (ha0.trans hn) (ha1.trans hm) (by omega) (by omega) hP hD hS (lv_sub hl [7, 8, 9, 10, 11, 12, 13] rfl)
                              ·
                                refine lv_iload hx hb dL_law_712 (lv_at hl 0 rfl) ?_
                                refine lv_iload hx hb dL_law_714 (lv_at hl 2 rfl) ?_
                                refine z_icmp_lt (tgt := 721) hx hb dL_law_716 (by decide) (by omega) (by omega) (fun c_121 => ?_) (fun c_121 => ?_)
                                ·
                                  exact kk (apo σ k w) H locs _ _ ls (hJ2) (ha0.trans hn) (ha1.trans hm) (by omega) (by omega) hP hD hS (lv_sub hl [7, 8, 9, 10, 11, 12, 13] rfl)
                                · exfalso; omega
                            ·
                              refine lv_iload hx hb dL_law_693 (lv_at hl 0 rfl) ?_
                              refine lv_bipush (v := iI 99) hx hb dL_law_695 (by decide) ?_
                              refine lv_iload hx hb dL_law_697 (lv_at hl 2 rfl) ?_
                              refine lv_iconst (v := iI 1) hx hb dL_law_699 rfl ?_
                              refine z_iadd hx hb dL_law_700 ?_
                              refine z_min hx hb (by rw [hml]; exact hl.1.symm) hown w_1 w_2 w_3 w_4 (Nat.le_of_ble_eq_true rfl) (Nat.le_of_ble_eq_true rfl) (by show cells ≤ 600130; omega) (by show slots ≤ 7301080; omega) (by omega) (by omega) dL_law_701 ?_
                              refine z_icmp_ne (tgt := 719) hx hb dL_law_704 (by decide) (by omega) (by omega) (fun c_122 => ?_) (fun c_122 => ?_)
                              · exfalso; omega
                              ·
                                refine lv_iload hx hb dL_law_707 (lv_at hl 3 rfl) ?_
                                refine z_if_ne (tgt := 721) hx hb dL_law_709 (by decide) (by omega) (fun c_123 => ?_) (fun c_123 => ?_)
                                ·
                                  exact kk (apo σ k w) H locs _ _ ls (hJ2) (ha0.trans hn) (ha1.trans hm) (by omega) (by omega) hP hD hS (lv_sub hl [7, 8, 9, 10, 11, 12, 13] rfl)
                                ·
                                  refine lv_iload hx hb dL_law_712 (lv_at hl 0 rfl) ?_
                                  refine lv_iload hx hb dL_law_714 (lv_at hl 2 rfl) ?_
                                  refine z_icmp_lt (tgt := 721) hx hb dL_law_716 (by decide) (by omega) (by omega) (fun c_124 => ?_) (fun c_124 => ?_)
                                  ·
                                    exact kk (apo σ k w) H locs _ _ ls (hJ2) (ha0.trans hn) (ha1.trans hm) (by omega) (by omega) hP hD hS (lv_sub hl [7, 8, 9, 10, 11, 12, 13] rfl)
                                  · exfalso; omega
                        ·
                          refine lv_iconst (v := iI 1) hx hb dL_law_679 rfl ?_
                          refine lv_goto (tgt := 684) hx hb dL_law_680 (by decide) ?_
                          refine z_iadd hx hb dL_law_684 ?_
                          refine z_icmp_ne (tgt := 719) hx hb dL_law_685 (by decide) (by omega) (by omega) (fun c_125 => ?_) (fun c_125 => ?_)
                          · exfalso; omega
                          ·
                            refine lv_iload hx hb dL_law_688 (lv_at hl 3 rfl) ?_
                            refine z_if_eq (tgt := 707) hx hb dL_law_690 (by decide) (by omega) (fun c_126 => ?_) (fun c_126 => ?_)
                            ·
                              refine lv_iload hx hb dL_law_707 (lv_at hl 3 rfl) ?_
                              refine z_if_ne (tgt := 721) hx hb dL_law_709 (by decide) (by omega) (fun c_127 => ?_) (fun c_127 => ?_)
                              ·
                                exact kk (apo σ k w) H locs _ _ ls (hJ2) (ha0.trans hn) (ha1.trans hm) (by omega) (by omega) hP hD hS (lv_sub hl [7, 8, 9, 10, 11, 12, 13] rfl)
                              ·
                                refine lv_iload hx hb dL_law_712 (lv_at hl 0 rfl) ?_
                                refine lv_iload hx hb dL_law_714 (lv_at hl 2 rfl) ?_
                                refine z_icmp_lt (tgt := 721) hx hb dL_law_716 (by decide) (by omega) (by omega) (fun c_128 => ?_) (fun c_128 => ?_)
                                ·
                                  exact kk (apo σ k w) H locs _ _ ls (hJ2) (ha0.trans hn) (ha1.trans hm) (by omega) (by omega) hP hD hS (lv_sub hl [7, 8, 9, 10, 11, 12, 13] rfl)
                                · exfalso; omega
                            ·
                              refine lv_iload hx hb dL_law_693 (lv_at hl 0 rfl) ?_
                              refine lv_bipush (v := iI 99) hx hb dL_law_695 (by decide) ?_
                              refine lv_iload hx hb dL_law_697 (lv_at hl 2 rfl) ?_
                              refine lv_iconst (v := iI 1) hx hb dL_law_699 rfl ?_
                              refine z_iadd hx hb dL_law_700 ?_
                              refine z_min hx hb (by rw [hml]; exact hl.1.symm) hown w_1 w_2 w_3 w_4 (Nat.le_of_ble_eq_true rfl) (Nat.le_of_ble_eq_true rfl) (by show cells ≤ 600130; omega) (by show slots ≤ 7301080; omega) (by omega) (by omega) dL_law_701 ?_
                              refine z_icmp_ne (tgt := 719) hx hb dL_law_704 (by decide) (by omega) (by omega) (fun c_129 => ?_) (fun c_129 => ?_)
                              · exfalso; omega
                              ·
                                refine lv_iload hx hb dL_law_707 (lv_at hl 3 rfl) ?_
                                refine z_if_ne (tgt := 721) hx hb dL_law_709 (by decide) (by omega) (fun c_130 => ?_) (fun c_130 => ?_)
                                ·
                                  exact kk (apo σ k w) H locs _ _ ls (hJ2) (ha0.trans hn) (ha1.trans hm) (by omega) (by omega) hP hD hS (lv_sub hl [7, 8, 9, 10, 11, 12, 13] rfl)
                                ·
                                  refine lv_iload hx hb dL_law_712 (lv_at hl 0 rfl) ?_
                                  refine lv_iload hx hb dL_law_714 (lv_at hl 2 rfl) ?_
                                  refine z_icmp_lt (tgt := 721) hx hb dL_law_716 (by decide) (by omega) (by omega) (fun c_131 => ?_) (fun c_131 => ?_)
                                  ·
                                    exact kk (apo σ k w) H locs _ _ ls (hJ2) (ha0.trans hn) (ha1.trans hm) (by omega) (by omega) hP hD hS (lv_sub hl [7, 8, 9, 10, 11, 12, 13] rfl)
                                  · exfalso; omega
      refine lv_iload hx hb dL_law_498 (lv_at hl 0 rfl) ?_
      refine lv_iconst (v := iI 1) hx hb dL_law_500 rfl ?_
      refine z_icmp_le (tgt := 522) hx hb dL_law_501 (by decide) (by omega) (by omega) (fun c_132 => ?_) (fun c_132 => ?_)
      ·
        refine lv_iload hx hb dL_law_522 (lv_at hl 0 rfl) ?_
        refine z_if_le (tgt := 544) hx hb dL_law_524 (by decide) (by omega) (fun c_133 => ?_) (fun c_133 => ?_)
        ·
          refine lv_iconst (v := iI 1) hx hb dL_law_544 rfl ?_
          refine lv_iload hx hb dL_law_545 (lv_at hl 4 rfl) ?_
          refine lv_bipush (v := iI 6) hx hb dL_law_547 (by decide) ?_
          refine lv_ishr hx hb dL_law_549 ?_
          refine lv_bipush (v := iI 20) hx hb dL_law_550 (by decide) ?_
          refine zc_i (va_runS (As := [.int (z >>> ((iI 6) &&& 31)), .int (iI 20)]) (rest := [.int (iI 1)]) ⟨hx, hb, hml, hown, hts⟩ (c_L_below l (z >>> ((iI 6) &&& 31)) 20 (by omega)) (va_cwS 2 hts gL_law_L_below rfl rfl rfl (by decide +kernel) ⟨Nat.le_of_ble_eq_true rfl, Nat.le_of_ble_eq_true rfl⟩) preS0 rfl rfl hl.1 rfl (lv_room (Nat.le_of_ble_eq_true rfl)) dL_law_552 ⟨by show cells + 0 ≤ 600130; omega, by show slots + 0 ≤ 7301080; omega⟩) ?_
          have f_134 := bel_bd (z >>> ((iI 6) &&& 31)) 20 (by omega)
          refine z_iadd hx hb dL_law_555 ?_
          refine lv_istore (lv' := [(14, .int (iI (1 + (bel (z >>> ((iI 6) &&& 31)) 20)))), (13, .int (iI (wan σ k))), (12, .int (iI (k : Int))), (8, .int (iI (mm : Int))), (7, .int (iI (n : Int))), (4, .int z), (3, .int (iI (t : Int))), (0, .ref b), (1, .ref x), (2, .ref y)]) hx hb dL_law_556 hl (by decide) rfl (fun ls hl => ?_)
          exact JN558 (1 + (bel (z >>> ((iI 6) &&& 31)) 20)) (by omega) ls (lv_sub hl [0, 1, 2, 3, 4, 5, 6, 7, 8, 9] rfl)
        ·
          refine lv_iload hx hb dL_law_527 (lv_at hl 4 rfl) ?_
          refine lv_iconst (v := iI 2) hx hb dL_law_529 rfl ?_
          refine lv_ishr hx hb dL_law_530 ?_
          refine lv_iconst (v := iI 3) hx hb dL_law_531 rfl ?_
          refine zc_i (va_runS (As := [.int (z >>> ((iI 2) &&& 31)), .int (iI 3)]) (rest := []) ⟨hx, hb, hml, hown, hts⟩ (c_L_below l (z >>> ((iI 2) &&& 31)) 3 (by omega)) (va_cwS 2 hts gL_law_L_below rfl rfl rfl (by decide +kernel) ⟨Nat.le_of_ble_eq_true rfl, Nat.le_of_ble_eq_true rfl⟩) preS0 rfl rfl hl.1 rfl (lv_room (Nat.le_of_ble_eq_true rfl)) dL_law_532 ⟨by show cells + 0 ≤ 600130; omega, by show slots + 0 ≤ 7301080; omega⟩) ?_
          have f_135 := bel_bd (z >>> ((iI 2) &&& 31)) 3 (by omega)
          refine lv_iconst (v := iI 1) hx hb dL_law_535 rfl ?_
          refine z_icmp_ne (tgt := 544) hx hb dL_law_536 (by decide) (by omega) (by omega) (fun c_136 => ?_) (fun c_136 => ?_)
          ·
            refine lv_iconst (v := iI 1) hx hb dL_law_544 rfl ?_
            refine lv_iload hx hb dL_law_545 (lv_at hl 4 rfl) ?_
            refine lv_bipush (v := iI 6) hx hb dL_law_547 (by decide) ?_
            refine lv_ishr hx hb dL_law_549 ?_
            refine lv_bipush (v := iI 20) hx hb dL_law_550 (by decide) ?_
            refine zc_i (va_runS (As := [.int (z >>> ((iI 6) &&& 31)), .int (iI 20)]) (rest := [.int (iI 1)]) ⟨hx, hb, hml, hown, hts⟩ (c_L_below l (z >>> ((iI 6) &&& 31)) 20 (by omega)) (va_cwS 2 hts gL_law_L_below rfl rfl rfl (by decide +kernel) ⟨Nat.le_of_ble_eq_true rfl, Nat.le_of_ble_eq_true rfl⟩) preS0 rfl rfl hl.1 rfl (lv_room (Nat.le_of_ble_eq_true rfl)) dL_law_552 ⟨by show cells + 0 ≤ 600130; omega, by show slots + 0 ≤ 7301080; omega⟩) ?_
            have f_137 := bel_bd (z >>> ((iI 6) &&& 31)) 20 (by omega)
            refine z_iadd hx hb dL_law_555 ?_
            refine lv_istore (lv' := [(14, .int (iI (1 + (bel (z >>> ((iI 6) &&& 31)) 20)))), (13, .int (iI (wan σ k))), (12, .int (iI (k : Int))), (8, .int (iI (mm : Int))), (7, .int (iI (n : Int))), (4, .int z), (3, .int (iI (t : Int))), (0, .ref b), (1, .ref x), (2, .ref y)]) hx hb dL_law_556 hl (by decide) rfl (fun ls hl => ?_)
            exact JN558 (1 + (bel (z >>> ((iI 6) &&& 31)) 20)) (by omega) ls (lv_sub hl [0, 1, 2, 3, 4, 5, 6, 7, 8, 9] rfl)
          ·
            refine lv_iload hx hb dL_law_539 (lv_at hl 0 rfl) ?_
            refine lv_goto (tgt := 556) hx hb dL_law_541 (by decide) ?_
            refine lv_istore (lv' := [(14, .int (iI (wan σ k))), (13, .int (iI (wan σ k))), (12, .int (iI (k : Int))), (8, .int (iI (mm : Int))), (7, .int (iI (n : Int))), (4, .int z), (3, .int (iI (t : Int))), (0, .ref b), (1, .ref x), (2, .ref y)]) hx hb dL_law_556 hl (by decide) rfl (fun ls hl => ?_)
            exact JN558 (wan σ k) (by omega) ls (lv_sub hl [0, 1, 2, 3, 4, 5, 6, 7, 8, 9] rfl)
      ·
        refine lv_iload hx hb dL_law_504 (lv_at hl 4 rfl) ?_
        refine lv_iconst (v := iI 2) hx hb dL_law_506 rfl ?_
        refine lv_ishr hx hb dL_law_507 ?_
        refine lv_iconst (v := iI 3) hx hb dL_law_508 rfl ?_
        refine zc_i (va_runS (As := [.int (z >>> ((iI 2) &&& 31)), .int (iI 3)]) (rest := []) ⟨hx, hb, hml, hown, hts⟩ (c_L_below l (z >>> ((iI 2) &&& 31)) 3 (by omega)) (va_cwS 2 hts gL_law_L_below rfl rfl rfl (by decide +kernel) ⟨Nat.le_of_ble_eq_true rfl, Nat.le_of_ble_eq_true rfl⟩) preS0 rfl rfl hl.1 rfl (lv_room (Nat.le_of_ble_eq_true rfl)) dL_law_509 ⟨by show cells + 0 ≤ 600130; omega, by show slots + 0 ≤ 7301080; omega⟩) ?_
        have f_138 := bel_bd (z >>> ((iI 2) &&& 31)) 3 (by omega)
        refine z_if_ne (tgt := 522) hx hb dL_law_512 (by decide) (by omega) (fun c_139 => ?_) (fun c_139 => ?_)
        ·
          refine lv_iload hx hb dL_law_522 (lv_at hl 0 rfl) ?_
          refine z_if_le (tgt := 544) hx hb dL_law_524 (by decide) (by omega) (fun c_140 => ?_) (fun c_140 => ?_)
          ·
            refine lv_iconst (v := iI 1) hx hb dL_law_544 rfl ?_
            refine lv_iload hx hb dL_law_545 (lv_at hl 4 rfl) ?_
            refine lv_bipush (v := iI 6) hx hb dL_law_547 (by decide) ?_
            refine lv_ishr hx hb dL_law_549 ?_
            refine lv_bipush (v := iI 20) hx hb dL_law_550 (by decide) ?_
            refine zc_i (va_runS (As := [.int (z >>> ((iI 6) &&& 31)), .int (iI 20)]) (rest := [.int (iI 1)]) ⟨hx, hb, hml, hown, hts⟩ (c_L_below l (z >>> ((iI 6) &&& 31)) 20 (by omega)) (va_cwS 2 hts gL_law_L_below rfl rfl rfl (by decide +kernel) ⟨Nat.le_of_ble_eq_true rfl, Nat.le_of_ble_eq_true rfl⟩) preS0 rfl rfl hl.1 rfl (lv_room (Nat.le_of_ble_eq_true rfl)) dL_law_552 ⟨by show cells + 0 ≤ 600130; omega, by show slots + 0 ≤ 7301080; omega⟩) ?_
            have f_141 := bel_bd (z >>> ((iI 6) &&& 31)) 20 (by omega)
            refine z_iadd hx hb dL_law_555 ?_
            refine lv_istore (lv' := [(14, .int (iI (1 + (bel (z >>> ((iI 6) &&& 31)) 20)))), (13, .int (iI (wan σ k))), (12, .int (iI (k : Int))), (8, .int (iI (mm : Int))), (7, .int (iI (n : Int))), (4, .int z), (3, .int (iI (t : Int))), (0, .ref b), (1, .ref x), (2, .ref y)]) hx hb dL_law_556 hl (by decide) rfl (fun ls hl => ?_)
            exact JN558 (1 + (bel (z >>> ((iI 6) &&& 31)) 20)) (by omega) ls (lv_sub hl [0, 1, 2, 3, 4, 5, 6, 7, 8, 9] rfl)
          ·
            refine lv_iload hx hb dL_law_527 (lv_at hl 4 rfl) ?_
            refine lv_iconst (v := iI 2) hx hb dL_law_529 rfl ?_
            refine lv_ishr hx hb dL_law_530 ?_
            refine lv_iconst (v := iI 3) hx hb dL_law_531 rfl ?_
            refine zc_i (va_runS (As := [.int (z >>> ((iI 2) &&& 31)), .int (iI 3)]) (rest := []) ⟨hx, hb, hml, hown, hts⟩ (c_L_below l (z >>> ((iI 2) &&& 31)) 3 (by omega)) (va_cwS 2 hts gL_law_L_below rfl rfl rfl (by decide +kernel) ⟨Nat.le_of_ble_eq_true rfl, Nat.le_of_ble_eq_true rfl⟩) preS0 rfl rfl hl.1 rfl (lv_room (Nat.le_of_ble_eq_true rfl)) dL_law_532 ⟨by show cells + 0 ≤ 600130; omega, by show slots + 0 ≤ 7301080; omega⟩) ?_
            have f_142 := bel_bd (z >>> ((iI 2) &&& 31)) 3 (by omega)
            refine lv_iconst (v := iI 1) hx hb dL_law_535 rfl ?_
            refine z_icmp_ne (tgt := 544) hx hb dL_law_536 (by decide) (by omega) (by omega) (fun c_143 => ?_) (fun c_143 => ?_)
            ·
              refine lv_iconst (v := iI 1) hx hb dL_law_544 rfl ?_
              refine lv_iload hx hb dL_law_545 (lv_at hl 4 rfl) ?_
              refine lv_bipush (v := iI 6) hx hb dL_law_547 (by decide) ?_
              refine lv_ishr hx hb dL_law_549 ?_
              refine lv_bipush (v := iI 20) hx hb dL_law_550 (by decide) ?_
              refine zc_i (va_runS (As := [.int (z >>> ((iI 6) &&& 31)), .int (iI 20)]) (rest := [.int (iI 1)]) ⟨hx, hb, hml, hown, hts⟩ (c_L_below l (z >>> ((iI 6) &&& 31)) 20 (by omega)) (va_cwS 2 hts gL_law_L_below rfl rfl rfl (by decide +kernel) ⟨Nat.le_of_ble_eq_true rfl, Nat.le_of_ble_eq_true rfl⟩) preS0 rfl rfl hl.1 rfl (lv_room (Nat.le_of_ble_eq_true rfl)) dL_law_552 ⟨by show cells + 0 ≤ 600130; omega, by show slots + 0 ≤ 7301080; omega⟩) ?_
              have f_144 := bel_bd (z >>> ((iI 6) &&& 31)) 20 (by omega)
              refine z_iadd hx hb dL_law_555 ?_
              refine lv_istore (lv' := [(14, .int (iI (1 + (bel (z >>> ((iI 6) &&& 31)) 20)))), (13, .int (iI (wan σ k))), (12, .int (iI (k : Int))), (8, .int (iI (mm : Int))), (7, .int (iI (n : Int))), (4, .int z), (3, .int (iI (t : Int))), (0, .ref b), (1, .ref x), (2, .ref y)]) hx hb dL_law_556 hl (by decide) rfl (fun ls hl => ?_)
              exact JN558 (1 + (bel (z >>> ((iI 6) &&& 31)) 20)) (by omega) ls (lv_sub hl [0, 1, 2, 3, 4, 5, 6, 7, 8, 9] rfl)
            ·
              refine lv_iload hx hb dL_law_539 (lv_at hl 0 rfl) ?_
              refine lv_goto (tgt := 556) hx hb dL_law_541 (by decide) ?_
              refine lv_istore (lv' := [(14, .int (iI (wan σ k))), (13, .int (iI (wan σ k))), (12, .int (iI (k : Int))), (8, .int (iI (mm : Int))), (7, .int (iI (n : Int))), (4, .int z), (3, .int (iI (t : Int))), (0, .ref b), (1, .ref x), (2, .ref y)]) hx hb dL_law_556 hl (by decide) rfl (fun ls hl => ?_)
              exact JN558 (wan σ k) (by omega) ls (lv_sub hl [0, 1, 2, 3, 4, 5, 6, 7, 8, 9] rfl)
        ·
          refine lv_iload hx hb dL_law_515 (lv_at hl 0 rfl) ?_
          refine lv_iconst (v := iI 1) hx hb dL_law_517 rfl ?_
          refine z_isub hx hb dL_law_518 ?_
          refine lv_goto (tgt := 556) hx hb dL_law_519 (by decide) ?_
          refine lv_istore (lv' := [(14, .int (iI ((wan σ k) - 1))), (13, .int (iI (wan σ k))), (12, .int (iI (k : Int))), (8, .int (iI (mm : Int))), (7, .int (iI (n : Int))), (4, .int z), (3, .int (iI (t : Int))), (0, .ref b), (1, .ref x), (2, .ref y)]) hx hb dL_law_556 hl (by decide) rfl (fun ls hl => ?_)
          exact JN558 ((wan σ k) - 1) (by omega) ls (lv_sub hl [0, 1, 2, 3, 4, 5, 6, 7, 8, 9] rfl)
set_option maxHeartbeats 8000000 in
set_option maxRecDepth 100000 in
theorem seg_sof (C : lC pg l s m args c G b L xs) {B : Nat} {σ : zS} {P S : Nat} {rp rs : Nat → Nat} {z : Int32} {t n mm : Nat} {H : Heap} {locs : List Loc} {cells slots : Nat} {ls : Array Slot} (hP : va_P G.1 vwCl (xW G x a σ ++ uW G y P S rp rs σ ++ []) H) (hD : va_D (nA s.heap.size) (xW G x a σ ++ uW G y P S rp rs σ ++ [])) (hS : va_S (nA s.heap.size) s.heap H locs) (hl : lv_has ls 23 [(8, .int (iI (mm : Int))), (7, .int (iI (n : Int))), (4, .int z), (3, .int (iI (t : Int))), (0, .ref b), (1, .ref x), (2, .ref y)]) (hJ : zJ B σ) (hB : B + 100 ≤ 100000) (hn : σ.1 0 = n) (hm : σ.1 1 = mm) (hc : cells ≤ 600000) (hs : slots ≤ 7300000) (kk : ∀ (σ9 : zS) (H2 : Heap) (locs2 : List Loc) (cells2 slots2 : Nat) (ls2 : Array Slot), zJ B σ9 → σ9.1 0 = n → σ9.1 1 = mm → cells2 ≤ cells → slots2 ≤ slots → va_P G.1 vwCl (xW G x a σ9 ++ uW G y P S rp rs σ9 ++ []) H2 → va_D (nA s.heap.size) (xW G x a σ9 ++ uW G y P S rp rs σ9 ++ []) → va_S (nA s.heap.size) s.heap H2 locs2 → lv_has ls2 23 [(8, .int (iI (mm : Int))), (7, .int (iI (n : Int))), (4, .int z), (3, .int (iI (t : Int))), (0, .ref b), (1, .ref x), (2, .ref y)] → W pg l e room_1 s m args below meth c H2 locs2 cells2 slots2 Q (F0 m 878 ls2 [])) : W pg l e room_1 s m args below meth c H locs cells slots Q (F0 m 721 ls []) := by
  obtain ⟨hx, hb, hml, hown, hts, hfl, hK, hO, hE, hH, hX, hbl, hL⟩ := C
  have hA : ∀ q : Nat, s.heap.size ≤ q → nA s.heap.size q := fun _ h => h
  have hbA : ¬ nA s.heap.size b := fun h => by have h9 : s.heap.size ≤ b := h; omega
  have hin0 : ∀ w ∈ wsX10, w ∈ wsL_law := inlX1
  have w_0 := hts (.fieldLink RL 15 "ApologyLedgerLaw$Sim" "slights" "[[I") (List.mem_of_getElem? (i := 3) (by decide +kernel))
  have hI := hJ.1
  have hIn := hI.n
  have hIb := hI.b
  refine lv_iconst (v := iI 0) hx hb dL_law_721 rfl ?_
  refine lv_istore (lv' := [(12, .int (iI 0)), (8, .int (iI (mm : Int))), (7, .int (iI (n : Int))), (4, .int z), (3, .int (iI (t : Int))), (0, .ref b), (1, .ref x), (2, .ref y)]) hx hb dL_law_722 hl (by decide) rfl (fun ls hl => ?_)
  have LP724 : ∀ (r724 : Nat) (k : Nat), k ≤ mm → mm - k < r724 → ∀ (ls : Array Slot), lv_has ls 23 [(12, .int (iI (k : Int))), (8, .int (iI (mm : Int))), (7, .int (iI (n : Int))), (4, .int z), (3, .int (iI (t : Int))), (0, .ref b), (1, .ref x), (2, .ref y)] → W pg l e room_1 s m args below meth c H locs cells slots Q (F0 m 724 ls []) := by
    intro r724
    induction r724 with
    | zero => intro k hv724_0 hv724_1; exfalso; omega
    | succ r724 ih724 =>
      intro k hv724_0 hv724_1 ls hl
      refine lv_iload hx hb dL_law_724 (lv_at hl 0 rfl) ?_
      refine lv_iload hx hb dL_law_726 (lv_at hl 1 rfl) ?_
      refine z_icmp_ge (tgt := 878) hx hb dL_law_728 (by decide) (by omega) (by omega) (fun c_1 => ?_) (fun c_1 => ?_)
      ·
        exact kk σ H locs _ _ ls (hJ) (hn) (hm) (by omega) (by omega) hP hD hS (lv_sub hl [1, 2, 3, 4, 5, 6, 7] rfl)
      ·
        refine lv_iload hx hb dL_law_731 (lv_at hl 3 rfl) ?_
        refine lv_iconst (v := iI 3) hx hb dL_law_733 rfl ?_
        refine lv_ishr hx hb dL_law_734 ?_
        refine lv_bipush (v := iI 7) hx hb dL_law_735 (by decide) ?_
        refine lv_iload hx hb dL_law_737 (lv_at hl 0 rfl) ?_
        refine z_imul hx hb dL_law_739 ?_
        refine lv_iadd hx hb dL_law_740 ?_
        refine lv_iload hx hb dL_law_741 (lv_at hl 1 rfl) ?_
        refine zc_i (va_runS (As := [.int ((z >>> ((iI 3) &&& 31)) + (iI (7 * (k : Int)))), .int (iI (mm : Int))]) (rest := []) ⟨hx, hb, hml, hown, hts⟩ (c_L_below l ((z >>> ((iI 3) &&& 31)) + (iI (7 * (k : Int)))) (mm : Int) (by omega)) (va_cwS 2 hts gL_law_L_below rfl rfl rfl (by decide +kernel) ⟨Nat.le_of_ble_eq_true rfl, Nat.le_of_ble_eq_true rfl⟩) preS0 rfl rfl hl.1 rfl (lv_room (Nat.le_of_ble_eq_true rfl)) dL_law_743 ⟨by show cells + 0 ≤ 600130; omega, by show slots + 0 ≤ 7301080; omega⟩) ?_
        have f_2 := bel_bd ((z >>> ((iI 3) &&& 31)) + (iI (7 * (k : Int)))) (mm : Int) (by omega)
        obtain ⟨o, e_3⟩ : ∃ o : Nat, bel ((z >>> ((iI 3) &&& 31)) + (iI (7 * (k : Int)))) (mm : Int) = (o : Int) := ⟨(bel ((z >>> ((iI 3) &&& 31)) + (iI (7 * (k : Int)))) (mm : Int)).toNat, by omega⟩
        refine z_re (v' := iI (o : Int)) (congrArg iI e_3) ?_
        refine lv_istore (lv' := [(13, .int (iI (o : Int))), (12, .int (iI (k : Int))), (8, .int (iI (mm : Int))), (7, .int (iI (n : Int))), (4, .int z), (3, .int (iI (t : Int))), (0, .ref b), (1, .ref x), (2, .ref y)]) hx hb dL_law_746 hl (by decide) rfl (fun ls hl => ?_)
        refine lv_aload_n hx hb dL_law_748 rfl (lv_at hl 8 rfl) ?_
        refine lv_aload_n hx hb dL_law_749 rfl (lv_at hl 8 rfl) ?_
        refine u_get (v := .ref S) hx hb hts hin0 hown hK (va_Pr (va_Pl hP)) 0 rfl 1 (by decide) w_0 rfl rfl dL_law_750 ?_
        refine lv_iload hx hb dL_law_753 (lv_at hl 1 rfl) ?_
        refine u_aalS hx hb hK (va_Pr (va_Pl hP)) (k := k) (show k < σ.1 1 from by omega) (show σ.1 1 < 2147483648 from by omega) dL_law_755 ?_
        refine lv_aload_n hx hb dL_law_756 rfl (lv_at hl 8 rfl) ?_
        refine u_get (v := .ref S) hx hb hts hin0 hown hK (va_Pr (va_Pl hP)) 0 rfl 1 (by decide) w_0 rfl rfl dL_law_757 ?_
        refine lv_iload hx hb dL_law_760 (lv_at hl 0 rfl) ?_
        refine u_aalS hx hb hK (va_Pr (va_Pl hP)) (k := o) (show o < σ.1 1 from by omega) (show σ.1 1 < 2147483648 from by omega) dL_law_762 ?_
        refine zc_i (va_runV (As := [.ref (rs k), .ref (rs o)]) (rest := []) ⟨hx, hb, hml, hown, hts⟩ (c_X1_areOpposite l G y P S rp rs B σ k o hI (by omega) (by omega)) (cwV 2 hts gL_law_X1_areOpposite rfl rfl rfl (by decide +kernel) ⟨Nat.le_of_ble_eq_true rfl, Nat.le_of_ble_eq_true rfl⟩) (preVU hK (va_Pr (va_Pl hP))) rfl rfl hl.1 rfl (lv_room (Nat.le_of_ble_eq_true rfl)) dL_law_763 ⟨by show cells + 0 ≤ 600130; omega, by show slots + 0 ≤ 7301080; omega⟩) ?_
        have f_4 := pq_or σ k o
        refine z_if_ne (tgt := 772) hx hb dL_law_766 (by decide) (by omega) (fun c_5 => ?_) (fun c_5 => ?_)
        ·
          have hq4 := pq_use (σ := σ) (i := k) (o := o) (by omega)
          have hne : o ≠ k := agn_ne hI (by omega) hq4.2.2
          have hst := sof_st hI (i := k) (o := o) (by omega) (by omega) hq4.1 hq4.2.1 hne
          have hba := sof_bal hI (i := k) (o := o) (by omega) (by omega) hq4.1 hq4.2.1 hq4.2.2
          have f_6 := hI.r2 (k := k) (by omega)
          have f_7 := hI.r3 (k := k) (by omega)
          have f_8 := hI.r4 k
          have f_9 := hI.r4 o
          refine lv_aload_n hx hb dL_law_772 rfl (lv_at hl 7 rfl) ?_
          refine lv_aload_n hx hb dL_law_773 rfl (lv_at hl 7 rfl) ?_
          refine lv_iload hx hb dL_law_774 (lv_at hl 1 rfl) ?_
          refine zc_i (va_runV (As := [.int (iI (k : Int))]) (rest := [.ref x]) ⟨hx, hb, hml, hown, hts⟩ (c_X0_offenderOf l G x a B σ k hI (by omega)) (cwV 1 hts gL_law_X0_offenderOf rfl rfl rfl (by decide +kernel) ⟨Nat.le_of_ble_eq_true rfl, Nat.le_of_ble_eq_true rfl⟩) (preVX hK (va_Pl (va_Pl hP))) rfl rfl hl.1 rfl (lv_room (Nat.le_of_ble_eq_true rfl)) dL_law_776 ⟨by show cells + 0 ≤ 600130; omega, by show slots + 0 ≤ 7301080; omega⟩) ?_
          have f_10 := hI.r2x k (by omega)
          obtain ⟨i1, e_11⟩ : ∃ i1 : Nat, σ.2 2 k = (i1 : Int) := ⟨(σ.2 2 k).toNat, by omega⟩
          refine z_re (v' := iI (i1 : Int)) (congrArg iI e_11) ?_
          refine lv_aload_n hx hb dL_law_779 rfl (lv_at hl 7 rfl) ?_
          refine lv_iload hx hb dL_law_780 (lv_at hl 1 rfl) ?_
          refine zc_i (va_runV (As := [.int (iI (k : Int))]) (rest := [.int (iI (i1 : Int)), .ref x]) ⟨hx, hb, hml, hown, hts⟩ (c_X0_offendedOf l G x a B σ k hI (by omega)) (cwV 1 hts gL_law_X0_offendedOf rfl rfl rfl (by decide +kernel) ⟨Nat.le_of_ble_eq_true rfl, Nat.le_of_ble_eq_true rfl⟩) (preVX hK (va_Pl (va_Pl hP))) rfl rfl hl.1 rfl (lv_room (Nat.le_of_ble_eq_true rfl)) dL_law_782 ⟨by show cells + 0 ≤ 600130; omega, by show slots + 0 ≤ 7301080; omega⟩) ?_
          have f_12 := hI.r3x k (by omega)
          obtain ⟨i2, e_13⟩ : ∃ i2 : Nat, σ.2 3 k = (i2 : Int) := ⟨(σ.2 3 k).toNat, by omega⟩
          refine z_re (v' := iI (i2 : Int)) (congrArg iI e_13) ?_
          refine zc_i (va_runV (As := [.int (iI (i1 : Int)), .int (iI (i2 : Int))]) (rest := []) ⟨hx, hb, hml, hown, hts⟩ (c_X0_balance l G x a B σ i1 i2 hI (by omega) (by omega)) (cwV 2 hts gL_law_X0_balance rfl rfl rfl (by decide +kernel) ⟨Nat.le_of_ble_eq_true rfl, Nat.le_of_ble_eq_true rfl⟩) (preVX hK (va_Pl (va_Pl hP))) rfl rfl hl.1 rfl (lv_room (Nat.le_of_ble_eq_true rfl)) dL_law_785 ⟨by show cells + 0 ≤ 600130; omega, by show slots + 0 ≤ 7301080; omega⟩) ?_
          refine lv_istore (lv' := [(14, .int (iI (btw σ (i1 : Int) (i2 : Int) - btw σ (i2 : Int) (i1 : Int)))), (13, .int (iI (o : Int))), (12, .int (iI (k : Int))), (8, .int (iI (mm : Int))), (7, .int (iI (n : Int))), (4, .int z), (3, .int (iI (t : Int))), (0, .ref b), (1, .ref x), (2, .ref y)]) hx hb dL_law_788 hl (by decide) rfl (fun ls hl => ?_)
          refine lv_aload_n hx hb dL_law_790 rfl (lv_at hl 8 rfl) ?_
          refine lv_iload hx hb dL_law_791 (lv_at hl 2 rfl) ?_
          refine lv_iload hx hb dL_law_793 (lv_at hl 1 rfl) ?_
          refine zc_wi (va_runV (As := [.int (iI (k : Int)), .int (iI (o : Int))]) (rest := []) ⟨hx, hb, hml, hown, hts⟩ (c_X0_setOff l G x a _ B σ k o hI (by omega) (by omega) (by omega) (by omega) (by omega)) (cwV 2 hts gL_law_X0_setOff rfl rfl rfl (by decide +kernel) ⟨Nat.le_of_ble_eq_true rfl, Nat.le_of_ble_eq_true rfl⟩) (preWX hK (va_Pl (va_Pl hP)) (va_Dl (va_Dl hD))) rfl rfl hl.1 rfl (lv_room (Nat.le_of_ble_eq_true rfl)) dL_law_795 ⟨by show cells + 0 ≤ 600130; omega, by show slots + 0 ≤ 7301080; omega⟩) hS (jA_x hD hA hS.1) (fun H locs hP1 hS _ hkk => ?_)
          have hP := jx_keep hP hD hP1 hkk
          have hD := jx_D (σ' := (sof σ k o)) hD
          have hP : va_P G.1 vwCl (xW G x a (sof σ k o) ++ uW G y P S rp rs σ ++ []) H := hP
          have hD : va_D (nA s.heap.size) (xW G x a (sof σ k o) ++ uW G y P S rp rs σ ++ []) := hD
          have hJ2 := sof_zJ hJ (i := k) (o := o) (by omega) (by omega)
          have ha0 : (sof σ k o).1 0 = σ.1 0 := congrFun sof_1 0
          have ha1 : (sof σ k o).1 1 = σ.1 1 := congrFun sof_1 1
          have hl2 : (sof σ k o).2 2 k = σ.2 2 k := sof_lo (by decide) (by decide)
          have hl3 : (sof σ k o).2 3 k = σ.2 3 k := sof_lo (by decide) (by decide)
          rw [e_11, e_13] at hba
          have ha5 := hJ2.1.r5 k
          have ha6 := hJ2.1.r5 o
          refine lv_istore (lv' := [(15, .int (iI (min (σ.2 4 k) (σ.2 4 o)))), (14, .int (iI (btw σ (i1 : Int) (i2 : Int) - btw σ (i2 : Int) (i1 : Int)))), (13, .int (iI (o : Int))), (12, .int (iI (k : Int))), (8, .int (iI (mm : Int))), (7, .int (iI (n : Int))), (4, .int z), (3, .int (iI (t : Int))), (0, .ref b), (1, .ref x), (2, .ref y)]) hx hb dL_law_798 hl (by decide) rfl (fun ls hl => ?_)
          refine lv_iload hx hb dL_law_800 (lv_at hl 0 rfl) ?_
          refine lv_aload_n hx hb dL_law_802 rfl (lv_at hl 10 rfl) ?_
          refine lv_aload_n hx hb dL_law_803 rfl (lv_at hl 10 rfl) ?_
          refine u_get (v := .ref S) hx hb hts hin0 hown hK (va_Pr (va_Pl hP)) 0 rfl 1 (by decide) w_0 rfl rfl dL_law_804 ?_
          refine lv_iload hx hb dL_law_807 (lv_at hl 3 rfl) ?_
          refine u_aalS hx hb hK (va_Pr (va_Pl hP)) (k := k) (show k < σ.1 1 from by omega) (show σ.1 1 < 2147483648 from by omega) dL_law_809 ?_
          refine lv_aload_n hx hb dL_law_810 rfl (lv_at hl 10 rfl) ?_
          refine u_get (v := .ref S) hx hb hts hin0 hown hK (va_Pr (va_Pl hP)) 0 rfl 1 (by decide) w_0 rfl rfl dL_law_811 ?_
          refine lv_iload hx hb dL_law_814 (lv_at hl 2 rfl) ?_
          refine u_aalS hx hb hK (va_Pr (va_Pl hP)) (k := o) (show o < σ.1 1 from by omega) (show σ.1 1 < 2147483648 from by omega) dL_law_816 ?_
          refine zc_wi (va_runV (As := [.ref (rs k), .ref (rs o)]) (rest := [.int (iI (min (σ.2 4 k) (σ.2 4 o)))]) ⟨hx, hb, hml, hown, hts⟩ (c_X1_setOff l G y P S rp rs _ B σ k o hI (by omega) (by omega) (by omega)) (cwV 2 hts gL_law_X1_setOff rfl rfl rfl (by decide +kernel) ⟨Nat.le_of_ble_eq_true rfl, Nat.le_of_ble_eq_true rfl⟩) (preWU hK (va_Pr (va_Pl hP)) (va_Dr (va_Dl hD))) rfl rfl hl.1 rfl (lv_room (Nat.le_of_ble_eq_true rfl)) dL_law_817 ⟨by show cells + 0 ≤ 600130; omega, by show slots + 0 ≤ 7301080; omega⟩) hS (jA_u hD hA hS.1) (fun H locs hP1 hS _ hkk => ?_)
          have hP := ju_keep hP hD hP1 hkk
          have hD := ju_D (σ := σ) (σ' := (sof σ k o)) (by unfold sof; rw [lit_n, lit_n]) (by unfold sof; rw [lit_n, lit_n]) hD
          have hP : va_P G.1 vwCl (xW G x a (sof σ k o) ++ uW G y P S rp rs (sof σ k o) ++ []) H := hP
          have hD : va_D (nA s.heap.size) (xW G x a (sof σ k o) ++ uW G y P S rp rs (sof σ k o) ++ []) := hD
          refine z_icmp_ne (tgt := 870) hx hb dL_law_820 (by decide) (by omega) (by omega) (fun c_14 => ?_) (fun c_14 => ?_)
          · exfalso; omega
          ·
            refine lv_iload hx hb dL_law_823 (lv_at hl 0 rfl) ?_
            refine lv_iconst (v := iI 1) hx hb dL_law_825 rfl ?_
            refine z_icmp_lt (tgt := 870) hx hb dL_law_826 (by decide) (by omega) (by omega) (fun c_15 => ?_) (fun c_15 => ?_)
            · exfalso; omega
            ·
              refine lv_aload_n hx hb dL_law_829 rfl (lv_at hl 9 rfl) ?_
              refine lv_aload_n hx hb dL_law_830 rfl (lv_at hl 9 rfl) ?_
              refine lv_iload hx hb dL_law_831 (lv_at hl 3 rfl) ?_
              refine zc_i (va_runV (As := [.int (iI (k : Int))]) (rest := [.ref x]) ⟨hx, hb, hml, hown, hts⟩ (c_X0_offenderOf l G x a B (sof σ k o) k hJ2.1 (by omega)) (cwV 1 hts gL_law_X0_offenderOf rfl rfl rfl (by decide +kernel) ⟨Nat.le_of_ble_eq_true rfl, Nat.le_of_ble_eq_true rfl⟩) (preVX hK (va_Pl (va_Pl hP))) rfl rfl hl.1 rfl (lv_room (Nat.le_of_ble_eq_true rfl)) dL_law_833 ⟨by show cells + 0 ≤ 600130; omega, by show slots + 0 ≤ 7301080; omega⟩) ?_
              have f_16 := hJ2.1.r2x k (by omega)
              refine z_re (v' := iI (i1 : Int)) (congrArg iI (by omega)) ?_
              refine lv_aload_n hx hb dL_law_836 rfl (lv_at hl 9 rfl) ?_
              refine lv_iload hx hb dL_law_837 (lv_at hl 3 rfl) ?_
              refine zc_i (va_runV (As := [.int (iI (k : Int))]) (rest := [.int (iI (i1 : Int)), .ref x]) ⟨hx, hb, hml, hown, hts⟩ (c_X0_offendedOf l G x a B (sof σ k o) k hJ2.1 (by omega)) (cwV 1 hts gL_law_X0_offendedOf rfl rfl rfl (by decide +kernel) ⟨Nat.le_of_ble_eq_true rfl, Nat.le_of_ble_eq_true rfl⟩) (preVX hK (va_Pl (va_Pl hP))) rfl rfl hl.1 rfl (lv_room (Nat.le_of_ble_eq_true rfl)) dL_law_839 ⟨by show cells + 0 ≤ 600130; omega, by show slots + 0 ≤ 7301080; omega⟩) ?_
              have f_17 := hJ2.1.r3x k (by omega)
              refine z_re (v' := iI (i2 : Int)) (congrArg iI (by omega)) ?_
              refine zc_i (va_runV (As := [.int (iI (i1 : Int)), .int (iI (i2 : Int))]) (rest := []) ⟨hx, hb, hml, hown, hts⟩ (c_X0_balance l G x a B (sof σ k o) i1 i2 hJ2.1 (by omega) (by omega)) (cwV 2 hts gL_law_X0_balance rfl rfl rfl (by decide +kernel) ⟨Nat.le_of_ble_eq_true rfl, Nat.le_of_ble_eq_true rfl⟩) (preVX hK (va_Pl (va_Pl hP))) rfl rfl hl.1 rfl (lv_room (Nat.le_of_ble_eq_true rfl)) dL_law_842 ⟨by show cells + 0 ≤ 600130; omega, by show slots + 0 ≤ 7301080; omega⟩) ?_
              refine lv_iload hx hb dL_law_845 (lv_at hl 1 rfl) ?_
              have f_18 := btw_bd hI (i1 : Int) (i2 : Int)
              have f_19 := btw_bd hI (i2 : Int) (i1 : Int)
              have f_20 := btw_bd hJ2.1 (i1 : Int) (i2 : Int)
              have f_21 := btw_bd hJ2.1 (i2 : Int) (i1 : Int)
              refine z_icmp_ne (tgt := 870) hx hb dL_law_847 (by decide) (by omega) (by omega) (fun c_22 => ?_) (fun c_22 => ?_)
              · exfalso; omega
              ·
                refine lv_aload_n hx hb dL_law_850 rfl (lv_at hl 9 rfl) ?_
                refine lv_iload hx hb dL_law_851 (lv_at hl 3 rfl) ?_
                refine zc_i (va_runV (As := [.int (iI (k : Int))]) (rest := []) ⟨hx, hb, hml, hown, hts⟩ (c_X0_stateOf l G x a B (sof σ k o) k hJ2.1 (by omega)) (cwV 1 hts gL_law_X0_stateOf rfl rfl rfl (by decide +kernel) ⟨Nat.le_of_ble_eq_true rfl, Nat.le_of_ble_eq_true rfl⟩) (preVX hK (va_Pl (va_Pl hP))) rfl rfl hl.1 rfl (lv_room (Nat.le_of_ble_eq_true rfl)) dL_law_853 ⟨by show cells + 0 ≤ 600130; omega, by show slots + 0 ≤ 7301080; omega⟩) ?_
                have f_23 := hJ2.1.r5 k
                refine lv_iconst (v := iI 3) hx hb dL_law_856 rfl ?_
                refine z_icmp_eq (tgt := 878) hx hb dL_law_857 (by decide) (by omega) (by omega) (fun c_24 => ?_) (fun c_24 => ?_)
                ·
                  exact kk (sof σ k o) H locs _ _ ls (hJ2) (ha0.trans hn) (ha1.trans hm) (by omega) (by omega) hP hD hS (lv_sub hl [4, 5, 6, 7, 8, 9, 10] rfl)
                ·
                  refine lv_aload_n hx hb dL_law_860 rfl (lv_at hl 9 rfl) ?_
                  refine lv_iload hx hb dL_law_861 (lv_at hl 2 rfl) ?_
                  refine zc_i (va_runV (As := [.int (iI (o : Int))]) (rest := []) ⟨hx, hb, hml, hown, hts⟩ (c_X0_stateOf l G x a B (sof σ k o) o hJ2.1 (by omega)) (cwV 1 hts gL_law_X0_stateOf rfl rfl rfl (by decide +kernel) ⟨Nat.le_of_ble_eq_true rfl, Nat.le_of_ble_eq_true rfl⟩) (preVX hK (va_Pl (va_Pl hP))) rfl rfl hl.1 rfl (lv_room (Nat.le_of_ble_eq_true rfl)) dL_law_863 ⟨by show cells + 0 ≤ 600130; omega, by show slots + 0 ≤ 7301080; omega⟩) ?_
                  have f_25 := hJ2.1.r5 o
                  refine lv_iconst (v := iI 3) hx hb dL_law_866 rfl ?_
                  refine z_icmp_eq (tgt := 878) hx hb dL_law_867 (by decide) (by omega) (by omega) (fun c_26 => ?_) (fun c_26 => ?_)
                  ·
                    exact kk (sof σ k o) H locs _ _ ls (hJ2) (ha0.trans hn) (ha1.trans hm) (by omega) (by omega) hP hD hS (lv_sub hl [4, 5, 6, 7, 8, 9, 10] rfl)
                  · exfalso; omega
        ·
          refine lv_goto (tgt := 872) hx hb dL_law_769 (by decide) ?_
          refine lv_iinc (v := iI ((k + 1 : Nat) : Int)) (lv' := [(12, .int (iI ((k + 1 : Nat) : Int))), (13, .int (iI (o : Int))), (8, .int (iI (mm : Int))), (7, .int (iI (n : Int))), (4, .int z), (3, .int (iI (t : Int))), (0, .ref b), (1, .ref x), (2, .ref y)]) hx hb dL_law_872 hl (k := 1) rfl ((iI_add _ _).trans (congrArg iI (by omega))) (by decide) rfl (fun ls hl => ?_)
          refine lv_goto (tgt := 724) hx hb dL_law_875 (by decide) ?_
          exact ih724 (k + 1)  (by omega) (by omega) ls (lv_sub hl [0, 2, 3, 4, 5, 6, 7, 8] rfl)
  exact LP724 (mm - 0 + 1) 0  (by omega) (by omega) ls (lv_sub hl [0, 1, 2, 3, 4, 5, 6, 7] rfl)
set_option maxHeartbeats 8000000 in
set_option maxRecDepth 100000 in
theorem seg_due (C : lC pg l s m args c G b L xs) {B : Nat} {σ : zS} {P S : Nat} {rp rs : Nat → Nat} {z : Int32} {t n mm : Nat} {cells0 slots0 : Nat} {H : Heap} {locs : List Loc} {cells slots : Nat} {ls : Array Slot} (hP : va_P G.1 vwCl (xW G x a σ ++ uW G y P S rp rs σ ++ []) H) (hD : va_D (nA s.heap.size) (xW G x a σ ++ uW G y P S rp rs σ ++ [])) (hS : va_S (nA s.heap.size) s.heap H locs) (hl : lv_has ls 23 [(8, .int (iI (mm : Int))), (7, .int (iI (n : Int))), (4, .int z), (3, .int (iI (t : Int))), (0, .ref b), (1, .ref x), (2, .ref y)]) (hJ : zJ B σ) (hB : B + 100 ≤ 100000) (hn : σ.1 0 = n) (hm : σ.1 1 = mm) (hc : cells ≤ 600000) (hs : slots ≤ 7300000) (h1 : 1 ≤ n) (hc0 : cells = cells0) (hs0 : slots = slots0) (kk : ∀ (d p : Nat) (q1 q2 : Nat) (H2 : Heap) (locs2 : List Loc) (cells2 slots2 : Nat) (ls2 : Array Slot), 1 ≤ d ∧ d ≤ 15 → p < σ.1 0 → cells2 ≤ cells + 2 → slots2 ≤ slots + 40 → va_P G.1 vwCl (xW G x a σ ++ uW G y P S rp rs σ ++ [(q1, .inl (G.2.1, mm, .inl (af (dF σ d) mm))), (q2, .inl (G.2.1, mm, .inl (af (uF2 σ) mm)))]) H2 → va_D (nA s.heap.size) (xW G x a σ ++ uW G y P S rp rs σ ++ [(q1, .inl (G.2.1, mm, .inl (af (dF σ d) mm))), (q2, .inl (G.2.1, mm, .inl (af (uF2 σ) mm)))]) → va_S (nA s.heap.size) s.heap H2 locs2 → lv_has ls2 23 [(17, .int (iI 1)), (16, .int (iI (bth σ (p : Int) (d : Int)))), (15, .int (iI (p : Int))), (14, .ref q2), (13, .ref q1), (12, .int (iI (d : Int))), (8, .int (iI (mm : Int))), (7, .int (iI (n : Int))), (4, .int z), (3, .int (iI (t : Int))), (0, .ref b), (1, .ref x), (2, .ref y)] → W pg l e room_1 s m args below meth c H2 locs2 cells2 slots2 Q (F0 m 967 ls2 [])) : W pg l e room_1 s m args below meth c H locs cells slots Q (F0 m 878 ls []) := by
  obtain ⟨hx, hb, hml, hown, hts, hfl, hK, hO, hE, hH, hX, hbl, hL⟩ := C
  have hA : ∀ q : Nat, s.heap.size ≤ q → nA s.heap.size q := fun _ h => h
  have hbA : ¬ nA s.heap.size b := fun h => by have h9 : s.heap.size ≤ b := h; omega
  have hin0 : ∀ w ∈ wsX10, w ∈ wsL_law := inlX1
  have w_0 := hts (.arrayClass .int) (List.mem_of_getElem? (i := 8) (by decide +kernel))
  have hI := hJ.1
  have hIn := hI.n
  have hIb := hI.b
  refine lv_iconst (v := iI 1) hx hb dL_law_878 rfl ?_
  refine lv_iload hx hb dL_law_879 (lv_at hl 2 rfl) ?_
  refine lv_iconst (v := iI 5) hx hb dL_law_881 rfl ?_
  refine lv_ishr hx hb dL_law_882 ?_
  refine lv_bipush (v := iI 15) hx hb dL_law_883 (by decide) ?_
  refine zc_i (va_runS (As := [.int (z >>> ((iI 5) &&& 31)), .int (iI 15)]) (rest := [.int (iI 1)]) ⟨hx, hb, hml, hown, hts⟩ (c_L_below l (z >>> ((iI 5) &&& 31)) 15 (by omega)) (va_cwS 2 hts gL_law_L_below rfl rfl rfl (by decide +kernel) ⟨Nat.le_of_ble_eq_true rfl, Nat.le_of_ble_eq_true rfl⟩) preS0 rfl rfl hl.1 rfl (lv_room (Nat.le_of_ble_eq_true rfl)) dL_law_885 ⟨by show cells + 0 ≤ 600130; omega, by show slots + 0 ≤ 7301080; omega⟩) ?_
  have f_1 := bel_bd (z >>> ((iI 5) &&& 31)) 15 (by omega)
  refine z_iadd hx hb dL_law_888 ?_
  obtain ⟨d, e_2⟩ : ∃ d : Nat, 1 + (bel (z >>> ((iI 5) &&& 31)) 15) = (d : Int) := ⟨(1 + (bel (z >>> ((iI 5) &&& 31)) 15)).toNat, by omega⟩
  refine z_re (v' := iI (d : Int)) (congrArg iI e_2) ?_
  refine lv_istore (lv' := [(12, .int (iI (d : Int))), (8, .int (iI (mm : Int))), (7, .int (iI (n : Int))), (4, .int z), (3, .int (iI (t : Int))), (0, .ref b), (1, .ref x), (2, .ref y)]) hx hb dL_law_889 hl (by decide) rfl (fun ls hl => ?_)
  refine lv_iload hx hb dL_law_891 (lv_at hl 1 rfl) ?_
  refine z_newi (N := mm) hx hb w_0 hK hP hD hS hA (by omega) (by show cells + 1 ≤ 600130; omega) (by show slots + mm ≤ 7301080; omega) dL_law_893 (fun q_3 H hP hD hS => ?_)
  rw [List.append_nil] at hP hD
  have hP : va_P G.1 vwCl (xW G x a σ ++ uW G y P S rp rs σ ++ [(q_3, .inl (G.2.1, mm, .inl (fun _ => 0)))]) H := hP
  have hD : va_D (nA s.heap.size) (xW G x a σ ++ uW G y P S rp rs σ ++ [(q_3, .inl (G.2.1, mm, .inl (fun _ => 0)))]) := hD
  refine lv_astore (lv' := [(13, .ref q_3), (12, .int (iI (d : Int))), (8, .int (iI (mm : Int))), (7, .int (iI (n : Int))), (4, .int z), (3, .int (iI (t : Int))), (0, .ref b), (1, .ref x), (2, .ref y)]) hx hb dL_law_895 hl (by decide) rfl (fun ls hl => ?_)
  refine lv_iload hx hb dL_law_897 (lv_at hl 2 rfl) ?_
  refine z_newi (N := mm) hx hb w_0 hK hP hD hS hA (by omega) (by show (cells + 1) + 1 ≤ 600130; omega) (by show (slots + mm) + mm ≤ 7301080; omega) dL_law_899 (fun q_4 H hP hD hS => ?_)
  rw [List.append_assoc] at hP hD
  have hP : va_P G.1 vwCl (xW G x a σ ++ uW G y P S rp rs σ ++ [(q_3, .inl (G.2.1, mm, .inl (fun _ => 0))), (q_4, .inl (G.2.1, mm, .inl (fun _ => 0)))]) H := hP
  have hD : va_D (nA s.heap.size) (xW G x a σ ++ uW G y P S rp rs σ ++ [(q_3, .inl (G.2.1, mm, .inl (fun _ => 0))), (q_4, .inl (G.2.1, mm, .inl (fun _ => 0)))]) := hD
  refine lv_astore (lv' := [(14, .ref q_4), (13, .ref q_3), (12, .int (iI (d : Int))), (8, .int (iI (mm : Int))), (7, .int (iI (n : Int))), (4, .int z), (3, .int (iI (t : Int))), (0, .ref b), (1, .ref x), (2, .ref y)]) hx hb dL_law_901 hl (by decide) rfl (fun ls hl => ?_)
  have hz1 : (fun _ : Nat => (0 : Int32)) = af (dF σ d) 0 := af_0
  have hz2 : (fun _ : Nat => (0 : Int32)) = af (uF2 σ) 0 := af_0
  have hzz : ((xW G x a σ ++ uW G y P S rp rs σ ++ [(q_3, .inl (G.2.1, mm, .inl (fun _ => 0))), (q_4, .inl (G.2.1, mm, .inl (fun _ => 0)))]) : va_W) = (xW G x a σ ++ uW G y P S rp rs σ ++ [(q_3, .inl (G.2.1, mm, .inl (af (dF σ d) 0))), (q_4, .inl (G.2.1, mm, .inl (af (uF2 σ) 0)))]) := by rw [← hz1, ← hz2]
  rw [hzz] at hP hD
  refine lv_iconst (v := iI 0) hx hb dL_law_903 rfl ?_
  refine lv_istore (lv' := [(15, .int (iI 0)), (14, .ref q_4), (13, .ref q_3), (12, .int (iI (d : Int))), (8, .int (iI (mm : Int))), (7, .int (iI (n : Int))), (4, .int z), (3, .int (iI (t : Int))), (0, .ref b), (1, .ref x), (2, .ref y)]) hx hb dL_law_904 hl (by decide) rfl (fun ls hl => ?_)
  have LP906 : ∀ (r906 : Nat) (k : Nat) (cells slots : Nat), k ≤ mm → mm - k < r906 → cells ≤ cells0 + 2 → slots ≤ slots0 + 40 → ∀ (H : Heap) (locs : List Loc) (ls : Array Slot), va_P G.1 vwCl (xW G x a σ ++ uW G y P S rp rs σ ++ [(q_3, .inl (G.2.1, mm, .inl (af (dF σ d) k))), (q_4, .inl (G.2.1, mm, .inl (af (uF2 σ) k)))]) H → va_D (nA s.heap.size) (xW G x a σ ++ uW G y P S rp rs σ ++ [(q_3, .inl (G.2.1, mm, .inl (af (dF σ d) k))), (q_4, .inl (G.2.1, mm, .inl (af (uF2 σ) k)))]) → va_S (nA s.heap.size) s.heap H locs → lv_has ls 23 [(15, .int (iI (k : Int))), (14, .ref q_4), (13, .ref q_3), (12, .int (iI (d : Int))), (8, .int (iI (mm : Int))), (7, .int (iI (n : Int))), (4, .int z), (3, .int (iI (t : Int))), (0, .ref b), (1, .ref x), (2, .ref y)] → W pg l e room_1 s m args below meth c H locs cells slots Q (F0 m 906 ls []) := by
    intro r906
    induction r906 with
    | zero => intro k cells slots hv906_0 hv906_1; exfalso; omega
    | succ r906 ih906 =>
      intro k cells slots hv906_0 hv906_1 hc906 hs906 H locs ls hP hD hS hl
      refine lv_iload hx hb dL_law_906 (lv_at hl 0 rfl) ?_
      refine lv_iload hx hb dL_law_908 (lv_at hl 4 rfl) ?_
      refine z_icmp_ge (tgt := 943) hx hb dL_law_910 (by decide) (by omega) (by omega) (fun c_5 => ?_) (fun c_5 => ?_)
      ·
        refine lv_iload hx hb dL_law_943 (lv_at hl 6 rfl) ?_
        refine lv_iconst (v := iI 2) hx hb dL_law_945 rfl ?_
        refine lv_ishr hx hb dL_law_946 ?_
        refine lv_iload hx hb dL_law_947 (lv_at hl 5 rfl) ?_
        refine zc_i (va_runS (As := [.int (z >>> ((iI 2) &&& 31)), .int (iI (n : Int))]) (rest := []) ⟨hx, hb, hml, hown, hts⟩ (c_L_below l (z >>> ((iI 2) &&& 31)) (n : Int) (by omega)) (va_cwS 2 hts gL_law_L_below rfl rfl rfl (by decide +kernel) ⟨Nat.le_of_ble_eq_true rfl, Nat.le_of_ble_eq_true rfl⟩) preS0 rfl rfl hl.1 rfl (lv_room (Nat.le_of_ble_eq_true rfl)) dL_law_949 ⟨by show cells + 0 ≤ 600130; omega, by show slots + 0 ≤ 7301080; omega⟩) ?_
        have f_6 := bel_bd (z >>> ((iI 2) &&& 31)) (n : Int) (by omega)
        obtain ⟨p, e_7⟩ : ∃ p : Nat, bel (z >>> ((iI 2) &&& 31)) (n : Int) = (p : Int) := ⟨(bel (z >>> ((iI 2) &&& 31)) (n : Int)).toNat, by omega⟩
        refine z_re (v' := iI (p : Int)) (congrArg iI e_7) ?_
        refine lv_istore (lv' := [(15, .int (iI (p : Int))), (14, .ref q_4), (13, .ref q_3), (12, .int (iI (d : Int))), (8, .int (iI (mm : Int))), (7, .int (iI (n : Int))), (4, .int z), (3, .int (iI (t : Int))), (0, .ref b), (1, .ref x), (2, .ref y)]) hx hb dL_law_952 hl (by decide) rfl (fun ls hl => ?_)
        refine lv_aload_n hx hb dL_law_954 rfl (lv_at hl 9 rfl) ?_
        refine lv_iload hx hb dL_law_955 (lv_at hl 0 rfl) ?_
        refine lv_iload hx hb dL_law_957 (lv_at hl 3 rfl) ?_
        refine zc_i (va_runV (As := [.int (iI (p : Int)), .int (iI (d : Int))]) (rest := []) ⟨hx, hb, hml, hown, hts⟩ (c_X0_borneIn l G x a B σ p (d : Int) hI (by omega) (by omega)) (cwV 2 hts gL_law_X0_borneIn rfl rfl rfl (by decide +kernel) ⟨Nat.le_of_ble_eq_true rfl, Nat.le_of_ble_eq_true rfl⟩) (preVX hK (va_Pl (va_Pl hP))) rfl rfl hl.1 rfl (lv_room (Nat.le_of_ble_eq_true rfl)) dL_law_959 ⟨by show cells + 0 ≤ 600130; omega, by show slots + 0 ≤ 7301080; omega⟩) ?_
        have f_8 := bth_bd hI (p : Int) (d : Int)
        refine lv_istore (lv' := [(16, .int (iI (bth σ (p : Int) (d : Int)))), (15, .int (iI (p : Int))), (14, .ref q_4), (13, .ref q_3), (12, .int (iI (d : Int))), (8, .int (iI (mm : Int))), (7, .int (iI (n : Int))), (4, .int z), (3, .int (iI (t : Int))), (0, .ref b), (1, .ref x), (2, .ref y)]) hx hb dL_law_962 hl (by decide) rfl (fun ls hl => ?_)
        refine lv_iconst (v := iI 1) hx hb dL_law_964 rfl ?_
        refine lv_istore (lv' := [(17, .int (iI 1)), (16, .int (iI (bth σ (p : Int) (d : Int)))), (15, .int (iI (p : Int))), (14, .ref q_4), (13, .ref q_3), (12, .int (iI (d : Int))), (8, .int (iI (mm : Int))), (7, .int (iI (n : Int))), (4, .int z), (3, .int (iI (t : Int))), (0, .ref b), (1, .ref x), (2, .ref y)]) hx hb dL_law_965 hl (by decide) rfl (fun ls hl => ?_)
        have hkm : k = mm := by omega
        subst hkm
        exact kk d p q_3 q_4 H locs _ _ ls (by omega) (by omega) (by omega) (by omega) hP hD hS (lv_sub hl [0, 1, 2, 3, 4, 5, 6, 7, 8, 9, 10, 11, 12] rfl)
      ·
        refine lv_aload hx hb dL_law_913 (lv_at hl 2 rfl) ?_
        refine lv_iload hx hb dL_law_915 (lv_at hl 0 rfl) ?_
        refine lv_aload_n hx hb dL_law_917 rfl (lv_at hl 9 rfl) ?_
        refine lv_iload hx hb dL_law_918 (lv_at hl 0 rfl) ?_
        refine lv_iload hx hb dL_law_920 (lv_at hl 3 rfl) ?_
        refine zc_i (va_runV (As := [.int (iI (k : Int)), .int (iI (d : Int))]) (rest := [.int (iI (k : Int)), .ref q_3]) ⟨hx, hb, hml, hown, hts⟩ (c_X0_weightIn l G x a B σ k (d : Int) hI (by omega) (by omega)) (cwV 2 hts gL_law_X0_weightIn rfl rfl rfl (by decide +kernel) ⟨Nat.le_of_ble_eq_true rfl, Nat.le_of_ble_eq_true rfl⟩) (preVX hK (va_Pl (va_Pl hP))) rfl rfl hl.1 rfl (lv_room (Nat.le_of_ble_eq_true rfl)) dL_law_922 ⟨by show cells + 0 ≤ 600130; omega, by show slots + 0 ≤ 7301080; omega⟩) ?_
        have f_9 := lat_bd hI k (d : Int)
        refine j_istE hx hb hK hP hD hS 0 rfl (i := k) (by omega) (by omega) rfl dL_law_925 (fun H locs hP hD hS => ?_)
        rw [show upd (af (dF σ d) k) k (iI (lat σ k (d : Int))) = af (dF σ d) (k + 1) from af_step] at hP hD
        have hP : va_P G.1 vwCl (xW G x a σ ++ uW G y P S rp rs σ ++ [(q_3, .inl (G.2.1, mm, .inl (af (dF σ d) (k + 1)))), (q_4, .inl (G.2.1, mm, .inl (af (uF2 σ) k)))]) H := hP
        have hD : va_D (nA s.heap.size) (xW G x a σ ++ uW G y P S rp rs σ ++ [(q_3, .inl (G.2.1, mm, .inl (af (dF σ d) (k + 1)))), (q_4, .inl (G.2.1, mm, .inl (af (uF2 σ) k)))]) := hD
        refine lv_aload hx hb dL_law_926 (lv_at hl 1 rfl) ?_
        refine lv_iload hx hb dL_law_928 (lv_at hl 0 rfl) ?_
        refine lv_aload_n hx hb dL_law_930 rfl (lv_at hl 9 rfl) ?_
        refine lv_iload hx hb dL_law_931 (lv_at hl 0 rfl) ?_
        refine zc_i (va_runV (As := [.int (iI (k : Int))]) (rest := [.int (iI (k : Int)), .ref q_4]) ⟨hx, hb, hml, hown, hts⟩ (c_X0_daysUntilForgotten l G x a B σ k hI (by omega)) (cwV 1 hts gL_law_X0_daysUntilForgotten rfl rfl rfl (by decide +kernel) ⟨Nat.le_of_ble_eq_true rfl, Nat.le_of_ble_eq_true rfl⟩) (preVX hK (va_Pl (va_Pl hP))) rfl rfl hl.1 rfl (lv_room (Nat.le_of_ble_eq_true rfl)) dL_law_933 ⟨by show cells + 0 ≤ 600130; omega, by show slots + 0 ≤ 7301080; omega⟩) ?_
        have f_10 := unt_bd hI k
        refine j_istE hx hb hK hP hD hS 1 rfl (i := k) (by omega) (by omega) rfl dL_law_936 (fun H locs hP hD hS => ?_)
        rw [show upd (af (uF2 σ) k) k (iI (unt σ k)) = af (uF2 σ) (k + 1) from af_step] at hP hD
        have hP : va_P G.1 vwCl (xW G x a σ ++ uW G y P S rp rs σ ++ [(q_3, .inl (G.2.1, mm, .inl (af (dF σ d) (k + 1)))), (q_4, .inl (G.2.1, mm, .inl (af (uF2 σ) (k + 1))))]) H := hP
        have hD : va_D (nA s.heap.size) (xW G x a σ ++ uW G y P S rp rs σ ++ [(q_3, .inl (G.2.1, mm, .inl (af (dF σ d) (k + 1)))), (q_4, .inl (G.2.1, mm, .inl (af (uF2 σ) (k + 1))))]) := hD
        refine lv_iinc (v := iI ((k + 1 : Nat) : Int)) (lv' := [(15, .int (iI ((k + 1 : Nat) : Int))), (14, .ref q_4), (13, .ref q_3), (12, .int (iI (d : Int))), (8, .int (iI (mm : Int))), (7, .int (iI (n : Int))), (4, .int z), (3, .int (iI (t : Int))), (0, .ref b), (1, .ref x), (2, .ref y)]) hx hb dL_law_937 hl (k := 0) rfl ((iI_add _ _).trans (congrArg iI (by omega))) (by decide) rfl (fun ls hl => ?_)
        refine lv_goto (tgt := 906) hx hb dL_law_940 (by decide) ?_
        exact ih906 (k + 1)   _ _ (by omega) (by omega) (by omega) (by omega) H locs ls hP hD hS (lv_sub hl [0, 1, 2, 3, 4, 5, 6, 7, 8, 9, 10] rfl)
  exact LP906 (mm - 0 + 1) 0   _ _ (by omega) (by omega) (by omega) (by omega) H locs ls hP hD hS (lv_sub hl [0, 1, 2, 3, 4, 5, 6, 7, 8, 9, 10] rfl)
set_option maxHeartbeats 16000000 in
set_option maxRecDepth 100000 in
theorem seg_days (C : lC pg l s m args c G b L xs) {B : Nat} {σ : zS} {P S : Nat} {rp rs : Nat → Nat} {z : Int32} {t n mm : Nat} {d p q1 q2 : Nat} {H : Heap} {locs : List Loc} {cells slots cells0 slots0 : Nat} {ls : Array Slot} (hP : va_P G.1 vwCl (xW G x a σ ++ uW G y P S rp rs σ ++ [(q1, .inl (G.2.1, mm, .inl (af (dF σ d) mm))), (q2, .inl (G.2.1, mm, .inl (af (uF2 σ) mm)))]) H) (hD : va_D (nA s.heap.size) (xW G x a σ ++ uW G y P S rp rs σ ++ [(q1, .inl (G.2.1, mm, .inl (af (dF σ d) mm))), (q2, .inl (G.2.1, mm, .inl (af (uF2 σ) mm)))])) (hS : va_S (nA s.heap.size) s.heap H locs) (hl : lv_has ls 23 [(17, .int (iI 1)), (16, .int (iI (bth σ (p : Int) (d : Int)))), (15, .int (iI (p : Int))), (14, .ref q2), (13, .ref q1), (12, .int (iI (d : Int))), (8, .int (iI (mm : Int))), (7, .int (iI (n : Int))), (4, .int z), (3, .int (iI (t : Int))), (0, .ref b), (1, .ref x), (2, .ref y)]) (hJ : zJ B σ) (hB : B + 100 ≤ 100000) (hn : σ.1 0 = n) (hm : σ.1 1 = mm) (hc : cells ≤ 600000) (hs : slots ≤ 7300000) (hd : 1 ≤ d ∧ d ≤ 15) (hc0 : cells = cells0) (hs0 : slots = slots0) (kk : ∀ (H2 : Heap) (locs2 : List Loc) (cells2 slots2 : Nat) (ls2 : Array Slot), cells2 ≤ cells + 30 → slots2 ≤ slots + 600 → va_P G.1 vwCl (xW G x a (dyn σ d).1 ++ uW G y P S rp rs (dyn σ d).1 ++ [(q1, .inl (G.2.1, mm, .inl (af (dF σ d) mm))), (q2, .inl (G.2.1, mm, .inl (af (uF2 σ) mm)))]) H2 → va_D (nA s.heap.size) (xW G x a (dyn σ d).1 ++ uW G y P S rp rs (dyn σ d).1 ++ [(q1, .inl (G.2.1, mm, .inl (af (dF σ d) mm))), (q2, .inl (G.2.1, mm, .inl (af (uF2 σ) mm)))]) → va_S (nA s.heap.size) s.heap H2 locs2 → lv_has ls2 23 [(16, .int (iI (bth σ (p : Int) (d : Int)))), (15, .int (iI (p : Int))), (14, .ref q2), (13, .ref q1), (12, .int (iI (d : Int))), (8, .int (iI (mm : Int))), (7, .int (iI (n : Int))), (4, .int z), (3, .int (iI (t : Int))), (0, .ref b), (1, .ref x), (2, .ref y)] → W pg l e room_1 s m args below meth c H2 locs2 cells2 slots2 Q (F0 m 1182 ls2 [])) : W pg l e room_1 s m args below meth c H locs cells slots Q (F0 m 967 ls []) := by
  obtain ⟨hx, hb, hml, hown, hts, hfl, hK, hO, hE, hH, hX, hbl, hL⟩ := C
  have hA : ∀ q : Nat, s.heap.size ≤ q → nA s.heap.size q := fun _ h => h
  have hin0 : ∀ w ∈ wsX10, w ∈ wsL_law := inlX1
  have w_0 := hts (.arrayClass .int) (List.mem_of_getElem? (i := 8) (by decide +kernel))
  have hI := hJ.1
  have hIn := hI.n
  have hIb := hI.b
  rw [show (1 : Int) = ((0 + 1 : Nat) : Int) from rfl] at hl
  have LP967 : ∀ (r967 : Nat) (j : Nat) (cells slots : Nat), j ≤ d → d - j < r967 → cells ≤ cells0 + 2 * j → slots ≤ slots0 + 40 * j → ∀ (H : Heap) (locs : List Loc) (ls : Array Slot), va_P G.1 vwCl (xW G x a (dyn σ j).1 ++ uW G y P S rp rs (dyn σ j).1 ++ [(q1, .inl (G.2.1, mm, .inl (af (dF σ d) mm))), (q2, .inl (G.2.1, mm, .inl (af (uF2 σ) mm)))]) H → va_D (nA s.heap.size) (xW G x a (dyn σ j).1 ++ uW G y P S rp rs (dyn σ j).1 ++ [(q1, .inl (G.2.1, mm, .inl (af (dF σ d) mm))), (q2, .inl (G.2.1, mm, .inl (af (uF2 σ) mm)))]) → va_S (nA s.heap.size) s.heap H locs → lv_has ls 23 [(17, .int (iI ((j + 1 : Nat) : Int))), (16, .int (iI (bth σ (p : Int) (d : Int)))), (15, .int (iI (p : Int))), (14, .ref q2), (13, .ref q1), (12, .int (iI (d : Int))), (8, .int (iI (mm : Int))), (7, .int (iI (n : Int))), (4, .int z), (3, .int (iI (t : Int))), (0, .ref b), (1, .ref x), (2, .ref y)] → W pg l e room_1 s m args below meth c H locs cells slots Q (F0 m 967 ls []) := by
    intro r967
    induction r967 with
    | zero => intro j cells slots hv967_0 hv967_1; exfalso; omega
    | succ r967 ih967 =>
      intro j cells slots hv967_0 hv967_1 hc967 hs967 H locs ls hP hD hS hl
      have f_1 := dyn_01 σ j
      refine lv_iload hx hb dL_law_967 (lv_at hl 0 rfl) ?_
      refine lv_iload hx hb dL_law_969 (lv_at hl 5 rfl) ?_
      refine z_icmp_gt (tgt := 1182) hx hb dL_law_971 (by decide) (by omega) (by omega) (fun c_2 => ?_) (fun c_2 => ?_)
      ·
        have hjd : j = d := by omega
        subst hjd
        exact kk H locs _ _ ls (by omega) (by omega) hP hD hS (lv_sub hl [1, 2, 3, 4, 5, 6, 7, 8, 9, 10, 11, 12] rfl)
      ·
        have hJj := dyn_zJ hJ j (by omega)
        have hIj := hJj.1
        refine lv_iload hx hb dL_law_974 (lv_at hl 6 rfl) ?_
        refine z_newi (N := mm) hx hb w_0 hK hP hD hS hA (by omega) (by show cells + 1 ≤ 600130; omega) (by show slots + mm ≤ 7301080; omega) dL_law_976 (fun q_3 H hP hD hS => ?_)
        rw [List.append_assoc] at hP hD
        have hP : va_P G.1 vwCl (xW G x a (dyn σ j).1 ++ uW G y P S rp rs (dyn σ j).1 ++ [(q1, .inl (G.2.1, mm, .inl (af (dF σ d) mm))), (q2, .inl (G.2.1, mm, .inl (af (uF2 σ) mm))), (q_3, .inl (G.2.1, mm, .inl (fun _ => 0)))]) H := hP
        have hD : va_D (nA s.heap.size) (xW G x a (dyn σ j).1 ++ uW G y P S rp rs (dyn σ j).1 ++ [(q1, .inl (G.2.1, mm, .inl (af (dF σ d) mm))), (q2, .inl (G.2.1, mm, .inl (af (uF2 σ) mm))), (q_3, .inl (G.2.1, mm, .inl (fun _ => 0)))]) := hD
        refine lv_astore (lv' := [(18, .ref q_3), (17, .int (iI ((j + 1 : Nat) : Int))), (16, .int (iI (bth σ (p : Int) (d : Int)))), (15, .int (iI (p : Int))), (14, .ref q2), (13, .ref q1), (12, .int (iI (d : Int))), (8, .int (iI (mm : Int))), (7, .int (iI (n : Int))), (4, .int z), (3, .int (iI (t : Int))), (0, .ref b), (1, .ref x), (2, .ref y)]) hx hb dL_law_978 hl (by decide) rfl (fun ls hl => ?_)
        refine lv_iload hx hb dL_law_980 (lv_at hl 7 rfl) ?_
        refine z_newi (N := mm) hx hb w_0 hK hP hD hS hA (by omega) (by show (cells + 1) + 1 ≤ 600130; omega) (by show (slots + mm) + mm ≤ 7301080; omega) dL_law_982 (fun q_4 H hP hD hS => ?_)
        rw [List.append_assoc] at hP hD
        have hP : va_P G.1 vwCl (xW G x a (dyn σ j).1 ++ uW G y P S rp rs (dyn σ j).1 ++ [(q1, .inl (G.2.1, mm, .inl (af (dF σ d) mm))), (q2, .inl (G.2.1, mm, .inl (af (uF2 σ) mm))), (q_3, .inl (G.2.1, mm, .inl (fun _ => 0))), (q_4, .inl (G.2.1, mm, .inl (fun _ => 0)))]) H := hP
        have hD : va_D (nA s.heap.size) (xW G x a (dyn σ j).1 ++ uW G y P S rp rs (dyn σ j).1 ++ [(q1, .inl (G.2.1, mm, .inl (af (dF σ d) mm))), (q2, .inl (G.2.1, mm, .inl (af (uF2 σ) mm))), (q_3, .inl (G.2.1, mm, .inl (fun _ => 0))), (q_4, .inl (G.2.1, mm, .inl (fun _ => 0)))]) := hD
        refine lv_astore (lv' := [(19, .ref q_4), (18, .ref q_3), (17, .int (iI ((j + 1 : Nat) : Int))), (16, .int (iI (bth σ (p : Int) (d : Int)))), (15, .int (iI (p : Int))), (14, .ref q2), (13, .ref q1), (12, .int (iI (d : Int))), (8, .int (iI (mm : Int))), (7, .int (iI (n : Int))), (4, .int z), (3, .int (iI (t : Int))), (0, .ref b), (1, .ref x), (2, .ref y)]) hx hb dL_law_984 hl (by decide) rfl (fun ls hl => ?_)
        have hz1 : (fun _ : Nat => (0 : Int32)) = af (wF4 (dyn σ j).1) 0 := af_0
        have hz2 : (fun _ : Nat => (0 : Int32)) = af (sF5 (dyn σ j).1) 0 := af_0
        have hzz : ((xW G x a (dyn σ j).1 ++ uW G y P S rp rs (dyn σ j).1 ++ [(q1, .inl (G.2.1, mm, .inl (af (dF σ d) mm))), (q2, .inl (G.2.1, mm, .inl (af (uF2 σ) mm))), (q_3, .inl (G.2.1, mm, .inl (fun _ => 0))), (q_4, .inl (G.2.1, mm, .inl (fun _ => 0)))]) : va_W) = (xW G x a (dyn σ j).1 ++ uW G y P S rp rs (dyn σ j).1 ++ [(q1, .inl (G.2.1, mm, .inl (af (dF σ d) mm))), (q2, .inl (G.2.1, mm, .inl (af (uF2 σ) mm))), (q_3, .inl (G.2.1, mm, .inl (af (wF4 (dyn σ j).1) 0))), (q_4, .inl (G.2.1, mm, .inl (af (sF5 (dyn σ j).1) 0)))]) := by rw [← hz1, ← hz2]
        rw [hzz] at hP hD
        refine lv_iconst (v := iI 0) hx hb dL_law_986 rfl ?_
        refine lv_istore (lv' := [(20, .int (iI 0)), (19, .ref q_4), (18, .ref q_3), (17, .int (iI ((j + 1 : Nat) : Int))), (16, .int (iI (bth σ (p : Int) (d : Int)))), (15, .int (iI (p : Int))), (14, .ref q2), (13, .ref q1), (12, .int (iI (d : Int))), (8, .int (iI (mm : Int))), (7, .int (iI (n : Int))), (4, .int z), (3, .int (iI (t : Int))), (0, .ref b), (1, .ref x), (2, .ref y)]) hx hb dL_law_987 hl (by decide) rfl (fun ls hl => ?_)
        have LP989 : ∀ (r989 : Nat) (k1 : Nat) (cells slots : Nat), k1 ≤ mm → mm - k1 < r989 → cells ≤ cells0 + 2 * j + 2 → slots ≤ slots0 + 40 * j + 40 → ∀ (H : Heap) (locs : List Loc) (ls : Array Slot), va_P G.1 vwCl (xW G x a (dyn σ j).1 ++ uW G y P S rp rs (dyn σ j).1 ++ [(q1, .inl (G.2.1, mm, .inl (af (dF σ d) mm))), (q2, .inl (G.2.1, mm, .inl (af (uF2 σ) mm))), (q_3, .inl (G.2.1, mm, .inl (af (wF4 (dyn σ j).1) k1))), (q_4, .inl (G.2.1, mm, .inl (af (sF5 (dyn σ j).1) k1)))]) H → va_D (nA s.heap.size) (xW G x a (dyn σ j).1 ++ uW G y P S rp rs (dyn σ j).1 ++ [(q1, .inl (G.2.1, mm, .inl (af (dF σ d) mm))), (q2, .inl (G.2.1, mm, .inl (af (uF2 σ) mm))), (q_3, .inl (G.2.1, mm, .inl (af (wF4 (dyn σ j).1) k1))), (q_4, .inl (G.2.1, mm, .inl (af (sF5 (dyn σ j).1) k1)))]) → va_S (nA s.heap.size) s.heap H locs → lv_has ls 23 [(20, .int (iI (k1 : Int))), (19, .ref q_4), (18, .ref q_3), (17, .int (iI ((j + 1 : Nat) : Int))), (16, .int (iI (bth σ (p : Int) (d : Int)))), (15, .int (iI (p : Int))), (14, .ref q2), (13, .ref q1), (12, .int (iI (d : Int))), (8, .int (iI (mm : Int))), (7, .int (iI (n : Int))), (4, .int z), (3, .int (iI (t : Int))), (0, .ref b), (1, .ref x), (2, .ref y)] → W pg l e room_1 s m args below meth c H locs cells slots Q (F0 m 989 ls []) := by
          intro r989
          induction r989 with
          | zero => intro k1 cells slots hv989_0 hv989_1; exfalso; omega
          | succ r989 ih989 =>
            intro k1 cells slots hv989_0 hv989_1 hc989 hs989 H locs ls hP hD hS hl
            refine lv_iload hx hb dL_law_989 (lv_at hl 0 rfl) ?_
            refine lv_iload hx hb dL_law_991 (lv_at hl 9 rfl) ?_
            refine z_icmp_ge (tgt := 1024) hx hb dL_law_993 (by decide) (by omega) (by omega) (fun c_5 => ?_) (fun c_5 => ?_)
            ·
              refine lv_aload_n hx hb dL_law_1024 rfl (lv_at hl 14 rfl) ?_
              refine lv_iconst (v := iI 1) hx hb dL_law_1025 rfl ?_
              have hb20 := dyn_b (σ := (dyn σ j).1) (by omega) 1
              refine z_re (v' := iI ((1 : Nat) : Int)) (congrArg iI (by omega)) ?_
              refine zc_wi (va_runV (As := [.int (iI ((1 : Nat) : Int))]) (rest := []) ⟨hx, hb, hml, hown, hts⟩ (c_X0_pass l G x a _ (B + j) (dyn σ j).1 1 hIj (by omega) (by omega)) (cwV 1 hts gL_law_X0_pass rfl rfl rfl (by decide +kernel) ⟨Nat.le_of_ble_eq_true rfl, Nat.le_of_ble_eq_true rfl⟩) (preWX hK (va_Pl (va_Pl hP)) (va_Dl (va_Dl hD))) rfl rfl hl.1 rfl (lv_room (Nat.le_of_ble_eq_true rfl)) dL_law_1026 ⟨by show cells + 0 ≤ 600130; omega, by show slots + 0 ≤ 7301080; omega⟩) hS (jA_x hD hA hS.1) (fun H locs hP1 hS _ hkk => ?_)
              have hP := jx_keep hP hD hP1 hkk
              have hD := jx_D (σ' := ((dyn (dyn σ j).1 1).1)) hD
              have hP : va_P G.1 vwCl (xW G x a ((dyn (dyn σ j).1 1).1) ++ uW G y P S rp rs (dyn σ j).1 ++ [(q1, .inl (G.2.1, mm, .inl (af (dF σ d) mm))), (q2, .inl (G.2.1, mm, .inl (af (uF2 σ) mm))), (q_3, .inl (G.2.1, mm, .inl (af (wF4 (dyn σ j).1) k1))), (q_4, .inl (G.2.1, mm, .inl (af (sF5 (dyn σ j).1) k1)))]) H := hP
              have hD : va_D (nA s.heap.size) (xW G x a ((dyn (dyn σ j).1 1).1) ++ uW G y P S rp rs (dyn σ j).1 ++ [(q1, .inl (G.2.1, mm, .inl (af (dF σ d) mm))), (q2, .inl (G.2.1, mm, .inl (af (uF2 σ) mm))), (q_3, .inl (G.2.1, mm, .inl (af (wF4 (dyn σ j).1) k1))), (q_4, .inl (G.2.1, mm, .inl (af (sF5 (dyn σ j).1) k1)))]) := hD
              refine lv_istore (lv' := [(20, .int (iI ((dyn (dyn σ j).1 1).2))), (19, .ref q_4), (18, .ref q_3), (17, .int (iI ((j + 1 : Nat) : Int))), (16, .int (iI (bth σ (p : Int) (d : Int)))), (15, .int (iI (p : Int))), (14, .ref q2), (13, .ref q1), (12, .int (iI (d : Int))), (8, .int (iI (mm : Int))), (7, .int (iI (n : Int))), (4, .int z), (3, .int (iI (t : Int))), (0, .ref b), (1, .ref x), (2, .ref y)]) hx hb dL_law_1029 hl (by decide) rfl (fun ls hl => ?_)
              refine lv_iload hx hb dL_law_1031 (lv_at hl 0 rfl) ?_
              refine lv_aload_n hx hb dL_law_1033 rfl (lv_at hl 15 rfl) ?_
              refine zc_wi (va_runV (As := []) (rest := [.int (iI ((dyn (dyn σ j).1 1).2))]) ⟨hx, hb, hml, hown, hts⟩ (c_X1_pass l G y P S rp rs _ (B + j) (dyn σ j).1 hIj) (cwV 0 hts gL_law_X1_pass rfl rfl rfl (by decide +kernel) ⟨Nat.le_of_ble_eq_true rfl, Nat.le_of_ble_eq_true rfl⟩) (preWU hK (va_Pr (va_Pl hP)) (va_Dr (va_Dl hD))) rfl rfl hl.1 rfl (lv_room (Nat.le_of_ble_eq_true rfl)) dL_law_1034 ⟨by show cells + 0 ≤ 600130; omega, by show slots + 0 ≤ 7301080; omega⟩) hS (jA_u hD hA hS.1) (fun H locs hP1 hS _ hkk => ?_)
              have hP := ju_keep hP hD hP1 hkk
              have hD := ju_D (σ := (dyn σ j).1) (σ' := ((day1 (dyn σ j).1).1)) (by rw [day1_1]; rfl) (by rw [day1_1]; rfl) hD
              have hP : va_P G.1 vwCl (xW G x a ((dyn (dyn σ j).1 1).1) ++ uW G y P S rp rs ((day1 (dyn σ j).1).1) ++ [(q1, .inl (G.2.1, mm, .inl (af (dF σ d) mm))), (q2, .inl (G.2.1, mm, .inl (af (uF2 σ) mm))), (q_3, .inl (G.2.1, mm, .inl (af (wF4 (dyn σ j).1) k1))), (q_4, .inl (G.2.1, mm, .inl (af (sF5 (dyn σ j).1) k1)))]) H := hP
              have hD : va_D (nA s.heap.size) (xW G x a ((dyn (dyn σ j).1 1).1) ++ uW G y P S rp rs ((day1 (dyn σ j).1).1) ++ [(q1, .inl (G.2.1, mm, .inl (af (dF σ d) mm))), (q2, .inl (G.2.1, mm, .inl (af (uF2 σ) mm))), (q_3, .inl (G.2.1, mm, .inl (af (wF4 (dyn σ j).1) k1))), (q_4, .inl (G.2.1, mm, .inl (af (sF5 (dyn σ j).1) k1)))]) := hD
              have hd1 : (dyn (dyn σ j).1 1).2 = (day1 (dyn σ j).1).2 := Int.zero_add (day1 (dyn σ j).1).2
              have hP : va_P G.1 vwCl (xW G x a (dyn σ (j + 1)).1 ++ uW G y P S rp rs (dyn σ (j + 1)).1 ++ [(q1, .inl (G.2.1, mm, .inl (af (dF σ d) mm))), (q2, .inl (G.2.1, mm, .inl (af (uF2 σ) mm))), (q_3, .inl (G.2.1, mm, .inl (af (wF4 (dyn σ j).1) k1))), (q_4, .inl (G.2.1, mm, .inl (af (sF5 (dyn σ j).1) k1)))]) H := hP
              have hD : va_D (nA s.heap.size) (xW G x a (dyn σ (j + 1)).1 ++ uW G y P S rp rs (dyn σ (j + 1)).1 ++ [(q1, .inl (G.2.1, mm, .inl (af (dF σ d) mm))), (q2, .inl (G.2.1, mm, .inl (af (uF2 σ) mm))), (q_3, .inl (G.2.1, mm, .inl (af (wF4 (dyn σ j).1) k1))), (q_4, .inl (G.2.1, mm, .inl (af (sF5 (dyn σ j).1) k1)))]) := hD
              have hJk := dyn_zJ hJ (j + 1) (by omega)
              have hIk := hJk.1
              have h01 := dyn_01 σ (j + 1)
              have hdc : (day1 (dyn σ j).1).2 = zs (nF (dyn σ j).1) mm := by rw [day_nF, show (dyn σ j).1.1 1 = mm from by omega]
              have hdb := day_b (dyn σ j).1
              refine z_icmp_eq (tgt := 1042) hx hb dL_law_1037 (by decide) (by omega) (by omega) (fun c_6 => ?_) (fun c_6 => ?_)
              ·
                refine lv_iconst (v := iI 0) hx hb dL_law_1042 rfl ?_
                refine lv_istore (lv' := [(21, .int (iI 0)), (20, .int (iI ((dyn (dyn σ j).1 1).2))), (19, .ref q_4), (18, .ref q_3), (17, .int (iI ((j + 1 : Nat) : Int))), (16, .int (iI (bth σ (p : Int) (d : Int)))), (15, .int (iI (p : Int))), (14, .ref q2), (13, .ref q1), (12, .int (iI (d : Int))), (8, .int (iI (mm : Int))), (7, .int (iI (n : Int))), (4, .int z), (3, .int (iI (t : Int))), (0, .ref b), (1, .ref x), (2, .ref y)]) hx hb dL_law_1043 hl (by decide) rfl (fun ls hl => ?_)
                have LP1045 : ∀ (r1045 : Nat) (k : Nat) (s20 : Int), k ≤ mm → mm - k < r1045 → s20 + zs (nF (dyn σ j).1) k = zs (nF (dyn σ j).1) mm → -(k : Int) ≤ s20 ∧ s20 ≤ 20 → ∀ (ls : Array Slot), lv_has ls 23 [(21, .int (iI (k : Int))), (20, .int (iI s20)), (19, .ref q_4), (18, .ref q_3), (17, .int (iI ((j + 1 : Nat) : Int))), (16, .int (iI (bth σ (p : Int) (d : Int)))), (15, .int (iI (p : Int))), (14, .ref q2), (13, .ref q1), (12, .int (iI (d : Int))), (8, .int (iI (mm : Int))), (7, .int (iI (n : Int))), (4, .int z), (3, .int (iI (t : Int))), (0, .ref b), (1, .ref x), (2, .ref y)] → W pg l e room_1 s m args below meth c H locs cells slots Q (F0 m 1045 ls []) := by
                  intro r1045
                  induction r1045 with
                  | zero => intro k s20 hv1045_0 hv1045_1; exfalso; omega
                  | succ r1045 ih1045 =>
                    intro k s20 hv1045_0 hv1045_1 hv1045_2 hv1045_3 ls hl
                    refine lv_iload hx hb dL_law_1045 (lv_at hl 0 rfl) ?_
                    refine lv_iload hx hb dL_law_1047 (lv_at hl 10 rfl) ?_
                    refine z_icmp_ge (tgt := 1169) hx hb dL_law_1049 (by decide) (by omega) (by omega) (fun c_7 => ?_) (fun c_7 => ?_)
                    ·
                      have hkm9 : k = mm := by omega
                      have hv9 := hv1045_2
                      rw [hkm9] at hv9
                      refine lv_iload hx hb dL_law_1169 (lv_at hl 1 rfl) ?_
                      refine z_if_eq (tgt := 1176) hx hb dL_law_1171 (by decide) (by omega) (fun c_8 => ?_) (fun c_8 => ?_)
                      ·
                        refine lv_iinc (v := iI (((j + 1) + 1 : Nat) : Int)) (lv' := [(17, .int (iI (((j + 1) + 1 : Nat) : Int))), (21, .int (iI (k : Int))), (20, .int (iI s20)), (19, .ref q_4), (18, .ref q_3), (16, .int (iI (bth σ (p : Int) (d : Int)))), (15, .int (iI (p : Int))), (14, .ref q2), (13, .ref q1), (12, .int (iI (d : Int))), (8, .int (iI (mm : Int))), (7, .int (iI (n : Int))), (4, .int z), (3, .int (iI (t : Int))), (0, .ref b), (1, .ref x), (2, .ref y)]) hx hb dL_law_1176 hl (k := 4) rfl ((iI_add _ _).trans (congrArg iI (by omega))) (by decide) rfl (fun ls hl => ?_)
                        refine lv_goto (tgt := 967) hx hb dL_law_1179 (by decide) ?_
                        have hP : va_P G.1 vwCl (xW G x a (dyn σ (j + 1)).1 ++ uW G y P S rp rs (dyn σ (j + 1)).1 ++ [(q1, .inl (G.2.1, mm, .inl (af (dF σ d) mm))), (q2, .inl (G.2.1, mm, .inl (af (uF2 σ) mm)))]) H := va_Pl (w2 := [(q_3, .inl (G.2.1, mm, .inl (af (wF4 (dyn σ j).1) k1))), (q_4, .inl (G.2.1, mm, .inl (af (sF5 (dyn σ j).1) k1)))]) (by rw [List.append_assoc]; exact hP)
                        have hD : va_D (nA s.heap.size) (xW G x a (dyn σ (j + 1)).1 ++ uW G y P S rp rs (dyn σ (j + 1)).1 ++ [(q1, .inl (G.2.1, mm, .inl (af (dF σ d) mm))), (q2, .inl (G.2.1, mm, .inl (af (uF2 σ) mm)))]) := va_Dl (w2 := [(q_3, .inl (G.2.1, mm, .inl (af (wF4 (dyn σ j).1) k1))), (q_4, .inl (G.2.1, mm, .inl (af (sF5 (dyn σ j).1) k1)))]) (by rw [List.append_assoc]; exact hD)
                        exact ih967 (j + 1)   _ _ (by omega) (by omega) (by omega) (by omega) H locs ls hP hD hS (lv_sub hl [0, 5, 6, 7, 8, 9, 10, 11, 12, 13, 14, 15, 16] rfl)
                      · exfalso; omega
                    ·
                      have f_9 := day_dyn j hIj k (by omega)
                      have f_10 := st_dyn hI j k (by omega)
                      have f_11 := unt_or σ k
                      have f_12 := hI.r7 k
                      have f_13 := hIj.r5 k
                      have f_14 := hIj.r7 k
                      have f_15 := nF_or (dyn σ j).1 k
                      have f_16 := hIk.r5 k
                      have f_17 := hIk.r4 k
                      have f_18 := hIj.r4 k
                      have f_19 := dyn_7o hI j k (by omega)
                      refine lv_aload hx hb dL_law_1052 (lv_at hl 2 rfl) ?_
                      refine lv_iload hx hb dL_law_1054 (lv_at hl 0 rfl) ?_
                      refine j_ildE hx hb hK hP 3 rfl (i := k) (v := iI ((dyn σ j).1.2 5 k)) (by omega) (by omega) (af_get (by omega)) dL_law_1056 ?_
                      refine z_if_ne (tgt := 1074) hx hb dL_law_1057 (by decide) (by omega) (fun c_20 => ?_) (fun c_20 => ?_)
                      ·
                        refine lv_iconst (v := iI 0) hx hb dL_law_1074 rfl ?_
                        refine lv_istore (lv' := [(22, .int (iI 0)), (21, .int (iI (k : Int))), (20, .int (iI s20)), (19, .ref q_4), (18, .ref q_3), (17, .int (iI ((j + 1 : Nat) : Int))), (16, .int (iI (bth σ (p : Int) (d : Int)))), (15, .int (iI (p : Int))), (14, .ref q2), (13, .ref q1), (12, .int (iI (d : Int))), (8, .int (iI (mm : Int))), (7, .int (iI (n : Int))), (4, .int z), (3, .int (iI (t : Int))), (0, .ref b), (1, .ref x), (2, .ref y)]) hx hb dL_law_1075 hl (by decide) rfl (fun ls hl => ?_)
                        refine lv_iload hx hb dL_law_1077 (lv_at hl 2 rfl) ?_
                        refine lv_iload hx hb dL_law_1079 (lv_at hl 0 rfl) ?_
                        refine z_if_eq (tgt := 1088) hx hb dL_law_1081 (by decide) (by omega) (fun c_21 => ?_) (fun c_21 => ?_)
                        ·
                          refine lv_iconst (v := iI 0) hx hb dL_law_1088 rfl ?_
                          refine z_isub hx hb dL_law_1089 ?_
                          refine lv_istore (lv' := [(20, .int (iI (s20 - 0))), (22, .int (iI 0)), (21, .int (iI (k : Int))), (19, .ref q_4), (18, .ref q_3), (17, .int (iI ((j + 1 : Nat) : Int))), (16, .int (iI (bth σ (p : Int) (d : Int)))), (15, .int (iI (p : Int))), (14, .ref q2), (13, .ref q1), (12, .int (iI (d : Int))), (8, .int (iI (mm : Int))), (7, .int (iI (n : Int))), (4, .int z), (3, .int (iI (t : Int))), (0, .ref b), (1, .ref x), (2, .ref y)]) hx hb dL_law_1090 hl (by decide) rfl (fun ls hl => ?_)
                          refine lv_iload hx hb dL_law_1092 (lv_at hl 1 rfl) ?_
                          refine lv_iload hx hb dL_law_1094 (lv_at hl 5 rfl) ?_
                          refine lv_aload hx hb dL_law_1096 (lv_at hl 8 rfl) ?_
                          refine lv_iload hx hb dL_law_1098 (lv_at hl 2 rfl) ?_
                          refine j_ildE hx hb hK hP 1 rfl (i := k) (v := iI (unt σ k)) (by omega) (by omega) (af_get (by omega)) dL_law_1100 ?_
                          refine z_icmp_ne (tgt := 1108) hx hb dL_law_1101 (by decide) (by omega) (by omega) (fun c_22 => ?_) (fun c_22 => ?_)
                          ·
                            refine lv_iconst (v := iI 0) hx hb dL_law_1108 rfl ?_
                            refine z_icmp_ne (tgt := 1161) hx hb dL_law_1109 (by decide) (by omega) (by omega) (fun c_23 => ?_) (fun c_23 => ?_)
                            · exfalso; revert c_23; decide
                            ·
                              refine lv_aload hx hb dL_law_1112 (lv_at hl 3 rfl) ?_
                              refine lv_iload hx hb dL_law_1114 (lv_at hl 2 rfl) ?_
                              refine j_ildE hx hb hK hP 3 rfl (i := k) (v := iI ((dyn σ j).1.2 5 k)) (by omega) (by omega) (af_get (by omega)) dL_law_1116 ?_
                              refine z_if_le (tgt := 1134) hx hb dL_law_1117 (by decide) (by omega) (fun c_24 => ?_) (fun c_24 => ?_)
                              ·
                                refine lv_aload hx hb dL_law_1134 (lv_at hl 3 rfl) ?_
                                refine lv_iload hx hb dL_law_1136 (lv_at hl 2 rfl) ?_
                                refine j_ildE hx hb hK hP 3 rfl (i := k) (v := iI ((dyn σ j).1.2 5 k)) (by omega) (by omega) (af_get (by omega)) dL_law_1138 ?_
                                refine z_if_ne (tgt := 1163) hx hb dL_law_1139 (by decide) (by omega) (fun c_25 => ?_) (fun c_25 => ?_)
                                ·
                                  refine lv_iinc (v := iI ((k + 1 : Nat) : Int)) (lv' := [(21, .int (iI ((k + 1 : Nat) : Int))), (20, .int (iI (s20 - 0))), (22, .int (iI 0)), (19, .ref q_4), (18, .ref q_3), (17, .int (iI ((j + 1 : Nat) : Int))), (16, .int (iI (bth σ (p : Int) (d : Int)))), (15, .int (iI (p : Int))), (14, .ref q2), (13, .ref q1), (12, .int (iI (d : Int))), (8, .int (iI (mm : Int))), (7, .int (iI (n : Int))), (4, .int z), (3, .int (iI (t : Int))), (0, .ref b), (1, .ref x), (2, .ref y)]) hx hb dL_law_1163 hl (k := 2) rfl ((iI_add _ _).trans (congrArg iI (by omega))) (by decide) rfl (fun ls hl => ?_)
                                  refine lv_goto (tgt := 1045) hx hb dL_law_1166 (by decide) ?_
                                  exact ih1045 (k + 1) (s20 - 0) (by omega) (by omega) (by rw [zs_s]; omega) (by omega) ls (lv_sub hl [0, 1, 3, 4, 5, 6, 7, 8, 9, 10, 11, 12, 13, 14, 15, 16, 17] rfl)
                                ·
                                  refine lv_iload hx hb dL_law_1142 (lv_at hl 1 rfl) ?_
                                  refine z_if_ne (tgt := 1163) hx hb dL_law_1144 (by decide) (by omega) (fun c_26 => ?_) (fun c_26 => ?_)
                                  · exfalso; revert c_26; decide
                                  ·
                                    refine lv_aload_n hx hb dL_law_1147 rfl (lv_at hl 16 rfl) ?_
                                    refine lv_iload hx hb dL_law_1148 (lv_at hl 2 rfl) ?_
                                    refine zc_i (va_runV (As := [.int (iI (k : Int))]) (rest := []) ⟨hx, hb, hml, hown, hts⟩ (c_X0_weightOf l G x a (B + (j + 1)) (dyn σ (j + 1)).1 k hIk (by omega)) (cwV 1 hts gL_law_X0_weightOf rfl rfl rfl (by decide +kernel) ⟨Nat.le_of_ble_eq_true rfl, Nat.le_of_ble_eq_true rfl⟩) (preVX hK (va_Pl (va_Pl hP))) rfl rfl hl.1 rfl (lv_room (Nat.le_of_ble_eq_true rfl)) dL_law_1150 ⟨by show cells + 0 ≤ 600130; omega, by show slots + 0 ≤ 7301080; omega⟩) ?_
                                    have f_27 := hIk.r4 k
                                    refine lv_aload hx hb dL_law_1153 (lv_at hl 4 rfl) ?_
                                    refine lv_iload hx hb dL_law_1155 (lv_at hl 2 rfl) ?_
                                    refine j_ildE hx hb hK hP 2 rfl (i := k) (v := iI ((dyn σ j).1.2 4 k)) (by omega) (by omega) (af_get (by omega)) dL_law_1157 ?_
                                    refine z_icmp_ge (tgt := 1163) hx hb dL_law_1158 (by decide) (by omega) (by omega) (fun c_28 => ?_) (fun c_28 => ?_)
                                    ·
                                      refine lv_iinc (v := iI ((k + 1 : Nat) : Int)) (lv' := [(21, .int (iI ((k + 1 : Nat) : Int))), (20, .int (iI (s20 - 0))), (22, .int (iI 0)), (19, .ref q_4), (18, .ref q_3), (17, .int (iI ((j + 1 : Nat) : Int))), (16, .int (iI (bth σ (p : Int) (d : Int)))), (15, .int (iI (p : Int))), (14, .ref q2), (13, .ref q1), (12, .int (iI (d : Int))), (8, .int (iI (mm : Int))), (7, .int (iI (n : Int))), (4, .int z), (3, .int (iI (t : Int))), (0, .ref b), (1, .ref x), (2, .ref y)]) hx hb dL_law_1163 hl (k := 2) rfl ((iI_add _ _).trans (congrArg iI (by omega))) (by decide) rfl (fun ls hl => ?_)
                                      refine lv_goto (tgt := 1045) hx hb dL_law_1166 (by decide) ?_
                                      exact ih1045 (k + 1) (s20 - 0) (by omega) (by omega) (by rw [zs_s]; omega) (by omega) ls (lv_sub hl [0, 1, 3, 4, 5, 6, 7, 8, 9, 10, 11, 12, 13, 14, 15, 16, 17] rfl)
                                    · exfalso; omega
                              ·
                                refine lv_aload_n hx hb dL_law_1120 rfl (lv_at hl 16 rfl) ?_
                                refine lv_iload hx hb dL_law_1121 (lv_at hl 2 rfl) ?_
                                refine zc_i (va_runV (As := [.int (iI (k : Int))]) (rest := []) ⟨hx, hb, hml, hown, hts⟩ (c_X0_stateOf l G x a (B + (j + 1)) (dyn σ (j + 1)).1 k hIk (by omega)) (cwV 1 hts gL_law_X0_stateOf rfl rfl rfl (by decide +kernel) ⟨Nat.le_of_ble_eq_true rfl, Nat.le_of_ble_eq_true rfl⟩) (preVX hK (va_Pl (va_Pl hP))) rfl rfl hl.1 rfl (lv_room (Nat.le_of_ble_eq_true rfl)) dL_law_1123 ⟨by show cells + 0 ≤ 600130; omega, by show slots + 0 ≤ 7301080; omega⟩) ?_
                                have f_29 := hIk.r5 k
                                refine lv_aload hx hb dL_law_1126 (lv_at hl 3 rfl) ?_
                                refine lv_iload hx hb dL_law_1128 (lv_at hl 2 rfl) ?_
                                refine j_ildE hx hb hK hP 3 rfl (i := k) (v := iI ((dyn σ j).1.2 5 k)) (by omega) (by omega) (af_get (by omega)) dL_law_1130 ?_
                                refine z_icmp_ne (tgt := 1161) hx hb dL_law_1131 (by decide) (by omega) (by omega) (fun c_30 => ?_) (fun c_30 => ?_)
                                · exfalso; omega
                                ·
                                  refine lv_aload hx hb dL_law_1134 (lv_at hl 3 rfl) ?_
                                  refine lv_iload hx hb dL_law_1136 (lv_at hl 2 rfl) ?_
                                  refine j_ildE hx hb hK hP 3 rfl (i := k) (v := iI ((dyn σ j).1.2 5 k)) (by omega) (by omega) (af_get (by omega)) dL_law_1138 ?_
                                  refine z_if_ne (tgt := 1163) hx hb dL_law_1139 (by decide) (by omega) (fun c_31 => ?_) (fun c_31 => ?_)
                                  ·
                                    refine lv_iinc (v := iI ((k + 1 : Nat) : Int)) (lv' := [(21, .int (iI ((k + 1 : Nat) : Int))), (20, .int (iI (s20 - 0))), (22, .int (iI 0)), (19, .ref q_4), (18, .ref q_3), (17, .int (iI ((j + 1 : Nat) : Int))), (16, .int (iI (bth σ (p : Int) (d : Int)))), (15, .int (iI (p : Int))), (14, .ref q2), (13, .ref q1), (12, .int (iI (d : Int))), (8, .int (iI (mm : Int))), (7, .int (iI (n : Int))), (4, .int z), (3, .int (iI (t : Int))), (0, .ref b), (1, .ref x), (2, .ref y)]) hx hb dL_law_1163 hl (k := 2) rfl ((iI_add _ _).trans (congrArg iI (by omega))) (by decide) rfl (fun ls hl => ?_)
                                    refine lv_goto (tgt := 1045) hx hb dL_law_1166 (by decide) ?_
                                    exact ih1045 (k + 1) (s20 - 0) (by omega) (by omega) (by rw [zs_s]; omega) (by omega) ls (lv_sub hl [0, 1, 3, 4, 5, 6, 7, 8, 9, 10, 11, 12, 13, 14, 15, 16, 17] rfl)
                                  ·
                                    refine lv_iload hx hb dL_law_1142 (lv_at hl 1 rfl) ?_
                                    refine z_if_ne (tgt := 1163) hx hb dL_law_1144 (by decide) (by omega) (fun c_32 => ?_) (fun c_32 => ?_)
                                    · exfalso; revert c_32; decide
                                    ·
                                      refine lv_aload_n hx hb dL_law_1147 rfl (lv_at hl 16 rfl) ?_
                                      refine lv_iload hx hb dL_law_1148 (lv_at hl 2 rfl) ?_
                                      refine zc_i (va_runV (As := [.int (iI (k : Int))]) (rest := []) ⟨hx, hb, hml, hown, hts⟩ (c_X0_weightOf l G x a (B + (j + 1)) (dyn σ (j + 1)).1 k hIk (by omega)) (cwV 1 hts gL_law_X0_weightOf rfl rfl rfl (by decide +kernel) ⟨Nat.le_of_ble_eq_true rfl, Nat.le_of_ble_eq_true rfl⟩) (preVX hK (va_Pl (va_Pl hP))) rfl rfl hl.1 rfl (lv_room (Nat.le_of_ble_eq_true rfl)) dL_law_1150 ⟨by show cells + 0 ≤ 600130; omega, by show slots + 0 ≤ 7301080; omega⟩) ?_
                                      have f_33 := hIk.r4 k
                                      refine lv_aload hx hb dL_law_1153 (lv_at hl 4 rfl) ?_
                                      refine lv_iload hx hb dL_law_1155 (lv_at hl 2 rfl) ?_
                                      refine j_ildE hx hb hK hP 2 rfl (i := k) (v := iI ((dyn σ j).1.2 4 k)) (by omega) (by omega) (af_get (by omega)) dL_law_1157 ?_
                                      refine z_icmp_ge (tgt := 1163) hx hb dL_law_1158 (by decide) (by omega) (by omega) (fun c_34 => ?_) (fun c_34 => ?_)
                                      ·
                                        refine lv_iinc (v := iI ((k + 1 : Nat) : Int)) (lv' := [(21, .int (iI ((k + 1 : Nat) : Int))), (20, .int (iI (s20 - 0))), (22, .int (iI 0)), (19, .ref q_4), (18, .ref q_3), (17, .int (iI ((j + 1 : Nat) : Int))), (16, .int (iI (bth σ (p : Int) (d : Int)))), (15, .int (iI (p : Int))), (14, .ref q2), (13, .ref q1), (12, .int (iI (d : Int))), (8, .int (iI (mm : Int))), (7, .int (iI (n : Int))), (4, .int z), (3, .int (iI (t : Int))), (0, .ref b), (1, .ref x), (2, .ref y)]) hx hb dL_law_1163 hl (k := 2) rfl ((iI_add _ _).trans (congrArg iI (by omega))) (by decide) rfl (fun ls hl => ?_)
                                        refine lv_goto (tgt := 1045) hx hb dL_law_1166 (by decide) ?_
                                        exact ih1045 (k + 1) (s20 - 0) (by omega) (by omega) (by rw [zs_s]; omega) (by omega) ls (lv_sub hl [0, 1, 3, 4, 5, 6, 7, 8, 9, 10, 11, 12, 13, 14, 15, 16, 17] rfl)
                                      · exfalso; omega
                          ·
                            refine lv_iconst (v := iI 1) hx hb dL_law_1104 rfl ?_
                            refine lv_goto (tgt := 1109) hx hb dL_law_1105 (by decide) ?_
                            exfalso; omega
                        · exfalso; revert c_21; decide
                      ·
                        refine lv_aload_n hx hb dL_law_1060 rfl (lv_at hl 15 rfl) ?_
                        refine lv_iload hx hb dL_law_1061 (lv_at hl 0 rfl) ?_
                        refine zc_i (va_runV (As := [.int (iI (k : Int))]) (rest := []) ⟨hx, hb, hml, hown, hts⟩ (c_X0_stateOf l G x a (B + (j + 1)) (dyn σ (j + 1)).1 k hIk (by omega)) (cwV 1 hts gL_law_X0_stateOf rfl rfl rfl (by decide +kernel) ⟨Nat.le_of_ble_eq_true rfl, Nat.le_of_ble_eq_true rfl⟩) (preVX hK (va_Pl (va_Pl hP))) rfl rfl hl.1 rfl (lv_room (Nat.le_of_ble_eq_true rfl)) dL_law_1063 ⟨by show cells + 0 ≤ 600130; omega, by show slots + 0 ≤ 7301080; omega⟩) ?_
                        have f_35 := hIk.r5 k
                        refine lv_iconst (v := iI 2) hx hb dL_law_1066 rfl ?_
                        refine z_icmp_ne (tgt := 1074) hx hb dL_law_1067 (by decide) (by omega) (by omega) (fun c_36 => ?_) (fun c_36 => ?_)
                        ·
                          refine lv_iconst (v := iI 0) hx hb dL_law_1074 rfl ?_
                          refine lv_istore (lv' := [(22, .int (iI 0)), (21, .int (iI (k : Int))), (20, .int (iI s20)), (19, .ref q_4), (18, .ref q_3), (17, .int (iI ((j + 1 : Nat) : Int))), (16, .int (iI (bth σ (p : Int) (d : Int)))), (15, .int (iI (p : Int))), (14, .ref q2), (13, .ref q1), (12, .int (iI (d : Int))), (8, .int (iI (mm : Int))), (7, .int (iI (n : Int))), (4, .int z), (3, .int (iI (t : Int))), (0, .ref b), (1, .ref x), (2, .ref y)]) hx hb dL_law_1075 hl (by decide) rfl (fun ls hl => ?_)
                          refine lv_iload hx hb dL_law_1077 (lv_at hl 2 rfl) ?_
                          refine lv_iload hx hb dL_law_1079 (lv_at hl 0 rfl) ?_
                          refine z_if_eq (tgt := 1088) hx hb dL_law_1081 (by decide) (by omega) (fun c_37 => ?_) (fun c_37 => ?_)
                          ·
                            refine lv_iconst (v := iI 0) hx hb dL_law_1088 rfl ?_
                            refine z_isub hx hb dL_law_1089 ?_
                            refine lv_istore (lv' := [(20, .int (iI (s20 - 0))), (22, .int (iI 0)), (21, .int (iI (k : Int))), (19, .ref q_4), (18, .ref q_3), (17, .int (iI ((j + 1 : Nat) : Int))), (16, .int (iI (bth σ (p : Int) (d : Int)))), (15, .int (iI (p : Int))), (14, .ref q2), (13, .ref q1), (12, .int (iI (d : Int))), (8, .int (iI (mm : Int))), (7, .int (iI (n : Int))), (4, .int z), (3, .int (iI (t : Int))), (0, .ref b), (1, .ref x), (2, .ref y)]) hx hb dL_law_1090 hl (by decide) rfl (fun ls hl => ?_)
                            refine lv_iload hx hb dL_law_1092 (lv_at hl 1 rfl) ?_
                            refine lv_iload hx hb dL_law_1094 (lv_at hl 5 rfl) ?_
                            refine lv_aload hx hb dL_law_1096 (lv_at hl 8 rfl) ?_
                            refine lv_iload hx hb dL_law_1098 (lv_at hl 2 rfl) ?_
                            refine j_ildE hx hb hK hP 1 rfl (i := k) (v := iI (unt σ k)) (by omega) (by omega) (af_get (by omega)) dL_law_1100 ?_
                            refine z_icmp_ne (tgt := 1108) hx hb dL_law_1101 (by decide) (by omega) (by omega) (fun c_38 => ?_) (fun c_38 => ?_)
                            ·
                              refine lv_iconst (v := iI 0) hx hb dL_law_1108 rfl ?_
                              refine z_icmp_ne (tgt := 1161) hx hb dL_law_1109 (by decide) (by omega) (by omega) (fun c_39 => ?_) (fun c_39 => ?_)
                              · exfalso; revert c_39; decide
                              ·
                                refine lv_aload hx hb dL_law_1112 (lv_at hl 3 rfl) ?_
                                refine lv_iload hx hb dL_law_1114 (lv_at hl 2 rfl) ?_
                                refine j_ildE hx hb hK hP 3 rfl (i := k) (v := iI ((dyn σ j).1.2 5 k)) (by omega) (by omega) (af_get (by omega)) dL_law_1116 ?_
                                refine z_if_le (tgt := 1134) hx hb dL_law_1117 (by decide) (by omega) (fun c_40 => ?_) (fun c_40 => ?_)
                                ·
                                  refine lv_aload hx hb dL_law_1134 (lv_at hl 3 rfl) ?_
                                  refine lv_iload hx hb dL_law_1136 (lv_at hl 2 rfl) ?_
                                  refine j_ildE hx hb hK hP 3 rfl (i := k) (v := iI ((dyn σ j).1.2 5 k)) (by omega) (by omega) (af_get (by omega)) dL_law_1138 ?_
                                  refine z_if_ne (tgt := 1163) hx hb dL_law_1139 (by decide) (by omega) (fun c_41 => ?_) (fun c_41 => ?_)
                                  ·
                                    refine lv_iinc (v := iI ((k + 1 : Nat) : Int)) (lv' := [(21, .int (iI ((k + 1 : Nat) : Int))), (20, .int (iI (s20 - 0))), (22, .int (iI 0)), (19, .ref q_4), (18, .ref q_3), (17, .int (iI ((j + 1 : Nat) : Int))), (16, .int (iI (bth σ (p : Int) (d : Int)))), (15, .int (iI (p : Int))), (14, .ref q2), (13, .ref q1), (12, .int (iI (d : Int))), (8, .int (iI (mm : Int))), (7, .int (iI (n : Int))), (4, .int z), (3, .int (iI (t : Int))), (0, .ref b), (1, .ref x), (2, .ref y)]) hx hb dL_law_1163 hl (k := 2) rfl ((iI_add _ _).trans (congrArg iI (by omega))) (by decide) rfl (fun ls hl => ?_)
                                    refine lv_goto (tgt := 1045) hx hb dL_law_1166 (by decide) ?_
                                    exact ih1045 (k + 1) (s20 - 0) (by omega) (by omega) (by rw [zs_s]; omega) (by omega) ls (lv_sub hl [0, 1, 3, 4, 5, 6, 7, 8, 9, 10, 11, 12, 13, 14, 15, 16, 17] rfl)
                                  ·
                                    refine lv_iload hx hb dL_law_1142 (lv_at hl 1 rfl) ?_
                                    refine z_if_ne (tgt := 1163) hx hb dL_law_1144 (by decide) (by omega) (fun c_42 => ?_) (fun c_42 => ?_)
                                    · exfalso; revert c_42; decide
                                    ·
                                      refine lv_aload_n hx hb dL_law_1147 rfl (lv_at hl 16 rfl) ?_
                                      refine lv_iload hx hb dL_law_1148 (lv_at hl 2 rfl) ?_
                                      refine zc_i (va_runV (As := [.int (iI (k : Int))]) (rest := []) ⟨hx, hb, hml, hown, hts⟩ (c_X0_weightOf l G x a (B + (j + 1)) (dyn σ (j + 1)).1 k hIk (by omega)) (cwV 1 hts gL_law_X0_weightOf rfl rfl rfl (by decide +kernel) ⟨Nat.le_of_ble_eq_true rfl, Nat.le_of_ble_eq_true rfl⟩) (preVX hK (va_Pl (va_Pl hP))) rfl rfl hl.1 rfl (lv_room (Nat.le_of_ble_eq_true rfl)) dL_law_1150 ⟨by show cells + 0 ≤ 600130; omega, by show slots + 0 ≤ 7301080; omega⟩) ?_
                                      have f_43 := hIk.r4 k
                                      refine lv_aload hx hb dL_law_1153 (lv_at hl 4 rfl) ?_
                                      refine lv_iload hx hb dL_law_1155 (lv_at hl 2 rfl) ?_
                                      refine j_ildE hx hb hK hP 2 rfl (i := k) (v := iI ((dyn σ j).1.2 4 k)) (by omega) (by omega) (af_get (by omega)) dL_law_1157 ?_
                                      refine z_icmp_ge (tgt := 1163) hx hb dL_law_1158 (by decide) (by omega) (by omega) (fun c_44 => ?_) (fun c_44 => ?_)
                                      ·
                                        refine lv_iinc (v := iI ((k + 1 : Nat) : Int)) (lv' := [(21, .int (iI ((k + 1 : Nat) : Int))), (20, .int (iI (s20 - 0))), (22, .int (iI 0)), (19, .ref q_4), (18, .ref q_3), (17, .int (iI ((j + 1 : Nat) : Int))), (16, .int (iI (bth σ (p : Int) (d : Int)))), (15, .int (iI (p : Int))), (14, .ref q2), (13, .ref q1), (12, .int (iI (d : Int))), (8, .int (iI (mm : Int))), (7, .int (iI (n : Int))), (4, .int z), (3, .int (iI (t : Int))), (0, .ref b), (1, .ref x), (2, .ref y)]) hx hb dL_law_1163 hl (k := 2) rfl ((iI_add _ _).trans (congrArg iI (by omega))) (by decide) rfl (fun ls hl => ?_)
                                        refine lv_goto (tgt := 1045) hx hb dL_law_1166 (by decide) ?_
                                        exact ih1045 (k + 1) (s20 - 0) (by omega) (by omega) (by rw [zs_s]; omega) (by omega) ls (lv_sub hl [0, 1, 3, 4, 5, 6, 7, 8, 9, 10, 11, 12, 13, 14, 15, 16, 17] rfl)
                                      · exfalso; omega
                                ·
                                  refine lv_aload_n hx hb dL_law_1120 rfl (lv_at hl 16 rfl) ?_
                                  refine lv_iload hx hb dL_law_1121 (lv_at hl 2 rfl) ?_
                                  refine zc_i (va_runV (As := [.int (iI (k : Int))]) (rest := []) ⟨hx, hb, hml, hown, hts⟩ (c_X0_stateOf l G x a (B + (j + 1)) (dyn σ (j + 1)).1 k hIk (by omega)) (cwV 1 hts gL_law_X0_stateOf rfl rfl rfl (by decide +kernel) ⟨Nat.le_of_ble_eq_true rfl, Nat.le_of_ble_eq_true rfl⟩) (preVX hK (va_Pl (va_Pl hP))) rfl rfl hl.1 rfl (lv_room (Nat.le_of_ble_eq_true rfl)) dL_law_1123 ⟨by show cells + 0 ≤ 600130; omega, by show slots + 0 ≤ 7301080; omega⟩) ?_
                                  have f_45 := hIk.r5 k
                                  refine lv_aload hx hb dL_law_1126 (lv_at hl 3 rfl) ?_
                                  refine lv_iload hx hb dL_law_1128 (lv_at hl 2 rfl) ?_
                                  refine j_ildE hx hb hK hP 3 rfl (i := k) (v := iI ((dyn σ j).1.2 5 k)) (by omega) (by omega) (af_get (by omega)) dL_law_1130 ?_
                                  refine z_icmp_ne (tgt := 1161) hx hb dL_law_1131 (by decide) (by omega) (by omega) (fun c_46 => ?_) (fun c_46 => ?_)
                                  · exfalso; omega
                                  ·
                                    refine lv_aload hx hb dL_law_1134 (lv_at hl 3 rfl) ?_
                                    refine lv_iload hx hb dL_law_1136 (lv_at hl 2 rfl) ?_
                                    refine j_ildE hx hb hK hP 3 rfl (i := k) (v := iI ((dyn σ j).1.2 5 k)) (by omega) (by omega) (af_get (by omega)) dL_law_1138 ?_
                                    refine z_if_ne (tgt := 1163) hx hb dL_law_1139 (by decide) (by omega) (fun c_47 => ?_) (fun c_47 => ?_)
                                    ·
                                      refine lv_iinc (v := iI ((k + 1 : Nat) : Int)) (lv' := [(21, .int (iI ((k + 1 : Nat) : Int))), (20, .int (iI (s20 - 0))), (22, .int (iI 0)), (19, .ref q_4), (18, .ref q_3), (17, .int (iI ((j + 1 : Nat) : Int))), (16, .int (iI (bth σ (p : Int) (d : Int)))), (15, .int (iI (p : Int))), (14, .ref q2), (13, .ref q1), (12, .int (iI (d : Int))), (8, .int (iI (mm : Int))), (7, .int (iI (n : Int))), (4, .int z), (3, .int (iI (t : Int))), (0, .ref b), (1, .ref x), (2, .ref y)]) hx hb dL_law_1163 hl (k := 2) rfl ((iI_add _ _).trans (congrArg iI (by omega))) (by decide) rfl (fun ls hl => ?_)
                                      refine lv_goto (tgt := 1045) hx hb dL_law_1166 (by decide) ?_
                                      exact ih1045 (k + 1) (s20 - 0) (by omega) (by omega) (by rw [zs_s]; omega) (by omega) ls (lv_sub hl [0, 1, 3, 4, 5, 6, 7, 8, 9, 10, 11, 12, 13, 14, 15, 16, 17] rfl)
                                    ·
                                      refine lv_iload hx hb dL_law_1142 (lv_at hl 1 rfl) ?_
                                      refine z_if_ne (tgt := 1163) hx hb dL_law_1144 (by decide) (by omega) (fun c_48 => ?_) (fun c_48 => ?_)
                                      · exfalso; revert c_48; decide
                                      ·
                                        refine lv_aload_n hx hb dL_law_1147 rfl (lv_at hl 16 rfl) ?_
                                        refine lv_iload hx hb dL_law_1148 (lv_at hl 2 rfl) ?_
                                        refine zc_i (va_runV (As := [.int (iI (k : Int))]) (rest := []) ⟨hx, hb, hml, hown, hts⟩ (c_X0_weightOf l G x a (B + (j + 1)) (dyn σ (j + 1)).1 k hIk (by omega)) (cwV 1 hts gL_law_X0_weightOf rfl rfl rfl (by decide +kernel) ⟨Nat.le_of_ble_eq_true rfl, Nat.le_of_ble_eq_true rfl⟩) (preVX hK (va_Pl (va_Pl hP))) rfl rfl hl.1 rfl (lv_room (Nat.le_of_ble_eq_true rfl)) dL_law_1150 ⟨by show cells + 0 ≤ 600130; omega, by show slots + 0 ≤ 7301080; omega⟩) ?_
                                        have f_49 := hIk.r4 k
                                        refine lv_aload hx hb dL_law_1153 (lv_at hl 4 rfl) ?_
                                        refine lv_iload hx hb dL_law_1155 (lv_at hl 2 rfl) ?_
                                        refine j_ildE hx hb hK hP 2 rfl (i := k) (v := iI ((dyn σ j).1.2 4 k)) (by omega) (by omega) (af_get (by omega)) dL_law_1157 ?_
                                        refine z_icmp_ge (tgt := 1163) hx hb dL_law_1158 (by decide) (by omega) (by omega) (fun c_50 => ?_) (fun c_50 => ?_)
                                        ·
                                          refine lv_iinc (v := iI ((k + 1 : Nat) : Int)) (lv' := [(21, .int (iI ((k + 1 : Nat) : Int))), (20, .int (iI (s20 - 0))), (22, .int (iI 0)), (19, .ref q_4), (18, .ref q_3), (17, .int (iI ((j + 1 : Nat) : Int))), (16, .int (iI (bth σ (p : Int) (d : Int)))), (15, .int (iI (p : Int))), (14, .ref q2), (13, .ref q1), (12, .int (iI (d : Int))), (8, .int (iI (mm : Int))), (7, .int (iI (n : Int))), (4, .int z), (3, .int (iI (t : Int))), (0, .ref b), (1, .ref x), (2, .ref y)]) hx hb dL_law_1163 hl (k := 2) rfl ((iI_add _ _).trans (congrArg iI (by omega))) (by decide) rfl (fun ls hl => ?_)
                                          refine lv_goto (tgt := 1045) hx hb dL_law_1166 (by decide) ?_
                                          exact ih1045 (k + 1) (s20 - 0) (by omega) (by omega) (by rw [zs_s]; omega) (by omega) ls (lv_sub hl [0, 1, 3, 4, 5, 6, 7, 8, 9, 10, 11, 12, 13, 14, 15, 16, 17] rfl)
                                        · exfalso; omega
                            ·
                              refine lv_iconst (v := iI 1) hx hb dL_law_1104 rfl ?_
                              refine lv_goto (tgt := 1109) hx hb dL_law_1105 (by decide) ?_
                              exfalso; omega
                          · exfalso; revert c_37; decide
                        ·
                          refine lv_iconst (v := iI 1) hx hb dL_law_1070 rfl ?_
                          refine lv_goto (tgt := 1075) hx hb dL_law_1071 (by decide) ?_
                          refine lv_istore (lv' := [(22, .int (iI 1)), (21, .int (iI (k : Int))), (20, .int (iI s20)), (19, .ref q_4), (18, .ref q_3), (17, .int (iI ((j + 1 : Nat) : Int))), (16, .int (iI (bth σ (p : Int) (d : Int)))), (15, .int (iI (p : Int))), (14, .ref q2), (13, .ref q1), (12, .int (iI (d : Int))), (8, .int (iI (mm : Int))), (7, .int (iI (n : Int))), (4, .int z), (3, .int (iI (t : Int))), (0, .ref b), (1, .ref x), (2, .ref y)]) hx hb dL_law_1075 hl (by decide) rfl (fun ls hl => ?_)
                          refine lv_iload hx hb dL_law_1077 (lv_at hl 2 rfl) ?_
                          refine lv_iload hx hb dL_law_1079 (lv_at hl 0 rfl) ?_
                          refine z_if_eq (tgt := 1088) hx hb dL_law_1081 (by decide) (by omega) (fun c_51 => ?_) (fun c_51 => ?_)
                          · exfalso; revert c_51; decide
                          ·
                            refine lv_iconst (v := iI 1) hx hb dL_law_1084 rfl ?_
                            refine lv_goto (tgt := 1089) hx hb dL_law_1085 (by decide) ?_
                            refine z_isub hx hb dL_law_1089 ?_
                            refine lv_istore (lv' := [(20, .int (iI (s20 - 1))), (22, .int (iI 1)), (21, .int (iI (k : Int))), (19, .ref q_4), (18, .ref q_3), (17, .int (iI ((j + 1 : Nat) : Int))), (16, .int (iI (bth σ (p : Int) (d : Int)))), (15, .int (iI (p : Int))), (14, .ref q2), (13, .ref q1), (12, .int (iI (d : Int))), (8, .int (iI (mm : Int))), (7, .int (iI (n : Int))), (4, .int z), (3, .int (iI (t : Int))), (0, .ref b), (1, .ref x), (2, .ref y)]) hx hb dL_law_1090 hl (by decide) rfl (fun ls hl => ?_)
                            refine lv_iload hx hb dL_law_1092 (lv_at hl 1 rfl) ?_
                            refine lv_iload hx hb dL_law_1094 (lv_at hl 5 rfl) ?_
                            refine lv_aload hx hb dL_law_1096 (lv_at hl 8 rfl) ?_
                            refine lv_iload hx hb dL_law_1098 (lv_at hl 2 rfl) ?_
                            refine j_ildE hx hb hK hP 1 rfl (i := k) (v := iI (unt σ k)) (by omega) (by omega) (af_get (by omega)) dL_law_1100 ?_
                            refine z_icmp_ne (tgt := 1108) hx hb dL_law_1101 (by decide) (by omega) (by omega) (fun c_52 => ?_) (fun c_52 => ?_)
                            ·
                              refine lv_iconst (v := iI 0) hx hb dL_law_1108 rfl ?_
                              exfalso; omega
                            ·
                              refine lv_iconst (v := iI 1) hx hb dL_law_1104 rfl ?_
                              refine lv_goto (tgt := 1109) hx hb dL_law_1105 (by decide) ?_
                              refine z_icmp_ne (tgt := 1161) hx hb dL_law_1109 (by decide) (by omega) (by omega) (fun c_53 => ?_) (fun c_53 => ?_)
                              · exfalso; revert c_53; decide
                              ·
                                refine lv_aload hx hb dL_law_1112 (lv_at hl 3 rfl) ?_
                                refine lv_iload hx hb dL_law_1114 (lv_at hl 2 rfl) ?_
                                refine j_ildE hx hb hK hP 3 rfl (i := k) (v := iI ((dyn σ j).1.2 5 k)) (by omega) (by omega) (af_get (by omega)) dL_law_1116 ?_
                                refine z_if_le (tgt := 1134) hx hb dL_law_1117 (by decide) (by omega) (fun c_54 => ?_) (fun c_54 => ?_)
                                ·
                                  refine lv_aload hx hb dL_law_1134 (lv_at hl 3 rfl) ?_
                                  refine lv_iload hx hb dL_law_1136 (lv_at hl 2 rfl) ?_
                                  refine j_ildE hx hb hK hP 3 rfl (i := k) (v := iI ((dyn σ j).1.2 5 k)) (by omega) (by omega) (af_get (by omega)) dL_law_1138 ?_
                                  refine z_if_ne (tgt := 1163) hx hb dL_law_1139 (by decide) (by omega) (fun c_55 => ?_) (fun c_55 => ?_)
                                  ·
                                    refine lv_iinc (v := iI ((k + 1 : Nat) : Int)) (lv' := [(21, .int (iI ((k + 1 : Nat) : Int))), (20, .int (iI (s20 - 1))), (22, .int (iI 1)), (19, .ref q_4), (18, .ref q_3), (17, .int (iI ((j + 1 : Nat) : Int))), (16, .int (iI (bth σ (p : Int) (d : Int)))), (15, .int (iI (p : Int))), (14, .ref q2), (13, .ref q1), (12, .int (iI (d : Int))), (8, .int (iI (mm : Int))), (7, .int (iI (n : Int))), (4, .int z), (3, .int (iI (t : Int))), (0, .ref b), (1, .ref x), (2, .ref y)]) hx hb dL_law_1163 hl (k := 2) rfl ((iI_add _ _).trans (congrArg iI (by omega))) (by decide) rfl (fun ls hl => ?_)
                                    refine lv_goto (tgt := 1045) hx hb dL_law_1166 (by decide) ?_
                                    exact ih1045 (k + 1) (s20 - 1) (by omega) (by omega) (by rw [zs_s]; omega) (by omega) ls (lv_sub hl [0, 1, 3, 4, 5, 6, 7, 8, 9, 10, 11, 12, 13, 14, 15, 16, 17] rfl)
                                  ·
                                    refine lv_iload hx hb dL_law_1142 (lv_at hl 1 rfl) ?_
                                    refine z_if_ne (tgt := 1163) hx hb dL_law_1144 (by decide) (by omega) (fun c_56 => ?_) (fun c_56 => ?_)
                                    ·
                                      refine lv_iinc (v := iI ((k + 1 : Nat) : Int)) (lv' := [(21, .int (iI ((k + 1 : Nat) : Int))), (20, .int (iI (s20 - 1))), (22, .int (iI 1)), (19, .ref q_4), (18, .ref q_3), (17, .int (iI ((j + 1 : Nat) : Int))), (16, .int (iI (bth σ (p : Int) (d : Int)))), (15, .int (iI (p : Int))), (14, .ref q2), (13, .ref q1), (12, .int (iI (d : Int))), (8, .int (iI (mm : Int))), (7, .int (iI (n : Int))), (4, .int z), (3, .int (iI (t : Int))), (0, .ref b), (1, .ref x), (2, .ref y)]) hx hb dL_law_1163 hl (k := 2) rfl ((iI_add _ _).trans (congrArg iI (by omega))) (by decide) rfl (fun ls hl => ?_)
                                      refine lv_goto (tgt := 1045) hx hb dL_law_1166 (by decide) ?_
                                      exact ih1045 (k + 1) (s20 - 1) (by omega) (by omega) (by rw [zs_s]; omega) (by omega) ls (lv_sub hl [0, 1, 3, 4, 5, 6, 7, 8, 9, 10, 11, 12, 13, 14, 15, 16, 17] rfl)
                                    · exfalso; revert c_56; decide
                                ·
                                  refine lv_aload_n hx hb dL_law_1120 rfl (lv_at hl 16 rfl) ?_
                                  refine lv_iload hx hb dL_law_1121 (lv_at hl 2 rfl) ?_
                                  refine zc_i (va_runV (As := [.int (iI (k : Int))]) (rest := []) ⟨hx, hb, hml, hown, hts⟩ (c_X0_stateOf l G x a (B + (j + 1)) (dyn σ (j + 1)).1 k hIk (by omega)) (cwV 1 hts gL_law_X0_stateOf rfl rfl rfl (by decide +kernel) ⟨Nat.le_of_ble_eq_true rfl, Nat.le_of_ble_eq_true rfl⟩) (preVX hK (va_Pl (va_Pl hP))) rfl rfl hl.1 rfl (lv_room (Nat.le_of_ble_eq_true rfl)) dL_law_1123 ⟨by show cells + 0 ≤ 600130; omega, by show slots + 0 ≤ 7301080; omega⟩) ?_
                                  have f_57 := hIk.r5 k
                                  refine lv_aload hx hb dL_law_1126 (lv_at hl 3 rfl) ?_
                                  refine lv_iload hx hb dL_law_1128 (lv_at hl 2 rfl) ?_
                                  refine j_ildE hx hb hK hP 3 rfl (i := k) (v := iI ((dyn σ j).1.2 5 k)) (by omega) (by omega) (af_get (by omega)) dL_law_1130 ?_
                                  refine z_icmp_ne (tgt := 1161) hx hb dL_law_1131 (by decide) (by omega) (by omega) (fun c_58 => ?_) (fun c_58 => ?_)
                                  · exfalso; omega
                                  ·
                                    refine lv_aload hx hb dL_law_1134 (lv_at hl 3 rfl) ?_
                                    refine lv_iload hx hb dL_law_1136 (lv_at hl 2 rfl) ?_
                                    refine j_ildE hx hb hK hP 3 rfl (i := k) (v := iI ((dyn σ j).1.2 5 k)) (by omega) (by omega) (af_get (by omega)) dL_law_1138 ?_
                                    refine z_if_ne (tgt := 1163) hx hb dL_law_1139 (by decide) (by omega) (fun c_59 => ?_) (fun c_59 => ?_)
                                    ·
                                      refine lv_iinc (v := iI ((k + 1 : Nat) : Int)) (lv' := [(21, .int (iI ((k + 1 : Nat) : Int))), (20, .int (iI (s20 - 1))), (22, .int (iI 1)), (19, .ref q_4), (18, .ref q_3), (17, .int (iI ((j + 1 : Nat) : Int))), (16, .int (iI (bth σ (p : Int) (d : Int)))), (15, .int (iI (p : Int))), (14, .ref q2), (13, .ref q1), (12, .int (iI (d : Int))), (8, .int (iI (mm : Int))), (7, .int (iI (n : Int))), (4, .int z), (3, .int (iI (t : Int))), (0, .ref b), (1, .ref x), (2, .ref y)]) hx hb dL_law_1163 hl (k := 2) rfl ((iI_add _ _).trans (congrArg iI (by omega))) (by decide) rfl (fun ls hl => ?_)
                                      refine lv_goto (tgt := 1045) hx hb dL_law_1166 (by decide) ?_
                                      exact ih1045 (k + 1) (s20 - 1) (by omega) (by omega) (by rw [zs_s]; omega) (by omega) ls (lv_sub hl [0, 1, 3, 4, 5, 6, 7, 8, 9, 10, 11, 12, 13, 14, 15, 16, 17] rfl)
                                    ·
                                      refine lv_iload hx hb dL_law_1142 (lv_at hl 1 rfl) ?_
                                      refine z_if_ne (tgt := 1163) hx hb dL_law_1144 (by decide) (by omega) (fun c_60 => ?_) (fun c_60 => ?_)
                                      ·
                                        refine lv_iinc (v := iI ((k + 1 : Nat) : Int)) (lv' := [(21, .int (iI ((k + 1 : Nat) : Int))), (20, .int (iI (s20 - 1))), (22, .int (iI 1)), (19, .ref q_4), (18, .ref q_3), (17, .int (iI ((j + 1 : Nat) : Int))), (16, .int (iI (bth σ (p : Int) (d : Int)))), (15, .int (iI (p : Int))), (14, .ref q2), (13, .ref q1), (12, .int (iI (d : Int))), (8, .int (iI (mm : Int))), (7, .int (iI (n : Int))), (4, .int z), (3, .int (iI (t : Int))), (0, .ref b), (1, .ref x), (2, .ref y)]) hx hb dL_law_1163 hl (k := 2) rfl ((iI_add _ _).trans (congrArg iI (by omega))) (by decide) rfl (fun ls hl => ?_)
                                        refine lv_goto (tgt := 1045) hx hb dL_law_1166 (by decide) ?_
                                        exact ih1045 (k + 1) (s20 - 1) (by omega) (by omega) (by rw [zs_s]; omega) (by omega) ls (lv_sub hl [0, 1, 3, 4, 5, 6, 7, 8, 9, 10, 11, 12, 13, 14, 15, 16, 17] rfl)
                                      · exfalso; revert c_60; decide
                exact LP1045 (mm - 0 + 1) 0 ((dyn (dyn σ j).1 1).2) (by omega) (by omega) (by rw [zs_0]; omega) (by omega) ls (lv_sub hl [0, 1, 2, 3, 4, 5, 6, 7, 8, 9, 10, 11, 12, 13, 14, 15, 16] rfl)
              · exfalso; omega
            ·
              refine lv_aload hx hb dL_law_996 (lv_at hl 2 rfl) ?_
              refine lv_iload hx hb dL_law_998 (lv_at hl 0 rfl) ?_
              refine lv_aload_n hx hb dL_law_1000 rfl (lv_at hl 14 rfl) ?_
              refine lv_iload hx hb dL_law_1001 (lv_at hl 0 rfl) ?_
              refine zc_i (va_runV (As := [.int (iI (k1 : Int))]) (rest := [.int (iI (k1 : Int)), .ref q_3]) ⟨hx, hb, hml, hown, hts⟩ (c_X0_weightOf l G x a (B + j) (dyn σ j).1 k1 hIj (by omega)) (cwV 1 hts gL_law_X0_weightOf rfl rfl rfl (by decide +kernel) ⟨Nat.le_of_ble_eq_true rfl, Nat.le_of_ble_eq_true rfl⟩) (preVX hK (va_Pl (va_Pl hP))) rfl rfl hl.1 rfl (lv_room (Nat.le_of_ble_eq_true rfl)) dL_law_1003 ⟨by show cells + 0 ≤ 600130; omega, by show slots + 0 ≤ 7301080; omega⟩) ?_
              have f_61 := hIj.r4 k1
              refine j_istE hx hb hK hP hD hS 2 rfl (i := k1) (by omega) (by omega) rfl dL_law_1006 (fun H locs hP hD hS => ?_)
              rw [show upd (af (wF4 (dyn σ j).1) k1) k1 (iI ((dyn σ j).1.2 4 k1)) = af (wF4 (dyn σ j).1) (k1 + 1) from af_step] at hP hD
              have hP : va_P G.1 vwCl (xW G x a (dyn σ j).1 ++ uW G y P S rp rs (dyn σ j).1 ++ [(q1, .inl (G.2.1, mm, .inl (af (dF σ d) mm))), (q2, .inl (G.2.1, mm, .inl (af (uF2 σ) mm))), (q_3, .inl (G.2.1, mm, .inl (af (wF4 (dyn σ j).1) (k1 + 1)))), (q_4, .inl (G.2.1, mm, .inl (af (sF5 (dyn σ j).1) k1)))]) H := hP
              have hD : va_D (nA s.heap.size) (xW G x a (dyn σ j).1 ++ uW G y P S rp rs (dyn σ j).1 ++ [(q1, .inl (G.2.1, mm, .inl (af (dF σ d) mm))), (q2, .inl (G.2.1, mm, .inl (af (uF2 σ) mm))), (q_3, .inl (G.2.1, mm, .inl (af (wF4 (dyn σ j).1) (k1 + 1)))), (q_4, .inl (G.2.1, mm, .inl (af (sF5 (dyn σ j).1) k1)))]) := hD
              refine lv_aload hx hb dL_law_1007 (lv_at hl 1 rfl) ?_
              refine lv_iload hx hb dL_law_1009 (lv_at hl 0 rfl) ?_
              refine lv_aload_n hx hb dL_law_1011 rfl (lv_at hl 14 rfl) ?_
              refine lv_iload hx hb dL_law_1012 (lv_at hl 0 rfl) ?_
              refine zc_i (va_runV (As := [.int (iI (k1 : Int))]) (rest := [.int (iI (k1 : Int)), .ref q_4]) ⟨hx, hb, hml, hown, hts⟩ (c_X0_stateOf l G x a (B + j) (dyn σ j).1 k1 hIj (by omega)) (cwV 1 hts gL_law_X0_stateOf rfl rfl rfl (by decide +kernel) ⟨Nat.le_of_ble_eq_true rfl, Nat.le_of_ble_eq_true rfl⟩) (preVX hK (va_Pl (va_Pl hP))) rfl rfl hl.1 rfl (lv_room (Nat.le_of_ble_eq_true rfl)) dL_law_1014 ⟨by show cells + 0 ≤ 600130; omega, by show slots + 0 ≤ 7301080; omega⟩) ?_
              have f_62 := hIj.r5 k1
              refine j_istE hx hb hK hP hD hS 3 rfl (i := k1) (by omega) (by omega) rfl dL_law_1017 (fun H locs hP hD hS => ?_)
              rw [show upd (af (sF5 (dyn σ j).1) k1) k1 (iI ((dyn σ j).1.2 5 k1)) = af (sF5 (dyn σ j).1) (k1 + 1) from af_step] at hP hD
              have hP : va_P G.1 vwCl (xW G x a (dyn σ j).1 ++ uW G y P S rp rs (dyn σ j).1 ++ [(q1, .inl (G.2.1, mm, .inl (af (dF σ d) mm))), (q2, .inl (G.2.1, mm, .inl (af (uF2 σ) mm))), (q_3, .inl (G.2.1, mm, .inl (af (wF4 (dyn σ j).1) (k1 + 1)))), (q_4, .inl (G.2.1, mm, .inl (af (sF5 (dyn σ j).1) (k1 + 1))))]) H := hP
              have hD : va_D (nA s.heap.size) (xW G x a (dyn σ j).1 ++ uW G y P S rp rs (dyn σ j).1 ++ [(q1, .inl (G.2.1, mm, .inl (af (dF σ d) mm))), (q2, .inl (G.2.1, mm, .inl (af (uF2 σ) mm))), (q_3, .inl (G.2.1, mm, .inl (af (wF4 (dyn σ j).1) (k1 + 1)))), (q_4, .inl (G.2.1, mm, .inl (af (sF5 (dyn σ j).1) (k1 + 1))))]) := hD
              refine lv_iinc (v := iI ((k1 + 1 : Nat) : Int)) (lv' := [(20, .int (iI ((k1 + 1 : Nat) : Int))), (19, .ref q_4), (18, .ref q_3), (17, .int (iI ((j + 1 : Nat) : Int))), (16, .int (iI (bth σ (p : Int) (d : Int)))), (15, .int (iI (p : Int))), (14, .ref q2), (13, .ref q1), (12, .int (iI (d : Int))), (8, .int (iI (mm : Int))), (7, .int (iI (n : Int))), (4, .int z), (3, .int (iI (t : Int))), (0, .ref b), (1, .ref x), (2, .ref y)]) hx hb dL_law_1018 hl (k := 0) rfl ((iI_add _ _).trans (congrArg iI (by omega))) (by decide) rfl (fun ls hl => ?_)
              refine lv_goto (tgt := 989) hx hb dL_law_1021 (by decide) ?_
              exact ih989 (k1 + 1)   _ _ (by omega) (by omega) (by omega) (by omega) H locs ls hP hD hS (lv_sub hl [0, 1, 2, 3, 4, 5, 6, 7, 8, 9, 10, 11, 12, 13, 14, 15] rfl)
        exact LP989 (mm - 0 + 1) 0   _ _ (by omega) (by omega) (by omega) (by omega) H locs ls hP hD hS (lv_sub hl [0, 1, 2, 3, 4, 5, 6, 7, 8, 9, 10, 11, 12, 13, 14, 15] rfl)
  exact LP967 (d - 0 + 1) 0   _ _ (by omega) (by omega) (by omega) (by omega) H locs ls hP hD hS (lv_sub hl [0, 1, 2, 3, 4, 5, 6, 7, 8, 9, 10, 11, 12] rfl)
set_option maxHeartbeats 8000000 in
set_option maxRecDepth 100000 in
theorem seg_end (C : lC pg l s m args c G b L xs) {B : Nat} {σ : zS} {P S : Nat} {rp rs : Nat → Nat} {z : Int32} {t n mm : Nat} {d p q1 q2 : Nat} {H : Heap} {locs : List Loc} {cells slots : Nat} {ls : Array Slot} (hP : va_P G.1 vwCl (xW G x a (dyn σ d).1 ++ uW G y P S rp rs (dyn σ d).1 ++ [(q1, .inl (G.2.1, mm, .inl (af (dF σ d) mm))), (q2, .inl (G.2.1, mm, .inl (af (uF2 σ) mm)))]) H) (hD : va_D (nA s.heap.size) (xW G x a (dyn σ d).1 ++ uW G y P S rp rs (dyn σ d).1 ++ [(q1, .inl (G.2.1, mm, .inl (af (dF σ d) mm))), (q2, .inl (G.2.1, mm, .inl (af (uF2 σ) mm)))])) (hS : va_S (nA s.heap.size) s.heap H locs) (hl : lv_has ls 23 [(16, .int (iI (bth σ (p : Int) (d : Int)))), (15, .int (iI (p : Int))), (14, .ref q2), (13, .ref q1), (12, .int (iI (d : Int))), (8, .int (iI (mm : Int))), (7, .int (iI (n : Int))), (4, .int z), (3, .int (iI (t : Int))), (0, .ref b), (1, .ref x), (2, .ref y)]) (hJ : zJ B σ) (hB : B + 100 ≤ 100000) (hn : σ.1 0 = n) (hm : σ.1 1 = mm) (hc : cells ≤ 600000) (hs : slots ≤ 7300000) (hd : 1 ≤ d ∧ d ≤ 15) (hp : p < σ.1 0) (hId : zI (B + d) (dyn σ d).1) (h01 : (dyn σ d).1.1 0 = σ.1 0 ∧ (dyn σ d).1.1 1 = σ.1 1) (kk : ∀ (H2 : Heap) (locs2 : List Loc) (cells2 slots2 : Nat) (ls2 : Array Slot), cells2 ≤ cells → slots2 ≤ slots → va_P G.1 vwCl (xW G x a (dyn σ d).1 ++ uW G y P S rp rs (dyn σ d).1 ++ []) H2 → va_D (nA s.heap.size) (xW G x a (dyn σ d).1 ++ uW G y P S rp rs (dyn σ d).1 ++ []) → va_S (nA s.heap.size) s.heap H2 locs2 → lv_has ls2 23 [(3, .int (iI (t : Int))), (0, .ref b), (1, .ref x), (2, .ref y)] → W pg l e room_1 s m args below meth c H2 locs2 cells2 slots2 Q (F0 m 1227 ls2 [])) : W pg l e room_1 s m args below meth c H locs cells slots Q (F0 m 1182 ls []) := by
  obtain ⟨hx, hb, hml, hown, hts, hfl, hK, hO, hE, hH, hX, hbl, hL⟩ := C
  have hA : ∀ q : Nat, s.heap.size ≤ q → nA s.heap.size q := fun _ h => h
  have hbA : ¬ nA s.heap.size b := fun h => by have h9 : s.heap.size ≤ b := h; omega
  have hin0 : ∀ w ∈ wsX10, w ∈ wsL_law := inlX1
  have hI := hJ.1
  have hIn := hI.n
  have hIb := hI.b
  refine lv_iconst (v := iI 0) hx hb dL_law_1182 rfl ?_
  refine lv_istore (lv' := [(17, .int (iI 0)), (16, .int (iI (bth σ (p : Int) (d : Int)))), (15, .int (iI (p : Int))), (14, .ref q2), (13, .ref q1), (12, .int (iI (d : Int))), (8, .int (iI (mm : Int))), (7, .int (iI (n : Int))), (4, .int z), (3, .int (iI (t : Int))), (0, .ref b), (1, .ref x), (2, .ref y)]) hx hb dL_law_1183 hl (by decide) rfl (fun ls hl => ?_)
  have LP1185 : ∀ (r1185 : Nat) (k : Nat), k ≤ mm → mm - k < r1185 → ∀ (ls : Array Slot), lv_has ls 23 [(17, .int (iI (k : Int))), (16, .int (iI (bth σ (p : Int) (d : Int)))), (15, .int (iI (p : Int))), (14, .ref q2), (13, .ref q1), (12, .int (iI (d : Int))), (8, .int (iI (mm : Int))), (7, .int (iI (n : Int))), (4, .int z), (3, .int (iI (t : Int))), (0, .ref b), (1, .ref x), (2, .ref y)] → W pg l e room_1 s m args below meth c H locs cells slots Q (F0 m 1185 ls []) := by
    intro r1185
    induction r1185 with
    | zero => intro k hv1185_0 hv1185_1; exfalso; omega
    | succ r1185 ih1185 =>
      intro k hv1185_0 hv1185_1 ls hl
      refine lv_iload hx hb dL_law_1185 (lv_at hl 0 rfl) ?_
      refine lv_iload hx hb dL_law_1187 (lv_at hl 6 rfl) ?_
      refine z_icmp_ge (tgt := 1214) hx hb dL_law_1189 (by decide) (by omega) (by omega) (fun c_1 => ?_) (fun c_1 => ?_)
      ·
        have hbd := bor_dyn hI d (by omega) (p : Int)
        refine lv_aload_n hx hb dL_law_1214 rfl (lv_at hl 11 rfl) ?_
        refine lv_iload hx hb dL_law_1215 (lv_at hl 2 rfl) ?_
        refine zc_i (va_runV (As := [.int (iI (p : Int))]) (rest := []) ⟨hx, hb, hml, hown, hts⟩ (c_X0_borneBy l G x a (B + d) (dyn σ d).1 p hId (by omega)) (cwV 1 hts gL_law_X0_borneBy rfl rfl rfl (by decide +kernel) ⟨Nat.le_of_ble_eq_true rfl, Nat.le_of_ble_eq_true rfl⟩) (preVX hK (va_Pl (va_Pl hP))) rfl rfl hl.1 rfl (lv_room (Nat.le_of_ble_eq_true rfl)) dL_law_1217 ⟨by show cells + 0 ≤ 600130; omega, by show slots + 0 ≤ 7301080; omega⟩) ?_
        have f_2 := bor_bd hId (p : Int)
        refine lv_iload hx hb dL_law_1220 (lv_at hl 1 rfl) ?_
        refine z_icmp_eq (tgt := 1227) hx hb dL_law_1222 (by decide) (by omega) (by omega) (fun c_3 => ?_) (fun c_3 => ?_)
        ·
          exact kk H locs _ _ ls (by omega) (by omega) (by rw [List.append_nil]; exact va_Pl hP) (by rw [List.append_nil]; exact va_Dl hD) hS (lv_sub hl [9, 10, 11, 12] rfl)
        · exfalso; omega
      ·
        refine lv_aload_n hx hb dL_law_1192 rfl (lv_at hl 11 rfl) ?_
        refine lv_iload hx hb dL_law_1193 (lv_at hl 0 rfl) ?_
        refine zc_i (va_runV (As := [.int (iI (k : Int))]) (rest := []) ⟨hx, hb, hml, hown, hts⟩ (c_X0_weightOf l G x a (B + d) (dyn σ d).1 k hId (by omega)) (cwV 1 hts gL_law_X0_weightOf rfl rfl rfl (by decide +kernel) ⟨Nat.le_of_ble_eq_true rfl, Nat.le_of_ble_eq_true rfl⟩) (preVX hK (va_Pl (va_Pl hP))) rfl rfl hl.1 rfl (lv_room (Nat.le_of_ble_eq_true rfl)) dL_law_1195 ⟨by show cells + 0 ≤ 600130; omega, by show slots + 0 ≤ 7301080; omega⟩) ?_
        have f_4 := hId.r4 k
        refine lv_aload hx hb dL_law_1198 (lv_at hl 4 rfl) ?_
        refine lv_iload hx hb dL_law_1200 (lv_at hl 0 rfl) ?_
        refine j_ildE hx hb hK hP 0 rfl (i := k) (v := iI (lat σ k (d : Int))) (by omega) (by omega) (af_get (by omega)) dL_law_1202 ?_
        have f_5 := lat_dyn hI d k (by omega)
        have f_6 := hId.r4 k
        refine z_icmp_eq (tgt := 1208) hx hb dL_law_1203 (by decide) (by omega) (by omega) (fun c_7 => ?_) (fun c_7 => ?_)
        ·
          refine lv_iinc (v := iI ((k + 1 : Nat) : Int)) (lv' := [(17, .int (iI ((k + 1 : Nat) : Int))), (16, .int (iI (bth σ (p : Int) (d : Int)))), (15, .int (iI (p : Int))), (14, .ref q2), (13, .ref q1), (12, .int (iI (d : Int))), (8, .int (iI (mm : Int))), (7, .int (iI (n : Int))), (4, .int z), (3, .int (iI (t : Int))), (0, .ref b), (1, .ref x), (2, .ref y)]) hx hb dL_law_1208 hl (k := 0) rfl ((iI_add _ _).trans (congrArg iI (by omega))) (by decide) rfl (fun ls hl => ?_)
          refine lv_goto (tgt := 1185) hx hb dL_law_1211 (by decide) ?_
          exact ih1185 (k + 1)  (by omega) (by omega) ls (lv_sub hl [0, 1, 2, 3, 4, 5, 6, 7, 8, 9, 10, 11, 12] rfl)
        · exfalso; omega
  exact LP1185 (mm - 0 + 1) 0  (by omega) (by omega) ls (lv_sub hl [0, 1, 2, 3, 4, 5, 6, 7, 8, 9, 10, 11, 12] rfl)
set_option maxHeartbeats 8000000 in
set_option maxRecDepth 100000 in
theorem seg_top (C : lC pg l s m args c G b L xs) {σ : zS} {P S : Nat} {rp rs : Nat → Nat} {t : Nat} {H : Heap} {locs : List Loc} {cells slots : Nat} {ls : Array Slot} (hP : va_P G.1 vwCl (xW G x a σ ++ uW G y P S rp rs σ ++ []) H) (hD : va_D (nA s.heap.size) (xW G x a σ ++ uW G y P S rp rs σ ++ [])) (hS : va_S (nA s.heap.size) s.heap H locs) (hl : lv_has ls 23 [(3, .int (iI (t : Int))), (0, .ref b), (1, .ref x), (2, .ref y)]) (ht : t ≤ 8) (hc : cells ≤ 600000) (hs : slots ≤ 7300000) (kk1 : 8 ≤ t → ∀ ls2 : Array Slot, lv_has ls2 23 [(3, .int (iI (t : Int))), (0, .ref b), (1, .ref x), (2, .ref y)] → W pg l e room_1 s m args below meth c H locs cells slots Q (F0 m 1233 ls2 [])) (kk : t < 8 → ∀ (z : Int32) (ls2 : Array Slot), lv_has ls2 23 [(4, .int z), (3, .int (iI (t : Int))), (0, .ref b), (1, .ref x), (2, .ref y)] → W pg l e room_1 s m args below meth c H locs cells slots Q (F0 m 44 ls2 [])) : W pg l e room_1 s m args below meth c H locs cells slots Q (F0 m 22 ls []) := by
  obtain ⟨hx, hb, hml, hown, hts, hfl, hK, hO, hE, hH, hX, hbl, hL⟩ := C
  have hA : ∀ q : Nat, s.heap.size ≤ q → nA s.heap.size q := fun _ h => h
  have hbA : ¬ nA s.heap.size b := fun h => by have h9 : s.heap.size ≤ b := h; omega
  have hin0 : ∀ w ∈ wsX10, w ∈ wsL_law := inlX1
  refine lv_iload_n hx hb dL_law_22 rfl (lv_at hl 0 rfl) ?_
  refine lv_bipush (v := iI 8) hx hb dL_law_23 (by decide) ?_
  refine z_icmp_ge (tgt := 1233) hx hb dL_law_25 (by decide) (by omega) (by omega) (fun c_1 => ?_) (fun c_1 => ?_)
  ·
    exact kk1 (by omega) ls (lv_sub hl [0, 1, 2, 3] rfl)
  ·
    refine lv_aload_n hx hb dL_law_28 rfl (lv_at hl 1 rfl) ?_
    refine lv_iload_n hx hb dL_law_29 rfl (lv_at hl 0 rfl) ?_
    refine lv_iconst (v := iI 1) hx hb dL_law_30 rfl ?_
    refine z_iadd hx hb dL_law_31 ?_
    refine z_re (v' := iI ((t + 1 : Nat) : Int)) (congrArg iI (by omega)) ?_
    refine vp_callSi (va_runS (As := [.ref b, .int (iI ((t + 1 : Nat) : Int))]) (rest := []) ⟨hx, hb, hml, hown, hts⟩ (c_L_cell l b L xs (t + 1) hL (by omega)) (va_cwS 2 hts gL_law_L_cell rfl rfl rfl (by decide +kernel) ⟨Nat.le_of_ble_eq_true rfl, Nat.le_of_ble_eq_true rfl⟩) (preX (hX.kept (hS.2.1 b hbl hbA))) rfl rfl hl.1 rfl (lv_room (Nat.le_of_ble_eq_true rfl)) dL_law_32 ⟨by show cells + 0 ≤ 600130; omega, by show slots + 0 ≤ 7301080; omega⟩).run (fun xc1 _ => ?_)
    refine lv_iconst (v := iI 2) hx hb dL_law_35 rfl ?_
    refine lv_ishr hx hb dL_law_36 ?_
    refine lv_bipush (v := iI 53) hx hb dL_law_37 (by decide) ?_
    refine lv_iload_n hx hb dL_law_39 rfl (lv_at hl 0 rfl) ?_
    refine z_imul hx hb dL_law_40 ?_
    refine lv_iadd hx hb dL_law_41 ?_
    refine lv_istore (lv' := [(4, .int ((xc1 >>> ((iI 2) &&& 31)) + (iI (53 * (t : Int))))), (3, .int (iI (t : Int))), (0, .ref b), (1, .ref x), (2, .ref y)]) hx hb dL_law_42 hl (by decide) rfl (fun ls hl => ?_)
    exact kk (by omega) _ ls (lv_sub hl [0, 1, 2, 3, 4] rfl)
end SG
