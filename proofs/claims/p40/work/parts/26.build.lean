/-! A LEDGER THAT CELLS CHOOSE. -/
def zH (s : State) : Prop := va_Nw (.methodLinkNest RL 74 yX1_init RL) s
abbrev wB (G : zG) (x : Nat) (a : Nat → Nat) (b L : Nat) (xs : Nat → Int32) (sz : Nat) : State → Prop := fun U => U.heap.size = sz ∧ va_P G.1 vwCl (xW G x a σ0) U.heap ∧ zK G U ∧ va_D (fun _ => True) (xW G x a σ0) ∧ zO U ∧ zE (zA x a sz) U U.heap ∧ va_X b L xs U U.heap ∧ (¬ zA x a sz b) ∧ zH U
theorem preWB {A : Nat → Prop} {G : zG} {x : Nat} {a : Nat → Nat} {b L : Nat} {xs : Nat → Int32} {s : State} {H : Heap} {As : List Value} (hK : zK G s) (hP : va_P G.1 vwCl (xW G x a σ0) H) (hD : va_D A (xW G x a σ0)) (hO : zO s) (hE : zE (zA x a H.size) s H) (hX : va_X b L xs s H) (hb : ¬ zA x a H.size b) (hH : zH s) : PreS s H (va_Pc As (wB G x a b L xs H.size)) As :=
  ⟨fun _ U g mk q => ⟨q.1, q.2.1, q.2.2.1, zK.call q.2.2.2.1, q.2.2.2.2.1, zO.call q.2.2.2.2.2.1, zE.call q.2.2.2.2.2.2.1, va_X.moved (u := U) (U := U.calling g mk _) (Vm.Alike.refl U.vm) q.2.2.2.2.2.2.2.1, q.2.2.2.2.2.2.2.2.1, va_Nw.same rfl (u := U) (U := U.calling g mk _) rfl q.2.2.2.2.2.2.2.2.2⟩, fun U hU hW => ⟨rfl, by rw [hU], by rw [hU]; exact hP, va_K.moved hW.alike hK, hD.weaken (fun _ _ _ _ => trivial), hO.moved hW.alike, by rw [hU]; exact hE.moved hW, by show va_X b L xs U U.heap; rw [hU]; exact va_X.moved hW.alike hX, hb, va_Nw.warmM hW hH⟩⟩
set_option maxHeartbeats 8000000 in
set_option maxRecDepth 100000 in
theorem c_L_build (l : Launch) (hfl : l.stackTraces = false) (G : zG) (x : Nat) (a : Nat → Nat) (b L : Nat) (xs : Nat → Int32) (hL : L ≤ 260) (sz : Nat) : Met l yL_build wsL_build ({ frames := 9, cells := 60, slots := 800, locals := 166 } : Room) (va_Pc [.ref x, .ref b] (wB G x a b L xs sz)) (va_Qr (fun (u : zU) => zJ 2000 u.1 ∧ 2 ≤ u.1.1 0) (fun u ya t => va_P G.1 vwCl (jU G x a ya u) t.heap ∧ va_D (zA x a sz) (jU G x a ya u)) (zA x a sz)) 60 800 (zA x a sz) := by
  refine Met.ofW (cc := cL_build) (maxL := 6) (ret := (some (.object "ApologyLedgerLaw$Sim"))) (by decide) rfl ?_
  intro pp ee s m args below meth c s₁ B9 hml hv
  obtain ⟨rfl, hsz, hP, hK, hD0, hO, hE, hX, hbA, hH⟩ := hv
  subst hsz
  have hx := B9.exec
  have hb := B9.bytes
  have hr := B9.returns
  have hts := atoms_spec (ws := wsL_build) B9.pre
  have hown : s.vm.findClass RL = some m.cls := findClass_of_methodNamed B9.named
  have hlocks := B9.notSynchronized
  have hin0 : ∀ w ∈ wsX10, w ∈ wsL_build := by decide +kernel
  have hbl : b < s.heap.size := by obtain ⟨scr, h, -⟩ := hX; exact (Array.getElem?_eq_some_iff.mp h).1
  have w_0 := hts (.constant RL 78 16777215) (by decide +kernel)
  have hD : va_D (zA x a s.heap.size) (xW G x a σ0) := xW_zA hD0
  have hA : ∀ q : Nat, s.heap.size ≤ q → zA x a s.heap.size q := fun q h => Or.inr (Or.inr h)
  have hS : va_S (zA x a s.heap.size) s.heap s.heap [] := va_S.rf
  have hl := lv_entry ([.ref x, .ref b]) (n := 6) (Nat.le_of_ble_eq_true rfl)
  rw [lg_entry_eq]
  generalize (lg_sl ([.ref x, .ref b]) ++ List.replicate (6 - (lg_sl ([.ref x, .ref b])).length) Slot.unset).toArray = ls at hl ⊢
  have hl : lv_has ls 6 [(0, .ref x), (1, .ref b)] := hl
  refine va_new (ci := 1) (fs := [.null, .null, .int 0, .int 0]) (C := RX1) (T := TX1) (N := 4) hx hb hts hin0 tyX1 tyX1_ok hown (hts (.classLink RL 10 RX1) (by decide +kernel)) (hts (.instantiable RX1 4) (by decide +kernel)) (hts (.initialized RX1) (by decide +kernel)) hK hP hD hS hA rfl (fun j hj => by rcases (show j = 0 ∨ j = 1 ∨ j = 2 ∨ j = 3 by omega) with rfl | rfl | rfl | rfl <;> rfl) (Nat.le_of_ble_eq_true rfl) (Nat.le_of_ble_eq_true rfl) dL_build_0 (fun y H hP hD hS => ?_)
  have hPm : va_P G.1 vwCl [(y, .inr (1, [.null, .null, .int 0, .int 0]))] H := va_Pr hP
  have hDm : va_D (zA x a s.heap.size) [(y, .inr (1, [.null, .null, .int 0, .int 0]))] := va_Dr hD
  have hPx : va_P G.1 vwCl (xW G x a σ0) H := va_Pl hP
  have hxm : ∀ (k : Nat) (q : Nat × va_E), (xW G x a σ0)[k]? = some q → q.1 < H.size ∧ q.1 ≠ y := fun k q hq => by
    have hlt := (List.getElem?_eq_some_iff.mp hq).1
    have h9 : (xW G x a σ0).length = 9 := rfl
    refine ⟨(hPx k q hq).lt, fun h => ?_⟩
    have := hD.1 k 9 q (y, .inr (1, [.null, .null, .int 0, .int 0])) (by rw [List.getElem?_append_left hlt]; exact hq) rfl h
    omega
  have hDy : zA x a s.heap.size y := hDm.2 0 _ rfl
  have hF : ∀ q, iA y H.size q → zA x a s.heap.size q := fun q h => h.elim (fun e => by rw [e]; exact hDy) (fun h => hA q (Nat.le_trans hS.1 h))
  refine lv_dup hx hb dL_build_3 rfl ?_
  refine va_callv (va_runIN (As := []) (rest := [.ref y]) ⟨hx, hb, hml, hown, hts⟩ (c_X1_init l G y H.size) ⟨va_cnB (host := RL) 0 hts gL_build_X1_init_n74 rfl rfl rfl hH (hts (.initialized RX1) (by decide +kernel)) (by decide +kernel) ⟨Nat.le_of_ble_eq_true rfl, Nat.le_of_ble_eq_true rfl⟩, rfl, hts (.instanceMethod yX1_init) (by decide +kernel)⟩ ⟨fun _ _ _ _ q => ⟨q.1, q.2.1, q.2.2.1, zK.call q.2.2.2.1, q.2.2.2.2.1, zO.call q.2.2.2.2.2⟩, fun U hU hW => ⟨rfl, by rw [hU], by rw [hU]; exact hPm, va_K.moved hW.alike hK, hDm.weaken (fun _ _ _ _ => trivial), hO.moved hW.alike⟩⟩ rfl rfl hl.1 rfl (lv_room (Nat.le_of_ble_eq_true rfl)) dL_build_4 ⟨Nat.le_of_ble_eq_true rfl, Nat.le_of_ble_eq_true rfl⟩) hS (fun q _ h => hF q h) hF (fun u t H1 locs ht _ _ hB _ hk hS1 => ?_)
  obtain ⟨P, S⟩ := u
  obtain ⟨hP1, hD1⟩ := hB
  rw [ht] at hP1
  have hPx1 : va_P G.1 vwCl (xW G x a σ0) H1 := hPx.kept fun k q hq => hk q.1 (hxm k q hq).1 (fun h => by
    rcases h with h | h
    · exact (hxm k q hq).2 h
    · have := (hxm k q hq).1; omega)
  have hP := va_P.app hPx1 hP1
  have hD := va_D.app (va_Dl hD) (hD1.weaken (fun k q _ h => hF q.1 h)) (fun i j p q hp hq hpq => by
    have h1 := hxm i p hp
    rcases hD1.2 j q hq with h | h
    · exact h1.2 (hpq.trans h)
    · omega)
  have hS := hS1
  have hP : va_P G.1 vwCl (xW G x a σ0 ++ uW G y P S (fun _ => 0) (fun _ => 0) σ0 ++ []) H1 := by rw [List.append_nil]; exact hP
  have hD : va_D (zA x a s.heap.size) (xW G x a σ0 ++ uW G y P S (fun _ => 0) (fun _ => 0) σ0 ++ []) := by rw [List.append_nil]; exact hD
  generalize H1 = H at hP hS ⊢
  have hJ := σ0_zJ
  refine lv_astore_n (lv' := [(2, .ref y), (0, .ref x), (1, .ref b)]) hx hb dL_build_7 rfl hl (by decide) rfl (fun ls hl => ?_)
  refine lv_iconst (v := iI 2) hx hb dL_build_8 rfl ?_
  refine lv_aload_n hx hb dL_build_9 rfl (lv_at hl 2 rfl) ?_
  refine lv_iconst (v := iI 0) hx hb dL_build_10 rfl ?_
  refine z_re (v' := iI ((0 : Nat) : Int)) (congrArg iI (by omega)) ?_
  refine vp_callSi (va_runS (As := [.ref b, .int (iI ((0 : Nat) : Int))]) (rest := [.int (iI 2)]) ⟨hx, hb, hml, hown, hts⟩ (c_L_cell l b L xs 0 hL (by omega)) (va_cwS 2 hts gL_build_L_cell rfl rfl rfl (by decide +kernel) ⟨Nat.le_of_ble_eq_true rfl, Nat.le_of_ble_eq_true rfl⟩) (preX (hX.kept (hS.2.1 b hbl hbA))) rfl rfl hl.1 rfl (lv_room (Nat.le_of_ble_eq_true rfl)) dL_build_11 ⟨Nat.le_of_ble_eq_true rfl, Nat.le_of_ble_eq_true rfl⟩).run (fun xc0 _ => ?_)
  refine lv_iconst (v := iI 5) hx hb dL_build_14 rfl ?_
  refine zc_i (va_runS (As := [.int xc0, .int (iI 5)]) (rest := [.int (iI 2)]) ⟨hx, hb, hml, hown, hts⟩ (c_L_below l xc0 5 (by omega)) (va_cwS 2 hts gL_build_L_below rfl rfl rfl (by decide +kernel) ⟨Nat.le_of_ble_eq_true rfl, Nat.le_of_ble_eq_true rfl⟩) preS0 rfl rfl hl.1 rfl (lv_room (Nat.le_of_ble_eq_true rfl)) dL_build_15 ⟨Nat.le_of_ble_eq_true rfl, Nat.le_of_ble_eq_true rfl⟩) ?_
  have f_2 := bel_bd xc0 5 (by omega)
  refine z_iadd hx hb dL_build_18 ?_
  obtain ⟨n1, e_3⟩ : ∃ n1 : Nat, 2 + (bel xc0 5) = (n1 : Int) := ⟨(2 + (bel xc0 5)).toNat, by omega⟩
  refine z_re (v' := iI (n1 : Int)) (congrArg iI e_3) ?_
  refine lv_istore_n (lv' := [(3, .int (iI (n1 : Int))), (2, .ref y), (0, .ref x), (1, .ref b)]) hx hb dL_build_19 rfl hl (by decide) rfl (fun ls hl => ?_)
  refine lv_iconst (v := iI 2) hx hb dL_build_20 rfl ?_
  refine lv_aload_n hx hb dL_build_21 rfl (lv_at hl 3 rfl) ?_
  refine lv_iconst (v := iI 1) hx hb dL_build_22 rfl ?_
  refine z_re (v' := iI ((1 : Nat) : Int)) (congrArg iI (by omega)) ?_
  refine vp_callSi (va_runS (As := [.ref b, .int (iI ((1 : Nat) : Int))]) (rest := [.int (iI 2)]) ⟨hx, hb, hml, hown, hts⟩ (c_L_cell l b L xs 1 hL (by omega)) (va_cwS 2 hts gL_build_L_cell rfl rfl rfl (by decide +kernel) ⟨Nat.le_of_ble_eq_true rfl, Nat.le_of_ble_eq_true rfl⟩) (preX (hX.kept (hS.2.1 b hbl hbA))) rfl rfl hl.1 rfl (lv_room (Nat.le_of_ble_eq_true rfl)) dL_build_23 ⟨Nat.le_of_ble_eq_true rfl, Nat.le_of_ble_eq_true rfl⟩).run (fun xc3 _ => ?_)
  refine lv_bipush (v := iI 12) hx hb dL_build_26 (by decide) ?_
  refine zc_i (va_runS (As := [.int xc3, .int (iI 12)]) (rest := [.int (iI 2)]) ⟨hx, hb, hml, hown, hts⟩ (c_L_below l xc3 12 (by omega)) (va_cwS 2 hts gL_build_L_below rfl rfl rfl (by decide +kernel) ⟨Nat.le_of_ble_eq_true rfl, Nat.le_of_ble_eq_true rfl⟩) preS0 rfl rfl hl.1 rfl (lv_room (Nat.le_of_ble_eq_true rfl)) dL_build_28 ⟨Nat.le_of_ble_eq_true rfl, Nat.le_of_ble_eq_true rfl⟩) ?_
  have f_5 := bel_bd xc3 12 (by omega)
  refine z_iadd hx hb dL_build_31 ?_
  obtain ⟨n2, e_6⟩ : ∃ n2 : Nat, 2 + (bel xc3 12) = (n2 : Int) := ⟨(2 + (bel xc3 12)).toNat, by omega⟩
  refine z_re (v' := iI (n2 : Int)) (congrArg iI e_6) ?_
  refine lv_istore (lv' := [(4, .int (iI (n2 : Int))), (3, .int (iI (n1 : Int))), (2, .ref y), (0, .ref x), (1, .ref b)]) hx hb dL_build_32 hl (by decide) rfl (fun ls hl => ?_)
  refine lv_iconst (v := iI 0) hx hb dL_build_34 rfl ?_
  refine lv_istore (lv' := [(5, .int (iI 0)), (4, .int (iI (n2 : Int))), (3, .int (iI (n1 : Int))), (2, .ref y), (0, .ref x), (1, .ref b)]) hx hb dL_build_35 hl (by decide) rfl (fun ls hl => ?_)
  have LP37 : ∀ (r37 : Nat) (j : Nat) (σ : zS) (P S : Nat) (rp rs : Nat → Nat) (cells slots : Nat), j ≤ n1 → n1 - j < r37 → zJ (60 * j) σ → cells ≤ 3 + 2 * j → slots ≤ 4 + 27 * j → min 2 j ≤ σ.1 0 → ∀ (H : Heap) (locs : List Loc) (ls : Array Slot), va_P G.1 vwCl (xW G x a σ ++ uW G y P S rp rs σ ++ []) H → va_D (zA x a s.heap.size) (xW G x a σ ++ uW G y P S rp rs σ ++ []) → va_S (zA x a s.heap.size) s.heap H locs → lv_has ls 6 [(5, .int (iI (j : Int))), (4, .int (iI (n2 : Int))), (3, .int (iI (n1 : Int))), (2, .ref y), (0, .ref x), (1, .ref b)] → W pp l ee (headSpec wsL_build ({ frames := 9, cells := 60, slots := 800, locals := 166 } : Room)).room s m ([.ref x, .ref b] : List Value).toArray below meth c H locs cells slots (MQ below (va_Qr (fun (u : zU) => zJ 2000 u.1 ∧ 2 ≤ u.1.1 0) (fun u ya t => va_P G.1 vwCl (jU G x a ya u) t.heap ∧ va_D (zA x a s.heap.size) (jU G x a ya u)) (zA x a s.heap.size)) ([.ref x, .ref b] : List Value).toArray s 60 800 (zA x a s.heap.size)) (F0 m 37 ls []) := by
    intro r37
    induction r37 with
    | zero => intro j σ P S rp rs cells slots hv37_0 hv37_1; exfalso; omega
    | succ r37 ih37 =>
      intro j σ P S rp rs cells slots hv37_0 hv37_1 hJ hc37 hs37 hw37_0 H locs ls hP hD hS hl
      have hI := hJ.1
      have hIn := hI.n
      have hIb := hI.b
      refine lv_iload hx hb dL_build_37 (lv_at hl 0 rfl) ?_
      refine lv_iload_n hx hb dL_build_39 rfl (lv_at hl 2 rfl) ?_
      refine z_icmp_ge (tgt := 75) hx hb dL_build_40 (by decide) (by omega) (by omega) (fun c_7 => ?_) (fun c_7 => ?_)
      ·
        refine lv_iconst (v := iI 0) hx hb dL_build_75 rfl ?_
        refine lv_istore (lv' := [(5, .int (iI 0)), (4, .int (iI (n2 : Int))), (3, .int (iI (n1 : Int))), (2, .ref y), (0, .ref x), (1, .ref b)]) hx hb dL_build_76 hl (by decide) rfl (fun ls hl => ?_)
        have LP78 : ∀ (r78 : Nat) (j2 : Nat) (σ : zS) (P S : Nat) (rp rs : Nat → Nat) (cells slots : Nat), j2 ≤ n2 → n2 - j2 < r78 → zJ (360 + 60 * j2) σ → cells ≤ 15 + 2 * j2 → slots ≤ 166 + 27 * j2 → 2 ≤ σ.1 0 → ∀ (H : Heap) (locs : List Loc) (ls : Array Slot), va_P G.1 vwCl (xW G x a σ ++ uW G y P S rp rs σ ++ []) H → va_D (zA x a s.heap.size) (xW G x a σ ++ uW G y P S rp rs σ ++ []) → va_S (zA x a s.heap.size) s.heap H locs → lv_has ls 6 [(5, .int (iI (j2 : Int))), (4, .int (iI (n2 : Int))), (3, .int (iI (n1 : Int))), (2, .ref y), (0, .ref x), (1, .ref b)] → W pp l ee (headSpec wsL_build ({ frames := 9, cells := 60, slots := 800, locals := 166 } : Room)).room s m ([.ref x, .ref b] : List Value).toArray below meth c H locs cells slots (MQ below (va_Qr (fun (u : zU) => zJ 2000 u.1 ∧ 2 ≤ u.1.1 0) (fun u ya t => va_P G.1 vwCl (jU G x a ya u) t.heap ∧ va_D (zA x a s.heap.size) (jU G x a ya u)) (zA x a s.heap.size)) ([.ref x, .ref b] : List Value).toArray s 60 800 (zA x a s.heap.size)) (F0 m 78 ls []) := by
          intro r78
          induction r78 with
          | zero => intro j2 σ P S rp rs cells slots hv78_0 hv78_1; exfalso; omega
          | succ r78 ih78 =>
            intro j2 σ P S rp rs cells slots hv78_0 hv78_1 hJ hc78 hs78 hw78_0 H locs ls hP hD hS hl
            have hI := hJ.1
            have hIn := hI.n
            have hIb := hI.b
            refine lv_iload hx hb dL_build_78 (lv_at hl 0 rfl) ?_
            refine lv_iload hx hb dL_build_80 (lv_at hl 1 rfl) ?_
            refine z_icmp_ge (tgt := 128) hx hb dL_build_82 (by decide) (by omega) (by omega) (fun c_8 => ?_) (fun c_8 => ?_)
            ·
              refine lv_iconst (v := iI 0) hx hb dL_build_128 rfl ?_
              refine lv_istore (lv' := [(5, .int (iI 0)), (4, .int (iI (n2 : Int))), (3, .int (iI (n1 : Int))), (2, .ref y), (0, .ref x), (1, .ref b)]) hx hb dL_build_129 hl (by decide) rfl (fun ls hl => ?_)
              have LP131 : ∀ (r131 : Nat) (j3 : Nat) (σ : zS) (P S : Nat) (rp rs : Nat → Nat) (cells slots : Nat), j3 ≤ 8 → 8 - j3 < r131 → zJ (1140 + 60 * j3) σ → cells ≤ 41 + 2 * j3 → slots ≤ 517 + 27 * j3 → 2 ≤ σ.1 0 → ∀ (H : Heap) (locs : List Loc) (ls : Array Slot), va_P G.1 vwCl (xW G x a σ ++ uW G y P S rp rs σ ++ []) H → va_D (zA x a s.heap.size) (xW G x a σ ++ uW G y P S rp rs σ ++ []) → va_S (zA x a s.heap.size) s.heap H locs → lv_has ls 6 [(5, .int (iI (j3 : Int))), (4, .int (iI (n2 : Int))), (3, .int (iI (n1 : Int))), (2, .ref y), (0, .ref x), (1, .ref b)] → W pp l ee (headSpec wsL_build ({ frames := 9, cells := 60, slots := 800, locals := 166 } : Room)).room s m ([.ref x, .ref b] : List Value).toArray below meth c H locs cells slots (MQ below (va_Qr (fun (u : zU) => zJ 2000 u.1 ∧ 2 ≤ u.1.1 0) (fun u ya t => va_P G.1 vwCl (jU G x a ya u) t.heap ∧ va_D (zA x a s.heap.size) (jU G x a ya u)) (zA x a s.heap.size)) ([.ref x, .ref b] : List Value).toArray s 60 800 (zA x a s.heap.size)) (F0 m 131 ls []) := by
                intro r131
                induction r131 with
                | zero => intro j3 σ P S rp rs cells slots hv131_0 hv131_1; exfalso; omega
                | succ r131 ih131 =>
                  intro j3 σ P S rp rs cells slots hv131_0 hv131_1 hJ hc131 hs131 hw131_0 H locs ls hP hD hS hl
                  have hI := hJ.1
                  have hIn := hI.n
                  have hIb := hI.b
                  refine lv_iload hx hb dL_build_131 (lv_at hl 0 rfl) ?_
                  refine lv_bipush (v := iI 8) hx hb dL_build_133 (by decide) ?_
                  refine z_icmp_ge (tgt := 168) hx hb dL_build_135 (by decide) (by omega) (by omega) (fun c_9 => ?_) (fun c_9 => ?_)
                  ·
                    refine lv_aload_n hx hb dL_build_168 rfl (lv_at hl 3 rfl) ?_
                    refine W.widen (k := 60) (n := 800) (by omega) (by omega) ?_
                    exact W.aret hx hb hr (Or.inl ⟨_, rfl⟩) (Or.inr ⟨_, rfl⟩) (fun t ht hW => ⟨⟨(σ, P, S, rp, rs), y, rfl, ⟨mono_zJ hJ (by omega) (by omega), by (try dsimp only); omega⟩, by show va_P _ _ _ t.heap; rw [ht]; exact va_Pl hP, va_Dl hD⟩, hS.F ht⟩) hS.2.2 dL_build_169
                  ·
                    refine lv_aload_n hx hb dL_build_138 rfl (lv_at hl 4 rfl) ?_
                    refine lv_aload_n hx hb dL_build_139 rfl (lv_at hl 3 rfl) ?_
                    refine lv_aload_n hx hb dL_build_140 rfl (lv_at hl 5 rfl) ?_
                    refine lv_iload hx hb dL_build_141 (lv_at hl 0 rfl) ?_
                    refine vp_callSi (va_runS (As := [.ref b, .int (iI ((j3 : Nat) : Int))]) (rest := [.ref y, .ref x]) ⟨hx, hb, hml, hown, hts⟩ (c_L_cell l b L xs j3 hL (by omega)) (va_cwS 2 hts gL_build_L_cell rfl rfl rfl (by decide +kernel) ⟨Nat.le_of_ble_eq_true rfl, Nat.le_of_ble_eq_true rfl⟩) (preX (hX.kept (hS.2.1 b hbl hbA))) rfl rfl hl.1 rfl (lv_room (Nat.le_of_ble_eq_true rfl)) dL_build_143 ⟨by show cells + 0 ≤ 60; omega, by show slots + 0 ≤ 800; omega⟩).run (fun xc9 _ => ?_)
                    refine lv_iconst (v := iI 2) hx hb dL_build_146 rfl ?_
                    refine lv_ishr hx hb dL_build_147 ?_
                    refine lv_bipush (v := iI 41) hx hb dL_build_148 (by decide) ?_
                    refine lv_iload hx hb dL_build_150 (lv_at hl 0 rfl) ?_
                    refine z_imul hx hb dL_build_152 ?_
                    refine lv_iadd hx hb dL_build_153 ?_
                    refine va_calli (vx_runSW (As := [.ref x, .ref y, .int ((xc9 >>> ((iI 2) &&& 31)) + (iI (41 * (j3 : Int))))]) (rest := []) ⟨hx, hb, hml, hown, hts⟩ (c_L_act l hfl G x a y P S rp rs _ (1140 + 60 * j3) σ ((xc9 >>> ((iI 2) &&& 31)) + (iI (41 * (j3 : Int)))) hJ (by omega)) (vx_cwSW 3 hts gL_build_L_act rfl rfl rfl (by decide +kernel) ⟨Nat.le_of_ble_eq_true rfl, Nat.le_of_ble_eq_true rfl⟩) (preWJ hK (va_Pl hP) (va_Dl hD) hO ((hE.kept hS.2.1).narrow (fun q h => vA_in (va_Dl hD) hA hS.1 h))) rfl rfl hl.1 rfl (lv_room (Nat.le_of_ble_eq_true rfl)) dL_build_154 ⟨by show cells + 2 ≤ 60; omega, by show slots + 27 ≤ 800; omega⟩) hS (fun q _ h => vA_in (va_Dl hD) hA hS.1 h) (fun q h => vA_in (va_Dl hD) hA hS.1 h) (fun r9 u t H1 locs1 ht _ hr9 hB9 _ _ hS1 => ?_)
                    obtain ⟨hr9, hJ1, hn0, hn2⟩ := hr9
                    subst hr9
                    obtain ⟨hP1, hD1⟩ := hB9
                    rw [ht] at hP1
                    have hD := hD1.weaken (fun k q _ h => vA_in (va_Dl hD) hA hS.1 h)
                    obtain ⟨σ, P, S, rp, rs⟩ := u
                    have hJ : zJ ((1140 + 60 * j3) + 60) σ := hJ1
                    have hn0 : _ ≤ σ.1 0 := hn0
                    have hn2 : min 2 _ ≤ σ.1 0 := hn2
                    have hP : va_P G.1 vwCl (xW G x a σ ++ uW G y P S rp rs σ ++ []) H1 := by rw [List.append_nil]; exact hP1
                    have hD : va_D (zA x a s.heap.size) (xW G x a σ ++ uW G y P S rp rs σ ++ []) := by rw [List.append_nil]; exact hD
                    have hS := hS1
                    refine z_if_ne (tgt := 162) hx hb dL_build_157 (by decide) (by omega) (fun c_11 => ?_) (fun c_11 => ?_)
                    ·
                      refine lv_iinc (v := iI ((j3 + 1 : Nat) : Int)) (lv' := [(5, .int (iI ((j3 + 1 : Nat) : Int))), (4, .int (iI (n2 : Int))), (3, .int (iI (n1 : Int))), (2, .ref y), (0, .ref x), (1, .ref b)]) hx hb dL_build_162 hl (k := 0) rfl ((iI_add _ _).trans (congrArg iI (by omega))) (by decide) rfl (fun ls hl => ?_)
                      refine lv_goto (tgt := 131) hx hb dL_build_165 (by decide) ?_
                      exact ih131 (j3 + 1) σ P S rp rs  _ _ (by omega) (by omega) (mono_zJ hJ (by omega) (by omega)) (by omega) (by omega) (by omega) H1 locs1 ls hP hD hS (lv_sub hl [0, 1, 2, 3, 4, 5] rfl)
                    · exfalso; revert c_11; decide
              exact LP131 (8 - 0 + 1) 0 σ P S rp rs  _ _ (by omega) (by omega) (mono_zJ hJ (by omega) (by omega)) (by omega) (by omega) (by omega) H locs ls hP hD hS (lv_sub hl [0, 1, 2, 3, 4, 5] rfl)
            ·
              refine lv_aload_n hx hb dL_build_85 rfl (lv_at hl 4 rfl) ?_
              refine lv_aload_n hx hb dL_build_86 rfl (lv_at hl 3 rfl) ?_
              refine lv_bipush (v := iI 16) hx hb dL_build_87 (by decide) ?_
              refine lv_aload_n hx hb dL_build_89 rfl (lv_at hl 5 rfl) ?_
              refine lv_iload hx hb dL_build_90 (lv_at hl 0 rfl) ?_
              refine vp_callSi (va_runS (As := [.ref b, .int (iI ((j2 : Nat) : Int))]) (rest := [.int (iI 16), .ref y, .ref x]) ⟨hx, hb, hml, hown, hts⟩ (c_L_cell l b L xs j2 hL (by omega)) (va_cwS 2 hts gL_build_L_cell rfl rfl rfl (by decide +kernel) ⟨Nat.le_of_ble_eq_true rfl, Nat.le_of_ble_eq_true rfl⟩) (preX (hX.kept (hS.2.1 b hbl hbA))) rfl rfl hl.1 rfl (lv_room (Nat.le_of_ble_eq_true rfl)) dL_build_92 ⟨by show cells + 0 ≤ 60; omega, by show slots + 0 ≤ 800; omega⟩).run (fun xc11 _ => ?_)
              refine lv_iconst (v := iI 4) hx hb dL_build_95 rfl ?_
              refine lv_ishr hx hb dL_build_96 ?_
              refine lv_bipush (v := iI 97) hx hb dL_build_97 (by decide) ?_
              refine lv_iload hx hb dL_build_99 (lv_at hl 0 rfl) ?_
              refine z_imul hx hb dL_build_101 ?_
              refine lv_iadd hx hb dL_build_102 ?_
              refine lv_ldc hx hb hown w_0 dL_build_103 ?_
              refine lv_iand hx hb dL_build_105 ?_
              refine lv_imul hx hb dL_build_106 ?_
              refine lv_iconst (v := iI 1) hx hb dL_build_107 rfl ?_
              refine lv_iadd hx hb dL_build_108 ?_
              refine lv_iload hx hb dL_build_109 (lv_at hl 0 rfl) ?_
              refine lv_iconst (v := iI 4) hx hb dL_build_111 rfl ?_
              refine z_irem hx hb dL_build_112 (by omega) (by omega) ?_
              refine lv_iadd hx hb dL_build_113 ?_
              refine va_calli (vx_runSW (As := [.ref x, .ref y, .int ((((iI 16) * (((xc11 >>> ((iI 4) &&& 31)) + (iI (97 * (j2 : Int)))) &&& (16777215 : Int32))) + (iI 1)) + (iI ((j2 : Int) % 4)))]) (rest := []) ⟨hx, hb, hml, hown, hts⟩ (c_L_act l hfl G x a y P S rp rs _ (360 + 60 * j2) σ ((((iI 16) * (((xc11 >>> ((iI 4) &&& 31)) + (iI (97 * (j2 : Int)))) &&& (16777215 : Int32))) + (iI 1)) + (iI ((j2 : Int) % 4))) hJ (by omega)) (vx_cwSW 3 hts gL_build_L_act rfl rfl rfl (by decide +kernel) ⟨Nat.le_of_ble_eq_true rfl, Nat.le_of_ble_eq_true rfl⟩) (preWJ hK (va_Pl hP) (va_Dl hD) hO ((hE.kept hS.2.1).narrow (fun q h => vA_in (va_Dl hD) hA hS.1 h))) rfl rfl hl.1 rfl (lv_room (Nat.le_of_ble_eq_true rfl)) dL_build_114 ⟨by show cells + 2 ≤ 60; omega, by show slots + 27 ≤ 800; omega⟩) hS (fun q _ h => vA_in (va_Dl hD) hA hS.1 h) (fun q h => vA_in (va_Dl hD) hA hS.1 h) (fun r9 u t H1 locs1 ht _ hr9 hB9 _ _ hS1 => ?_)
              obtain ⟨hr9, hJ1, hn0, hn2⟩ := hr9
              subst hr9
              obtain ⟨hP1, hD1⟩ := hB9
              rw [ht] at hP1
              have hD := hD1.weaken (fun k q _ h => vA_in (va_Dl hD) hA hS.1 h)
              obtain ⟨σ, P, S, rp, rs⟩ := u
              have hJ : zJ ((360 + 60 * j2) + 60) σ := hJ1
              have hn0 : _ ≤ σ.1 0 := hn0
              have hn2 : min 2 _ ≤ σ.1 0 := hn2
              have hP : va_P G.1 vwCl (xW G x a σ ++ uW G y P S rp rs σ ++ []) H1 := by rw [List.append_nil]; exact hP1
              have hD : va_D (zA x a s.heap.size) (xW G x a σ ++ uW G y P S rp rs σ ++ []) := by rw [List.append_nil]; exact hD
              have hS := hS1
              refine z_if_ne (tgt := 122) hx hb dL_build_117 (by decide) (by omega) (fun c_13 => ?_) (fun c_13 => ?_)
              ·
                refine lv_iinc (v := iI ((j2 + 1 : Nat) : Int)) (lv' := [(5, .int (iI ((j2 + 1 : Nat) : Int))), (4, .int (iI (n2 : Int))), (3, .int (iI (n1 : Int))), (2, .ref y), (0, .ref x), (1, .ref b)]) hx hb dL_build_122 hl (k := 0) rfl ((iI_add _ _).trans (congrArg iI (by omega))) (by decide) rfl (fun ls hl => ?_)
                refine lv_goto (tgt := 78) hx hb dL_build_125 (by decide) ?_
                exact ih78 (j2 + 1) σ P S rp rs  _ _ (by omega) (by omega) (mono_zJ hJ (by omega) (by omega)) (by omega) (by omega) (by omega) H1 locs1 ls hP hD hS (lv_sub hl [0, 1, 2, 3, 4, 5] rfl)
              · exfalso; revert c_13; decide
        exact LP78 (n2 - 0 + 1) 0 σ P S rp rs  _ _ (by omega) (by omega) (mono_zJ hJ (by omega) (by omega)) (by omega) (by omega) (by omega) H locs ls hP hD hS (lv_sub hl [0, 1, 2, 3, 4, 5] rfl)
      ·
        refine lv_aload_n hx hb dL_build_43 rfl (lv_at hl 4 rfl) ?_
        refine lv_aload_n hx hb dL_build_44 rfl (lv_at hl 3 rfl) ?_
        refine lv_bipush (v := iI 16) hx hb dL_build_45 (by decide) ?_
        refine lv_aload_n hx hb dL_build_47 rfl (lv_at hl 5 rfl) ?_
        refine lv_iconst (v := iI 2) hx hb dL_build_48 rfl ?_
        refine lv_iload hx hb dL_build_49 (lv_at hl 0 rfl) ?_
        refine z_iadd hx hb dL_build_51 ?_
        refine z_re (v' := iI ((2 + j : Nat) : Int)) (congrArg iI (by omega)) ?_
        refine vp_callSi (va_runS (As := [.ref b, .int (iI ((2 + j : Nat) : Int))]) (rest := [.int (iI 16), .ref y, .ref x]) ⟨hx, hb, hml, hown, hts⟩ (c_L_cell l b L xs (2 + j) hL (by omega)) (va_cwS 2 hts gL_build_L_cell rfl rfl rfl (by decide +kernel) ⟨Nat.le_of_ble_eq_true rfl, Nat.le_of_ble_eq_true rfl⟩) (preX (hX.kept (hS.2.1 b hbl hbA))) rfl rfl hl.1 rfl (lv_room (Nat.le_of_ble_eq_true rfl)) dL_build_52 ⟨by show cells + 0 ≤ 60; omega, by show slots + 0 ≤ 800; omega⟩).run (fun xc13 _ => ?_)
        refine lv_iconst (v := iI 5) hx hb dL_build_55 rfl ?_
        refine lv_ishr hx hb dL_build_56 ?_
        refine lv_ldc hx hb hown w_0 dL_build_57 ?_
        refine lv_iand hx hb dL_build_59 ?_
        refine lv_imul hx hb dL_build_60 ?_
        refine va_calli (vx_runSW (As := [.ref x, .ref y, .int ((iI 16) * ((xc13 >>> ((iI 5) &&& 31)) &&& (16777215 : Int32)))]) (rest := []) ⟨hx, hb, hml, hown, hts⟩ (c_L_act l hfl G x a y P S rp rs _ (60 * j) σ ((iI 16) * ((xc13 >>> ((iI 5) &&& 31)) &&& (16777215 : Int32))) hJ (by omega)) (vx_cwSW 3 hts gL_build_L_act rfl rfl rfl (by decide +kernel) ⟨Nat.le_of_ble_eq_true rfl, Nat.le_of_ble_eq_true rfl⟩) (preWJ hK (va_Pl hP) (va_Dl hD) hO ((hE.kept hS.2.1).narrow (fun q h => vA_in (va_Dl hD) hA hS.1 h))) rfl rfl hl.1 rfl (lv_room (Nat.le_of_ble_eq_true rfl)) dL_build_61 ⟨by show cells + 2 ≤ 60; omega, by show slots + 27 ≤ 800; omega⟩) hS (fun q _ h => vA_in (va_Dl hD) hA hS.1 h) (fun q h => vA_in (va_Dl hD) hA hS.1 h) (fun r9 u t H1 locs1 ht _ hr9 hB9 _ _ hS1 => ?_)
        obtain ⟨hr9, hJ1, hn0, hn2⟩ := hr9
        subst hr9
        obtain ⟨hP1, hD1⟩ := hB9
        rw [ht] at hP1
        have hD := hD1.weaken (fun k q _ h => vA_in (va_Dl hD) hA hS.1 h)
        obtain ⟨σ, P, S, rp, rs⟩ := u
        have hJ : zJ ((60 * j) + 60) σ := hJ1
        have hn0 : _ ≤ σ.1 0 := hn0
        have hn2 : min 2 _ ≤ σ.1 0 := hn2
        have hP : va_P G.1 vwCl (xW G x a σ ++ uW G y P S rp rs σ ++ []) H1 := by rw [List.append_nil]; exact hP1
        have hD : va_D (zA x a s.heap.size) (xW G x a σ ++ uW G y P S rp rs σ ++ []) := by rw [List.append_nil]; exact hD
        have hS := hS1
        refine z_if_ne (tgt := 69) hx hb dL_build_64 (by decide) (by omega) (fun c_15 => ?_) (fun c_15 => ?_)
        ·
          refine lv_iinc (v := iI ((j + 1 : Nat) : Int)) (lv' := [(5, .int (iI ((j + 1 : Nat) : Int))), (4, .int (iI (n2 : Int))), (3, .int (iI (n1 : Int))), (2, .ref y), (0, .ref x), (1, .ref b)]) hx hb dL_build_69 hl (k := 0) rfl ((iI_add _ _).trans (congrArg iI (by omega))) (by decide) rfl (fun ls hl => ?_)
          refine lv_goto (tgt := 37) hx hb dL_build_72 (by decide) ?_
          exact ih37 (j + 1) σ P S rp rs  _ _ (by omega) (by omega) (mono_zJ hJ (by omega) (by omega)) (by omega) (by omega) (by omega) H1 locs1 ls hP hD hS (lv_sub hl [0, 1, 2, 3, 4, 5] rfl)
        · exfalso; revert c_15; decide
  exact LP37 (n1 - 0 + 1) 0 σ0 P S (fun _ => 0) (fun _ => 0)  _ _ (by omega) (by omega) (mono_zJ hJ (by omega) (by omega)) (by omega) (by omega) (by omega) H locs ls hP hD hS (lv_sub hl [0, 1, 2, 3, 4, 5] rfl)
