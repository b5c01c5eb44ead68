/-! THE LAW'S CASES, each whole; the switch. -/
section K4
variable {pg : Program} {l : Launch} {e : Env} {s : State} {m : MethodId} {args : Array Value} {below : List Frame} {meth : Method} {c : Code} {H : Heap} {locs : List Loc} {cells slots : Nat} {Q : State → Prop}
variable {ls : Array Slot} {G : zG} {b L : Nat} {xs : Nat → Int32} {xa : Nat} {xr : Nat → Nat} {ma : Nat} {mr : Nat → Nat} {oa : Nat} {σ : zS} {t : Nat} {v : Int64} {ix : Nat}
variable {B : Nat}
theorem K_0 (C : lC pg l s m args c G b L xs) (hP : lP G s xa xr ma mr oa σ t v H locs) (hc : cells + 32 ≤ 698866) (hs : slots + 256 ≤ 6999506) (hl : lv_has ls 9 [(4, .int (iI (ix : Int))), (0, .ref b), (1, .ref xa), (2, .ref ma), (3, .ref oa)]) (hix : ix + 3 < L) (hI : zI B σ) (hB : B + 60 ≤ 100000) (kk : ∀ σ9 : zS, zI (B + 60) σ9 → lK pg l e s m args below meth c G b xa xr ma mr oa ix cells slots Q σ9) : W pg l e room_1 s m args below meth c H locs cells slots Q (F0 m 200 ls []) := by
  have hM : zI (B + 60) σ := mono_zI hI (by omega) hB
  obtain ⟨z1, hz1, e1⟩ := iI_of (xs (ix + 1))
  have hIn := hI.n
  by_cases h0 : 0 ≤ z1 ∧ z1 ≤ 9
  rotate_left
  · exact k1_addPerson C hP hc hs hl hix B z1 e1 hI (by omega) (by omega) (kk _ hM)
  by_cases h1 : σ.1 0 < 6
  rotate_left
  · exact k2_addPerson C hP hc hs hl hix B z1 e1 hI (by omega) (by omega) (kk _ hM)
  exact k_addPerson C hP hc hs hl hix B z1 e1 hI (by omega) (by omega) (kk _ (mono_zI (adp_zI hI (by omega) (by omega)) (by omega) (by omega)))
theorem K_1 (C : lC pg l s m args c G b L xs) (hP : lP G s xa xr ma mr oa σ t v H locs) (hc : cells + 32 ≤ 698866) (hs : slots + 256 ≤ 6999506) (hl : lv_has ls 9 [(4, .int (iI (ix : Int))), (0, .ref b), (1, .ref xa), (2, .ref ma), (3, .ref oa)]) (hix : ix + 3 < L) (hI : zI B σ) (hB : B + 60 ≤ 100000) (kk : ∀ σ9 : zS, zI (B + 60) σ9 → lK pg l e s m args below meth c G b xa xr ma mr oa ix cells slots Q σ9) : W pg l e room_1 s m args below meth c H locs cells slots Q (F0 m 256 ls []) := by
  have hM : zI (B + 60) σ := mono_zI hI (by omega) hB
  obtain ⟨z1, hz1, e1⟩ := iI_of (xs (ix + 1))
  have hIn := hI.n
  by_cases h0 : 0 ≤ z1 ∧ z1 < (σ.1 0 : Int)
  rotate_left
  · exact k1_enter C hP hc hs hl hix B z1 e1 hI (by omega) (by omega) (kk _ hM)
  obtain ⟨p, hn1⟩ : ∃ n : Nat, z1 = (n : Int) := ⟨z1.toNat, by omega⟩
  rw [hn1] at e1 h0
  exact k_enter C hP hc hs hl hix B p e1 hI (by omega) (kk _ (mono_zI (ent_zI hI) (by omega) (by omega)))
theorem K_2 (C : lC pg l s m args c G b L xs) (hP : lP G s xa xr ma mr oa σ t v H locs) (hc : cells + 32 ≤ 698866) (hs : slots + 256 ≤ 6999506) (hl : lv_has ls 9 [(4, .int (iI (ix : Int))), (0, .ref b), (1, .ref xa), (2, .ref ma), (3, .ref oa)]) (hix : ix + 3 < L) (hI : zI B σ) (hB : B + 60 ≤ 100000) (kk : ∀ σ9 : zS, zI (B + 60) σ9 → lK pg l e s m args below meth c G b xa xr ma mr oa ix cells slots Q σ9) : W pg l e room_1 s m args below meth c H locs cells slots Q (F0 m 319 ls []) := by
  have hM : zI (B + 60) σ := mono_zI hI (by omega) hB
  obtain ⟨z1, hz1, e1⟩ := iI_of (xs (ix + 1))
  obtain ⟨z2, hz2, e2⟩ := iI_of (xs (ix + 2))
  obtain ⟨z3, hz3, e3⟩ := iI_of (xs (ix + 3))
  have hIn := hI.n
  by_cases h0 : 0 ≤ z1 ∧ z1 < (σ.1 0 : Int)
  rotate_left
  · exact k1_slight C hP hc hs hl hix B z1 z2 z3 e1 e2 e3 hI (by omega) (by omega) (kk _ hM)
  obtain ⟨i, hn1⟩ : ∃ n : Nat, z1 = (n : Int) := ⟨z1.toNat, by omega⟩
  rw [hn1] at e1 h0
  by_cases h1 : 0 ≤ z2 ∧ z2 < (σ.1 0 : Int)
  rotate_left
  · exact k2_slight C hP hc hs hl hix B i z2 z3 e1 e2 e3 hI (by omega) (by omega) (by omega) (kk _ hM)
  obtain ⟨o, hn2⟩ : ∃ n : Nat, z2 = (n : Int) := ⟨z2.toNat, by omega⟩
  rw [hn2] at e2 h1
  by_cases h2 : ¬ (i = o ∨ z3 < 1 ∨ 20 < z3)
  rotate_left
  · exact k3_slight C hP hc hs hl hix B i o z3 e1 e2 e3 hI (by omega) (by omega) (by omega) (by omega) (kk _ hM)
  by_cases h3 : σ.1 1 < 20
  rotate_left
  · exact k4_slight C hP hc hs hl hix B i o z3 e1 e2 e3 hI (by omega) (by omega) (by omega) (by omega) (by omega) (kk _ hM)
  exact k_slight C hP hc hs hl hix B i o z3 e1 e2 e3 hI (by omega) (by omega) (by omega) (by omega) (by omega) (kk _ (mono_zI (sli_zI hI (by omega) (by omega) (by omega) (by omega) (by omega)) (by omega) (by omega)))
theorem K_3 (C : lC pg l s m args c G b L xs) (hP : lP G s xa xr ma mr oa σ t v H locs) (hc : cells + 32 ≤ 698866) (hs : slots + 256 ≤ 6999506) (hl : lv_has ls 9 [(4, .int (iI (ix : Int))), (0, .ref b), (1, .ref xa), (2, .ref ma), (3, .ref oa)]) (hix : ix + 3 < L) (hI : zI B σ) (hB : B + 60 ≤ 100000) (kk : ∀ σ9 : zS, zI (B + 60) σ9 → lK pg l e s m args below meth c G b xa xr ma mr oa ix cells slots Q σ9) : W pg l e room_1 s m args below meth c H locs cells slots Q (F0 m 399 ls []) := by
  have hM : zI (B + 60) σ := mono_zI hI (by omega) hB
  obtain ⟨z1, hz1, e1⟩ := iI_of (xs (ix + 1))
  have hIn := hI.n
  by_cases h0 : 0 ≤ z1 ∧ z1 < (σ.1 1 : Int)
  rotate_left
  · exact k1_mention C hP hc hs hl hix B z1 e1 hI (by omega) (by omega) (kk _ hM)
  obtain ⟨k, hn1⟩ : ∃ n : Nat, z1 = (n : Int) := ⟨z1.toNat, by omega⟩
  rw [hn1] at e1 h0
  by_cases h1 : σ.2 5 k = 0
  rotate_left
  · exact k2_mention C hP hc hs hl hix B k e1 hI (by omega) (by omega) (kk _ hM)
  exact k_mention C hP hc hs hl hix B k e1 hI (by omega) (by omega) (kk _ (mono_zI (spk0_zI hI (by omega) (by omega)) (by omega) (by omega)))
theorem K_4 (C : lC pg l s m args c G b L xs) (hP : lP G s xa xr ma mr oa σ t v H locs) (hc : cells + 32 ≤ 698866) (hs : slots + 256 ≤ 6999506) (hl : lv_has ls 9 [(4, .int (iI (ix : Int))), (0, .ref b), (1, .ref xa), (2, .ref ma), (3, .ref oa)]) (hix : ix + 3 < L) (hI : zI B σ) (hB : B + 60 ≤ 100000) (kk : ∀ σ9 : zS, zI (B + 60) σ9 → lK pg l e s m args below meth c G b xa xr ma mr oa ix cells slots Q σ9) : W pg l e room_1 s m args below meth c H locs cells slots Q (F0 m 455 ls []) := by
  have hM : zI (B + 60) σ := mono_zI hI (by omega) hB
  obtain ⟨z1, hz1, e1⟩ := iI_of (xs (ix + 1))
  obtain ⟨z2, hz2, e2⟩ := iI_of (xs (ix + 2))
  have hIn := hI.n
  by_cases h0 : 0 ≤ z1 ∧ z1 < (σ.1 1 : Int)
  rotate_left
  · exact k1_apologize C hP hc hs hl hix B z1 z2 e1 e2 hI (by omega) (by omega) (kk _ hM)
  obtain ⟨k, hn1⟩ : ∃ n : Nat, z1 = (n : Int) := ⟨z1.toNat, by omega⟩
  rw [hn1] at e1 h0
  by_cases h1 : 1 ≤ z2 ∧ z2 ≤ 20
  rotate_left
  · exact k2_apologize C hP hc hs hl hix B k z2 e1 e2 hI (by omega) (by omega) (by omega) (kk _ hM)
  by_cases h2 : σ.2 5 k = 0
  rotate_left
  · exact k3_apologize C hP hc hs hl hix B k z2 e1 e2 hI (by omega) (by omega) (by omega) (kk _ hM)
  exact k_apologize C hP hc hs hl hix B k z2 e1 e2 hI (by omega) (by omega) (by omega) (kk _ (mono_zI (apo_zI hI (by omega) (by omega) (by omega) (by omega)) (by omega) (by omega)))
theorem K_5 (C : lC pg l s m args c G b L xs) (hP : lP G s xa xr ma mr oa σ t v H locs) (hc : cells + 32 ≤ 698866) (hs : slots + 256 ≤ 6999506) (hl : lv_has ls 9 [(4, .int (iI (ix : Int))), (0, .ref b), (1, .ref xa), (2, .ref ma), (3, .ref oa)]) (hix : ix + 3 < L) (hI : zI B σ) (hB : B + 60 ≤ 100000) (kk : ∀ σ9 : zS, zI (B + 60) σ9 → lK pg l e s m args below meth c G b xa xr ma mr oa ix cells slots Q σ9) : W pg l e room_1 s m args below meth c H locs cells slots Q (F0 m 523 ls []) := by
  have hM : zI (B + 60) σ := mono_zI hI (by omega) hB
  obtain ⟨z1, hz1, e1⟩ := iI_of (xs (ix + 1))
  obtain ⟨z2, hz2, e2⟩ := iI_of (xs (ix + 2))
  have hIn := hI.n
  by_cases h0 : 0 ≤ z1 ∧ z1 < (σ.1 1 : Int)
  rotate_left
  · exact k1_setOff C hP hc hs hl hix B z1 z2 e1 e2 hI (by omega) (by omega) (kk _ hM)
  obtain ⟨i, hn1⟩ : ∃ n : Nat, z1 = (n : Int) := ⟨z1.toNat, by omega⟩
  rw [hn1] at e1 h0
  by_cases h1 : 0 ≤ z2 ∧ z2 < (σ.1 1 : Int)
  rotate_left
  · exact k2_setOff C hP hc hs hl hix B i z2 e1 e2 hI (by omega) (by omega) (by omega) (kk _ hM)
  obtain ⟨o, hn2⟩ : ∃ n : Nat, z2 = (n : Int) := ⟨z2.toNat, by omega⟩
  rw [hn2] at e2 h1
  by_cases h2 : σ.2 5 i = 0
  rotate_left
  · exact k3_setOff C hP hc hs hl hix B i o e1 e2 hI (by omega) (by omega) (by omega) (kk _ hM)
  by_cases h3 : σ.2 5 o = 0
  rotate_left
  · exact k4_setOff C hP hc hs hl hix B i o e1 e2 hI (by omega) (by omega) (by omega) (by omega) (kk _ hM)
  have hbd := agn_bd σ i o
  by_cases h4 : agn σ i o = 1
  rotate_left
  · exact k5_setOff C hP hc hs hl hix B i o e1 e2 hI (by omega) (by omega) (by omega) (by omega) (by omega) (kk _ hM)
  exact k_setOff C hP hc hs hl hix B i o e1 e2 hI (by omega) (by omega) (by omega) (by omega) (by omega) (kk _ (mono_zI (sof_zI hI (by omega) (by omega)) (by omega) (by omega)))
theorem K_6 (C : lC pg l s m args c G b L xs) (hP : lP G s xa xr ma mr oa σ t v H locs) (hc : cells + 32 ≤ 698866) (hs : slots + 256 ≤ 6999506) (hl : lv_has ls 9 [(4, .int (iI (ix : Int))), (0, .ref b), (1, .ref xa), (2, .ref ma), (3, .ref oa)]) (hix : ix + 3 < L) (hI : zI B σ) (hB : B + 60 ≤ 100000) (kk : ∀ σ9 : zS, zI (B + 60) σ9 → lK pg l e s m args below meth c G b xa xr ma mr oa ix cells slots Q σ9) : W pg l e room_1 s m args below meth c H locs cells slots Q (F0 m 591 ls []) := by
  have hM : zI (B + 60) σ := mono_zI hI (by omega) hB
  obtain ⟨z1, hz1, e1⟩ := iI_of (xs (ix + 1))
  obtain ⟨z2, hz2, e2⟩ := iI_of (xs (ix + 2))
  have hIn := hI.n
  by_cases h0 : 0 ≤ z1 ∧ z1 < (σ.1 0 : Int)
  rotate_left
  · exact k1_setPride C hP hc hs hl hix B z1 z2 e1 e2 hI (by omega) (by omega) (kk _ hM)
  obtain ⟨p, hn1⟩ : ∃ n : Nat, z1 = (n : Int) := ⟨z1.toNat, by omega⟩
  rw [hn1] at e1 h0
  by_cases h1 : 0 ≤ z2 ∧ z2 ≤ 9
  rotate_left
  · exact k2_setPride C hP hc hs hl hix B p z2 e1 e2 hI (by omega) (by omega) (by omega) (kk _ hM)
  exact k_setPride C hP hc hs hl hix B p z2 e1 e2 hI (by omega) (by omega) (kk _ (mono_zI (row_zI hI (Or.inl ⟨rfl, by omega, by omega⟩)) (by omega) (by omega)))
theorem K_7 (C : lC pg l s m args c G b L xs) (hP : lP G s xa xr ma mr oa σ t v H locs) (hc : cells + 32 ≤ 698866) (hs : slots + 256 ≤ 6999506) (hl : lv_has ls 9 [(4, .int (iI (ix : Int))), (0, .ref b), (1, .ref xa), (2, .ref ma), (3, .ref oa)]) (hix : ix + 3 < L) (hI : zI B σ) (hB : B + 60 ≤ 100000) (kk : ∀ σ9 : zS, zI (B + 60) σ9 → lK pg l e s m args below meth c G b xa xr ma mr oa ix cells slots Q σ9) : W pg l e room_1 s m args below meth c H locs cells slots Q (F0 m 659 ls []) := by
  have hM : zI (B + 60) σ := mono_zI hI (by omega) hB
  obtain ⟨z1, hz1, e1⟩ := iI_of (xs (ix + 1))
  have hIn := hI.n
  by_cases h0 : 1 ≤ z1 ∧ z1 ≤ 60
  rotate_left
  · exact k1_pass C hP hc hs hl hix B z1 e1 hI (by omega) (by omega) (kk _ hM)
  obtain ⟨d, hn1⟩ : ∃ n : Nat, z1 = (n : Int) := ⟨z1.toNat, by omega⟩
  rw [hn1] at e1 h0
  exact k_pass C hP hc hs hl hix B d e1 hI (by omega) (by omega) (kk _ (mono_zI (dyn_zI hI _ (by omega)) (by omega) (by omega)))
theorem K_8 (C : lC pg l s m args c G b L xs) (hP : lP G s xa xr ma mr oa σ t v H locs) (hc : cells + 32 ≤ 698866) (hs : slots + 256 ≤ 6999506) (hl : lv_has ls 9 [(4, .int (iI (ix : Int))), (0, .ref b), (1, .ref xa), (2, .ref ma), (3, .ref oa)]) (hix : ix + 3 < L) (hI : zI B σ) (hB : B + 60 ≤ 100000) (kk : ∀ σ9 : zS, zI (B + 60) σ9 → lK pg l e s m args below meth c G b xa xr ma mr oa ix cells slots Q σ9) : W pg l e room_1 s m args below meth c H locs cells slots Q (F0 m 715 ls []) := by
  have hM : zI (B + 60) σ := mono_zI hI (by omega) hB
  exact k_day C hP hc hs hl hix B hI (kk _ hM)
theorem K_9 (C : lC pg l s m args c G b L xs) (hP : lP G s xa xr ma mr oa σ t v H locs) (hc : cells + 32 ≤ 698866) (hs : slots + 256 ≤ 6999506) (hl : lv_has ls 9 [(4, .int (iI (ix : Int))), (0, .ref b), (1, .ref xa), (2, .ref ma), (3, .ref oa)]) (hix : ix + 3 < L) (hI : zI B σ) (hB : B + 60 ≤ 100000) (kk : ∀ σ9 : zS, zI (B + 60) σ9 → lK pg l e s m args below meth c G b xa xr ma mr oa ix cells slots Q σ9) : W pg l e room_1 s m args below meth c H locs cells slots Q (F0 m 728 ls []) := by
  have hM : zI (B + 60) σ := mono_zI hI (by omega) hB
  exact k_persons C hP hc hs hl hix B hI (kk _ hM)
theorem K_10 (C : lC pg l s m args c G b L xs) (hP : lP G s xa xr ma mr oa σ t v H locs) (hc : cells + 32 ≤ 698866) (hs : slots + 256 ≤ 6999506) (hl : lv_has ls 9 [(4, .int (iI (ix : Int))), (0, .ref b), (1, .ref xa), (2, .ref ma), (3, .ref oa)]) (hix : ix + 3 < L) (hI : zI B σ) (hB : B + 60 ≤ 100000) (kk : ∀ σ9 : zS, zI (B + 60) σ9 → lK pg l e s m args below meth c G b xa xr ma mr oa ix cells slots Q σ9) : W pg l e room_1 s m args below meth c H locs cells slots Q (F0 m 741 ls []) := by
  have hM : zI (B + 60) σ := mono_zI hI (by omega) hB
  exact k_slights C hP hc hs hl hix B hI (kk _ hM)
theorem K_11 (C : lC pg l s m args c G b L xs) (hP : lP G s xa xr ma mr oa σ t v H locs) (hc : cells + 32 ≤ 698866) (hs : slots + 256 ≤ 6999506) (hl : lv_has ls 9 [(4, .int (iI (ix : Int))), (0, .ref b), (1, .ref xa), (2, .ref ma), (3, .ref oa)]) (hix : ix + 3 < L) (hI : zI B σ) (hB : B + 60 ≤ 100000) (kk : ∀ σ9 : zS, zI (B + 60) σ9 → lK pg l e s m args below meth c G b xa xr ma mr oa ix cells slots Q σ9) : W pg l e room_1 s m args below meth c H locs cells slots Q (F0 m 754 ls []) := by
  have hM : zI (B + 60) σ := mono_zI hI (by omega) hB
  exact k_inHall C hP hc hs hl hix B hI (kk _ hM)
theorem K_12 (C : lC pg l s m args c G b L xs) (hP : lP G s xa xr ma mr oa σ t v H locs) (hc : cells + 32 ≤ 698866) (hs : slots + 256 ≤ 6999506) (hl : lv_has ls 9 [(4, .int (iI (ix : Int))), (0, .ref b), (1, .ref xa), (2, .ref ma), (3, .ref oa)]) (hix : ix + 3 < L) (hI : zI B σ) (hB : B + 60 ≤ 100000) (kk : ∀ σ9 : zS, zI (B + 60) σ9 → lK pg l e s m args below meth c G b xa xr ma mr oa ix cells slots Q σ9) : W pg l e room_1 s m args below meth c H locs cells slots Q (F0 m 767 ls []) := by
  have hM : zI (B + 60) σ := mono_zI hI (by omega) hB
  exact k_scorned C hP hc hs hl hix B hI (kk _ hM)
theorem K_13 (C : lC pg l s m args c G b L xs) (hP : lP G s xa xr ma mr oa σ t v H locs) (hc : cells + 32 ≤ 698866) (hs : slots + 256 ≤ 6999506) (hl : lv_has ls 9 [(4, .int (iI (ix : Int))), (0, .ref b), (1, .ref xa), (2, .ref ma), (3, .ref oa)]) (hix : ix + 3 < L) (hI : zI B σ) (hB : B + 60 ≤ 100000) (kk : ∀ σ9 : zS, zI (B + 60) σ9 → lK pg l e s m args below meth c G b xa xr ma mr oa ix cells slots Q σ9) : W pg l e room_1 s m args below meth c H locs cells slots Q (F0 m 780 ls []) := by
  have hM : zI (B + 60) σ := mono_zI hI (by omega) hB
  obtain ⟨z1, hz1, e1⟩ := iI_of (xs (ix + 1))
  have hIn := hI.n
  by_cases h0 : 0 ≤ z1 ∧ z1 < (σ.1 0 : Int)
  rotate_left
  · exact k1_isInHall C hP hc hs hl hix B z1 e1 hI (by omega) (by omega) (kk _ hM)
  obtain ⟨p, hn1⟩ : ∃ n : Nat, z1 = (n : Int) := ⟨z1.toNat, by omega⟩
  rw [hn1] at e1 h0
  exact k_isInHall C hP hc hs hl hix B p e1 hI (by omega) (kk _ hM)
theorem K_14 (C : lC pg l s m args c G b L xs) (hP : lP G s xa xr ma mr oa σ t v H locs) (hc : cells + 32 ≤ 698866) (hs : slots + 256 ≤ 6999506) (hl : lv_has ls 9 [(4, .int (iI (ix : Int))), (0, .ref b), (1, .ref xa), (2, .ref ma), (3, .ref oa)]) (hix : ix + 3 < L) (hI : zI B σ) (hB : B + 60 ≤ 100000) (kk : ∀ σ9 : zS, zI (B + 60) σ9 → lK pg l e s m args below meth c G b xa xr ma mr oa ix cells slots Q σ9) : W pg l e room_1 s m args below meth c H locs cells slots Q (F0 m 843 ls []) := by
  have hM : zI (B + 60) σ := mono_zI hI (by omega) hB
  obtain ⟨z1, hz1, e1⟩ := iI_of (xs (ix + 1))
  have hIn := hI.n
  by_cases h0 : 0 ≤ z1 ∧ z1 < (σ.1 0 : Int)
  rotate_left
  · exact k1_prideOf C hP hc hs hl hix B z1 e1 hI (by omega) (by omega) (kk _ hM)
  obtain ⟨p, hn1⟩ : ∃ n : Nat, z1 = (n : Int) := ⟨z1.toNat, by omega⟩
  rw [hn1] at e1 h0
  exact k_prideOf C hP hc hs hl hix B p e1 hI (by omega) (kk _ hM)
theorem K_15 (C : lC pg l s m args c G b L xs) (hP : lP G s xa xr ma mr oa σ t v H locs) (hc : cells + 32 ≤ 698866) (hs : slots + 256 ≤ 6999506) (hl : lv_has ls 9 [(4, .int (iI (ix : Int))), (0, .ref b), (1, .ref xa), (2, .ref ma), (3, .ref oa)]) (hix : ix + 3 < L) (hI : zI B σ) (hB : B + 60 ≤ 100000) (kk : ∀ σ9 : zS, zI (B + 60) σ9 → lK pg l e s m args below meth c G b xa xr ma mr oa ix cells slots Q σ9) : W pg l e room_1 s m args below meth c H locs cells slots Q (F0 m 899 ls []) := by
  have hM : zI (B + 60) σ := mono_zI hI (by omega) hB
  obtain ⟨z1, hz1, e1⟩ := iI_of (xs (ix + 1))
  have hIn := hI.n
  by_cases h0 : 0 ≤ z1 ∧ z1 < (σ.1 0 : Int)
  rotate_left
  · exact k1_borneBy C hP hc hs hl hix B z1 e1 hI (by omega) (by omega) (kk _ hM)
  obtain ⟨p, hn1⟩ : ∃ n : Nat, z1 = (n : Int) := ⟨z1.toNat, by omega⟩
  rw [hn1] at e1 h0
  exact k_borneBy C hP hc hs hl hix B p e1 hI (by omega) (kk _ hM)
theorem K_16 (C : lC pg l s m args c G b L xs) (hP : lP G s xa xr ma mr oa σ t v H locs) (hc : cells + 32 ≤ 698866) (hs : slots + 256 ≤ 6999506) (hl : lv_has ls 9 [(4, .int (iI (ix : Int))), (0, .ref b), (1, .ref xa), (2, .ref ma), (3, .ref oa)]) (hix : ix + 3 < L) (hI : zI B σ) (hB : B + 60 ≤ 100000) (kk : ∀ σ9 : zS, zI (B + 60) σ9 → lK pg l e s m args below meth c G b xa xr ma mr oa ix cells slots Q σ9) : W pg l e room_1 s m args below meth c H locs cells slots Q (F0 m 955 ls []) := by
  have hM : zI (B + 60) σ := mono_zI hI (by omega) hB
  obtain ⟨z1, hz1, e1⟩ := iI_of (xs (ix + 1))
  have hIn := hI.n
  by_cases h0 : 0 ≤ z1 ∧ z1 < (σ.1 0 : Int)
  rotate_left
  · exact k1_owedBy C hP hc hs hl hix B z1 e1 hI (by omega) (by omega) (kk _ hM)
  obtain ⟨p, hn1⟩ : ∃ n : Nat, z1 = (n : Int) := ⟨z1.toNat, by omega⟩
  rw [hn1] at e1 h0
  exact k_owedBy C hP hc hs hl hix B p e1 hI (by omega) (kk _ hM)
theorem K_17 (C : lC pg l s m args c G b L xs) (hP : lP G s xa xr ma mr oa σ t v H locs) (hc : cells + 32 ≤ 698866) (hs : slots + 256 ≤ 6999506) (hl : lv_has ls 9 [(4, .int (iI (ix : Int))), (0, .ref b), (1, .ref xa), (2, .ref ma), (3, .ref oa)]) (hix : ix + 3 < L) (hI : zI B σ) (hB : B + 60 ≤ 100000) (kk : ∀ σ9 : zS, zI (B + 60) σ9 → lK pg l e s m args below meth c G b xa xr ma mr oa ix cells slots Q σ9) : W pg l e room_1 s m args below meth c H locs cells slots Q (F0 m 1011 ls []) := by
  have hM : zI (B + 60) σ := mono_zI hI (by omega) hB
  obtain ⟨z1, hz1, e1⟩ := iI_of (xs (ix + 1))
  obtain ⟨z2, hz2, e2⟩ := iI_of (xs (ix + 2))
  have hIn := hI.n
  by_cases h0 : 0 ≤ z1 ∧ z1 < (σ.1 0 : Int)
  rotate_left
  · exact k1_balance C hP hc hs hl hix B z1 z2 e1 e2 hI (by omega) (by omega) (kk _ hM)
  obtain ⟨i, hn1⟩ : ∃ n : Nat, z1 = (n : Int) := ⟨z1.toNat, by omega⟩
  rw [hn1] at e1 h0
  by_cases h1 : 0 ≤ z2 ∧ z2 < (σ.1 0 : Int)
  rotate_left
  · exact k2_balance C hP hc hs hl hix B i z2 e1 e2 hI (by omega) (by omega) (by omega) (kk _ hM)
  obtain ⟨o, hn2⟩ : ∃ n : Nat, z2 = (n : Int) := ⟨z2.toNat, by omega⟩
  rw [hn2] at e2 h1
  exact k_balance C hP hc hs hl hix B i o e1 e2 hI (by omega) (by omega) (kk _ hM)
theorem K_18 (C : lC pg l s m args c G b L xs) (hP : lP G s xa xr ma mr oa σ t v H locs) (hc : cells + 32 ≤ 698866) (hs : slots + 256 ≤ 6999506) (hl : lv_has ls 9 [(4, .int (iI (ix : Int))), (0, .ref b), (1, .ref xa), (2, .ref ma), (3, .ref oa)]) (hix : ix + 3 < L) (hI : zI B σ) (hB : B + 60 ≤ 100000) (kk : ∀ σ9 : zS, zI (B + 60) σ9 → lK pg l e s m args below meth c G b xa xr ma mr oa ix cells slots Q σ9) : W pg l e room_1 s m args below meth c H locs cells slots Q (F0 m 1079 ls []) := by
  have hM : zI (B + 60) σ := mono_zI hI (by omega) hB
  exact k_sorest C hP hc hs hl hix B hI (kk _ hM)
theorem K_19 (C : lC pg l s m args c G b L xs) (hP : lP G s xa xr ma mr oa σ t v H locs) (hc : cells + 32 ≤ 698866) (hs : slots + 256 ≤ 6999506) (hl : lv_has ls 9 [(4, .int (iI (ix : Int))), (0, .ref b), (1, .ref xa), (2, .ref ma), (3, .ref oa)]) (hix : ix + 3 < L) (hI : zI B σ) (hB : B + 60 ≤ 100000) (kk : ∀ σ9 : zS, zI (B + 60) σ9 → lK pg l e s m args below meth c G b xa xr ma mr oa ix cells slots Q σ9) : W pg l e room_1 s m args below meth c H locs cells slots Q (F0 m 1092 ls []) := by
  have hM : zI (B + 60) σ := mono_zI hI (by omega) hB
  obtain ⟨z1, hz1, e1⟩ := iI_of (xs (ix + 1))
  have hIn := hI.n
  by_cases h0 : 0 ≤ z1 ∧ z1 < (σ.1 1 : Int)
  rotate_left
  · exact k1_offenderOf C hP hc hs hl hix B z1 e1 hI (by omega) (by omega) (kk _ hM)
  obtain ⟨k, hn1⟩ : ∃ n : Nat, z1 = (n : Int) := ⟨z1.toNat, by omega⟩
  rw [hn1] at e1 h0
  exact k_offenderOf C hP hc hs hl hix B k e1 hI (by omega) (kk _ hM)
theorem K_20 (C : lC pg l s m args c G b L xs) (hP : lP G s xa xr ma mr oa σ t v H locs) (hc : cells + 32 ≤ 698866) (hs : slots + 256 ≤ 6999506) (hl : lv_has ls 9 [(4, .int (iI (ix : Int))), (0, .ref b), (1, .ref xa), (2, .ref ma), (3, .ref oa)]) (hix : ix + 3 < L) (hI : zI B σ) (hB : B + 60 ≤ 100000) (kk : ∀ σ9 : zS, zI (B + 60) σ9 → lK pg l e s m args below meth c G b xa xr ma mr oa ix cells slots Q σ9) : W pg l e room_1 s m args below meth c H locs cells slots Q (F0 m 1148 ls []) := by
  have hM : zI (B + 60) σ := mono_zI hI (by omega) hB
  obtain ⟨z1, hz1, e1⟩ := iI_of (xs (ix + 1))
  have hIn := hI.n
  by_cases h0 : 0 ≤ z1 ∧ z1 < (σ.1 1 : Int)
  rotate_left
  · exact k1_offendedOf C hP hc hs hl hix B z1 e1 hI (by omega) (by omega) (kk _ hM)
  obtain ⟨k, hn1⟩ : ∃ n : Nat, z1 = (n : Int) := ⟨z1.toNat, by omega⟩
  rw [hn1] at e1 h0
  exact k_offendedOf C hP hc hs hl hix B k e1 hI (by omega) (kk _ hM)
theorem K_21 (C : lC pg l s m args c G b L xs) (hP : lP G s xa xr ma mr oa σ t v H locs) (hc : cells + 32 ≤ 698866) (hs : slots + 256 ≤ 6999506) (hl : lv_has ls 9 [(4, .int (iI (ix : Int))), (0, .ref b), (1, .ref xa), (2, .ref ma), (3, .ref oa)]) (hix : ix + 3 < L) (hI : zI B σ) (hB : B + 60 ≤ 100000) (kk : ∀ σ9 : zS, zI (B + 60) σ9 → lK pg l e s m args below meth c G b xa xr ma mr oa ix cells slots Q σ9) : W pg l e room_1 s m args below meth c H locs cells slots Q (F0 m 1204 ls []) := by
  have hM : zI (B + 60) σ := mono_zI hI (by omega) hB
  obtain ⟨z1, hz1, e1⟩ := iI_of (xs (ix + 1))
  have hIn := hI.n
  by_cases h0 : 0 ≤ z1 ∧ z1 < (σ.1 1 : Int)
  rotate_left
  · exact k1_weightOf C hP hc hs hl hix B z1 e1 hI (by omega) (by omega) (kk _ hM)
  obtain ⟨k, hn1⟩ : ∃ n : Nat, z1 = (n : Int) := ⟨z1.toNat, by omega⟩
  rw [hn1] at e1 h0
  exact k_weightOf C hP hc hs hl hix B k e1 hI (by omega) (kk _ hM)
theorem K_22 (C : lC pg l s m args c G b L xs) (hP : lP G s xa xr ma mr oa σ t v H locs) (hc : cells + 32 ≤ 698866) (hs : slots + 256 ≤ 6999506) (hl : lv_has ls 9 [(4, .int (iI (ix : Int))), (0, .ref b), (1, .ref xa), (2, .ref ma), (3, .ref oa)]) (hix : ix + 3 < L) (hI : zI B σ) (hB : B + 60 ≤ 100000) (kk : ∀ σ9 : zS, zI (B + 60) σ9 → lK pg l e s m args below meth c G b xa xr ma mr oa ix cells slots Q σ9) : W pg l e room_1 s m args below meth c H locs cells slots Q (F0 m 1260 ls []) := by
  have hM : zI (B + 60) σ := mono_zI hI (by omega) hB
  obtain ⟨z1, hz1, e1⟩ := iI_of (xs (ix + 1))
  have hIn := hI.n
  by_cases h0 : 0 ≤ z1 ∧ z1 < (σ.1 1 : Int)
  rotate_left
  · exact k1_stateOf C hP hc hs hl hix B z1 e1 hI (by omega) (by omega) (kk _ hM)
  obtain ⟨k, hn1⟩ : ∃ n : Nat, z1 = (n : Int) := ⟨z1.toNat, by omega⟩
  rw [hn1] at e1 h0
  exact k_stateOf C hP hc hs hl hix B k e1 hI (by omega) (kk _ hM)
theorem K_23 (C : lC pg l s m args c G b L xs) (hP : lP G s xa xr ma mr oa σ t v H locs) (hc : cells + 32 ≤ 698866) (hs : slots + 256 ≤ 6999506) (hl : lv_has ls 9 [(4, .int (iI (ix : Int))), (0, .ref b), (1, .ref xa), (2, .ref ma), (3, .ref oa)]) (hix : ix + 3 < L) (hI : zI B σ) (hB : B + 60 ≤ 100000) (kk : ∀ σ9 : zS, zI (B + 60) σ9 → lK pg l e s m args below meth c G b xa xr ma mr oa ix cells slots Q σ9) : W pg l e room_1 s m args below meth c H locs cells slots Q (F0 m 1316 ls []) := by
  have hM : zI (B + 60) σ := mono_zI hI (by omega) hB
  obtain ⟨z1, hz1, e1⟩ := iI_of (xs (ix + 1))
  have hIn := hI.n
  by_cases h0 : 0 ≤ z1 ∧ z1 < (σ.1 1 : Int)
  rotate_left
  · exact k1_borneFor C hP hc hs hl hix B z1 e1 hI (by omega) (by omega) (kk _ hM)
  obtain ⟨k, hn1⟩ : ∃ n : Nat, z1 = (n : Int) := ⟨z1.toNat, by omega⟩
  rw [hn1] at e1 h0
  exact k_borneFor C hP hc hs hl hix B k e1 hI (by omega) (kk _ hM)
theorem K_24 (C : lC pg l s m args c G b L xs) (hP : lP G s xa xr ma mr oa σ t v H locs) (hc : cells + 32 ≤ 698866) (hs : slots + 256 ≤ 6999506) (hl : lv_has ls 9 [(4, .int (iI (ix : Int))), (0, .ref b), (1, .ref xa), (2, .ref ma), (3, .ref oa)]) (hix : ix + 3 < L) (hI : zI B σ) (hB : B + 60 ≤ 100000) (kk : ∀ σ9 : zS, zI (B + 60) σ9 → lK pg l e s m args below meth c G b xa xr ma mr oa ix cells slots Q σ9) : W pg l e room_1 s m args below meth c H locs cells slots Q (F0 m 1372 ls []) := by
  have hM : zI (B + 60) σ := mono_zI hI (by omega) hB
  obtain ⟨z1, hz1, e1⟩ := iI_of (xs (ix + 1))
  have hIn := hI.n
  by_cases h0 : 0 ≤ z1 ∧ z1 < (σ.1 1 : Int)
  rotate_left
  · exact k1_quietFor C hP hc hs hl hix B z1 e1 hI (by omega) (by omega) (kk _ hM)
  obtain ⟨k, hn1⟩ : ∃ n : Nat, z1 = (n : Int) := ⟨z1.toNat, by omega⟩
  rw [hn1] at e1 h0
  exact k_quietFor C hP hc hs hl hix B k e1 hI (by omega) (kk _ hM)
theorem K_25 (C : lC pg l s m args c G b L xs) (hP : lP G s xa xr ma mr oa σ t v H locs) (hc : cells + 32 ≤ 698866) (hs : slots + 256 ≤ 6999506) (hl : lv_has ls 9 [(4, .int (iI (ix : Int))), (0, .ref b), (1, .ref xa), (2, .ref ma), (3, .ref oa)]) (hix : ix + 3 < L) (hI : zI B σ) (hB : B + 60 ≤ 100000) (kk : ∀ σ9 : zS, zI (B + 60) σ9 → lK pg l e s m args below meth c G b xa xr ma mr oa ix cells slots Q σ9) : W pg l e room_1 s m args below meth c H locs cells slots Q (F0 m 1428 ls []) := by
  have hM : zI (B + 60) σ := mono_zI hI (by omega) hB
  obtain ⟨z1, hz1, e1⟩ := iI_of (xs (ix + 1))
  have hIn := hI.n
  by_cases h0 : 0 ≤ z1 ∧ z1 < (σ.1 1 : Int)
  rotate_left
  · exact k1_witnessesFor C hP hc hs hl hix B z1 e1 hI (by omega) (by omega) (kk _ hM)
  obtain ⟨k, hn1⟩ : ∃ n : Nat, z1 = (n : Int) := ⟨z1.toNat, by omega⟩
  rw [hn1] at e1 h0
  exact k_witnessesFor C hP hc hs hl hix B k e1 hI (by omega) (kk _ hM)
theorem K_26 (C : lC pg l s m args c G b L xs) (hP : lP G s xa xr ma mr oa σ t v H locs) (hc : cells + 32 ≤ 698866) (hs : slots + 256 ≤ 6999506) (hl : lv_has ls 9 [(4, .int (iI (ix : Int))), (0, .ref b), (1, .ref xa), (2, .ref ma), (3, .ref oa)]) (hix : ix + 3 < L) (hI : zI B σ) (hB : B + 60 ≤ 100000) (kk : ∀ σ9 : zS, zI (B + 60) σ9 → lK pg l e s m args below meth c G b xa xr ma mr oa ix cells slots Q σ9) : W pg l e room_1 s m args below meth c H locs cells slots Q (F0 m 1484 ls []) := by
  have hM : zI (B + 60) σ := mono_zI hI (by omega) hB
  obtain ⟨z1, hz1, e1⟩ := iI_of (xs (ix + 1))
  have hIn := hI.n
  by_cases h0 : 0 ≤ z1 ∧ z1 ≤ 3
  rotate_left
  · exact k1_inState C hP hc hs hl hix B z1 e1 hI (by omega) (by omega) (kk _ hM)
  exact k_inState C hP hc hs hl hix B z1 e1 hI (by omega) (kk _ hM)
theorem K_27 (C : lC pg l s m args c G b L xs) (hP : lP G s xa xr ma mr oa σ t v H locs) (hc : cells + 32 ≤ 698866) (hs : slots + 256 ≤ 6999506) (hl : lv_has ls 9 [(4, .int (iI (ix : Int))), (0, .ref b), (1, .ref xa), (2, .ref ma), (3, .ref oa)]) (hix : ix + 3 < L) (hI : zI B σ) (hB : B + 60 ≤ 100000) (kk : ∀ σ9 : zS, zI (B + 60) σ9 → lK pg l e s m args below meth c G b xa xr ma mr oa ix cells slots Q σ9) : W pg l e room_1 s m args below meth c H locs cells slots Q (F0 m 1540 ls []) := by
  have hM : zI (B + 60) σ := mono_zI hI (by omega) hB
  exact k_heaviest C hP hc hs hl hix B hI (kk _ hM)
theorem K_28 (C : lC pg l s m args c G b L xs) (hP : lP G s xa xr ma mr oa σ t v H locs) (hc : cells + 32 ≤ 698866) (hs : slots + 256 ≤ 6999506) (hl : lv_has ls 9 [(4, .int (iI (ix : Int))), (0, .ref b), (1, .ref xa), (2, .ref ma), (3, .ref oa)]) (hix : ix + 3 < L) (hI : zI B σ) (hB : B + 60 ≤ 100000) (kk : ∀ σ9 : zS, zI (B + 60) σ9 → lK pg l e s m args below meth c G b xa xr ma mr oa ix cells slots Q σ9) : W pg l e room_1 s m args below meth c H locs cells slots Q (F0 m 1553 ls []) := by
  have hM : zI (B + 60) σ := mono_zI hI (by omega) hB
  exact k_pairsToSetOff C hP hc hs hl hix B hI (kk _ hM)
theorem K_29 (C : lC pg l s m args c G b L xs) (hP : lP G s xa xr ma mr oa σ t v H locs) (hc : cells + 32 ≤ 698866) (hs : slots + 256 ≤ 6999506) (hl : lv_has ls 9 [(4, .int (iI (ix : Int))), (0, .ref b), (1, .ref xa), (2, .ref ma), (3, .ref oa)]) (hix : ix + 3 < L) (hI : zI B σ) (hB : B + 60 ≤ 100000) (kk : ∀ σ9 : zS, zI (B + 60) σ9 → lK pg l e s m args below meth c G b xa xr ma mr oa ix cells slots Q σ9) : W pg l e room_1 s m args below meth c H locs cells slots Q (F0 m 1566 ls []) := by
  have hM : zI (B + 60) σ := mono_zI hI (by omega) hB
  obtain ⟨z1, hz1, e1⟩ := iI_of (xs (ix + 1))
  have hIn := hI.n
  by_cases h0 : 0 ≤ z1 ∧ z1 < (σ.1 1 : Int)
  rotate_left
  · exact k1_wordsWanted C hP hc hs hl hix B z1 e1 hI (by omega) (by omega) (kk _ hM)
  obtain ⟨k, hn1⟩ : ∃ n : Nat, z1 = (n : Int) := ⟨z1.toNat, by omega⟩
  rw [hn1] at e1 h0
  exact k_wordsWanted C hP hc hs hl hix B k e1 hI (by omega) (kk _ hM)
theorem K_30 (C : lC pg l s m args c G b L xs) (hP : lP G s xa xr ma mr oa σ t v H locs) (hc : cells + 32 ≤ 698866) (hs : slots + 256 ≤ 6999506) (hl : lv_has ls 9 [(4, .int (iI (ix : Int))), (0, .ref b), (1, .ref xa), (2, .ref ma), (3, .ref oa)]) (hix : ix + 3 < L) (hI : zI B σ) (hB : B + 60 ≤ 100000) (kk : ∀ σ9 : zS, zI (B + 60) σ9 → lK pg l e s m args below meth c G b xa xr ma mr oa ix cells slots Q σ9) : W pg l e room_1 s m args below meth c H locs cells slots Q (F0 m 1622 ls []) := by
  have hM : zI (B + 60) σ := mono_zI hI (by omega) hB
  obtain ⟨z1, hz1, e1⟩ := iI_of (xs (ix + 1))
  obtain ⟨z2, hz2, e2⟩ := iI_of (xs (ix + 2))
  have hIn := hI.n
  by_cases h0 : 0 ≤ z1 ∧ z1 < (σ.1 1 : Int)
  rotate_left
  · exact k1_wouldBeScorned C hP hc hs hl hix B z1 z2 e1 e2 hI (by omega) (by omega) (kk _ hM)
  obtain ⟨k, hn1⟩ : ∃ n : Nat, z1 = (n : Int) := ⟨z1.toNat, by omega⟩
  rw [hn1] at e1 h0
  by_cases h1 : 1 ≤ z2 ∧ z2 ≤ 20
  rotate_left
  · exact k2_wouldBeScorned C hP hc hs hl hix B k z2 e1 e2 hI (by omega) (by omega) (by omega) (kk _ hM)
  exact k_wouldBeScorned C hP hc hs hl hix B k z2 e1 e2 hI (by omega) (by omega) (kk _ hM)
theorem K_31 (C : lC pg l s m args c G b L xs) (hP : lP G s xa xr ma mr oa σ t v H locs) (hc : cells + 32 ≤ 698866) (hs : slots + 256 ≤ 6999506) (hl : lv_has ls 9 [(4, .int (iI (ix : Int))), (0, .ref b), (1, .ref xa), (2, .ref ma), (3, .ref oa)]) (hix : ix + 3 < L) (hI : zI B σ) (hB : B + 60 ≤ 100000) (kk : ∀ σ9 : zS, zI (B + 60) σ9 → lK pg l e s m args below meth c G b xa xr ma mr oa ix cells slots Q σ9) : W pg l e room_1 s m args below meth c H locs cells slots Q (F0 m 1697 ls []) := by
  have hM : zI (B + 60) σ := mono_zI hI (by omega) hB
  obtain ⟨z1, hz1, e1⟩ := iI_of (xs (ix + 1))
  obtain ⟨z2, hz2, e2⟩ := iI_of (xs (ix + 2))
  have hIn := hI.n
  by_cases h0 : 0 ≤ z1 ∧ z1 < (σ.1 1 : Int)
  rotate_left
  · exact k1_weightIn C hP hc hs hl hix B z1 z2 e1 e2 hI (by omega) (by omega) (kk _ hM)
  obtain ⟨k, hn1⟩ : ∃ n : Nat, z1 = (n : Int) := ⟨z1.toNat, by omega⟩
  rw [hn1] at e1 h0
  by_cases h1 : 1 ≤ z2 ∧ z2 ≤ 60
  rotate_left
  · exact k2_weightIn C hP hc hs hl hix B k z2 e1 e2 hI (by omega) (by omega) (by omega) (kk _ hM)
  exact k_weightIn C hP hc hs hl hix B k z2 e1 e2 hI (by omega) (by omega) (kk _ hM)
theorem K_32 (C : lC pg l s m args c G b L xs) (hP : lP G s xa xr ma mr oa σ t v H locs) (hc : cells + 32 ≤ 698866) (hs : slots + 256 ≤ 6999506) (hl : lv_has ls 9 [(4, .int (iI (ix : Int))), (0, .ref b), (1, .ref xa), (2, .ref ma), (3, .ref oa)]) (hix : ix + 3 < L) (hI : zI B σ) (hB : B + 60 ≤ 100000) (kk : ∀ σ9 : zS, zI (B + 60) σ9 → lK pg l e s m args below meth c G b xa xr ma mr oa ix cells slots Q σ9) : W pg l e room_1 s m args below meth c H locs cells slots Q (F0 m 1765 ls []) := by
  have hM : zI (B + 60) σ := mono_zI hI (by omega) hB
  obtain ⟨z1, hz1, e1⟩ := iI_of (xs (ix + 1))
  have hIn := hI.n
  by_cases h0 : 0 ≤ z1 ∧ z1 < (σ.1 1 : Int)
  rotate_left
  · exact k1_daysUntilForgotten C hP hc hs hl hix B z1 e1 hI (by omega) (by omega) (kk _ hM)
  obtain ⟨k, hn1⟩ : ∃ n : Nat, z1 = (n : Int) := ⟨z1.toNat, by omega⟩
  rw [hn1] at e1 h0
  exact k_daysUntilForgotten C hP hc hs hl hix B k e1 hI (by omega) (kk _ hM)
theorem K_33 (C : lC pg l s m args c G b L xs) (hP : lP G s xa xr ma mr oa σ t v H locs) (hc : cells + 32 ≤ 698866) (hs : slots + 256 ≤ 6999506) (hl : lv_has ls 9 [(4, .int (iI (ix : Int))), (0, .ref b), (1, .ref xa), (2, .ref ma), (3, .ref oa)]) (hix : ix + 3 < L) (hI : zI B σ) (hB : B + 60 ≤ 100000) (kk : ∀ σ9 : zS, zI (B + 60) σ9 → lK pg l e s m args below meth c G b xa xr ma mr oa ix cells slots Q σ9) : W pg l e room_1 s m args below meth c H locs cells slots Q (F0 m 1821 ls []) := by
  have hM : zI (B + 60) σ := mono_zI hI (by omega) hB
  obtain ⟨z1, hz1, e1⟩ := iI_of (xs (ix + 1))
  obtain ⟨z2, hz2, e2⟩ := iI_of (xs (ix + 2))
  have hIn := hI.n
  by_cases h0 : 0 ≤ z1 ∧ z1 < (σ.1 0 : Int)
  rotate_left
  · exact k1_borneIn C hP hc hs hl hix B z1 z2 e1 e2 hI (by omega) (by omega) (kk _ hM)
  obtain ⟨p, hn1⟩ : ∃ n : Nat, z1 = (n : Int) := ⟨z1.toNat, by omega⟩
  rw [hn1] at e1 h0
  by_cases h1 : 1 ≤ z2 ∧ z2 ≤ 60
  rotate_left
  · exact k2_borneIn C hP hc hs hl hix B p z2 e1 e2 hI (by omega) (by omega) (by omega) (kk _ hM)
  exact k_borneIn C hP hc hs hl hix B p z2 e1 e2 hI (by omega) (by omega) (kk _ hM)
theorem K_34 (C : lC pg l s m args c G b L xs) (hP : lP G s xa xr ma mr oa σ t v H locs) (hc : cells + 32 ≤ 698866) (hs : slots + 256 ≤ 6999506) (hl : lv_has ls 9 [(4, .int (iI (ix : Int))), (0, .ref b), (1, .ref xa), (2, .ref ma), (3, .ref oa)]) (hix : ix + 3 < L) (hI : zI B σ) (hB : B + 60 ≤ 100000) (kk : ∀ σ9 : zS, zI (B + 60) σ9 → lK pg l e s m args below meth c G b xa xr ma mr oa ix cells slots Q σ9) : W pg l e room_1 s m args below meth c H locs cells slots Q (F0 m 1889 ls []) := by
  have hM : zI (B + 60) σ := mono_zI hI (by omega) hB
  obtain ⟨z1, hz1, e1⟩ := iI_of (xs (ix + 1))
  have hIn := hI.n
  by_cases h0 : 0 ≤ z1 ∧ z1 < (σ.1 0 : Int)
  rotate_left
  · exact k1_worstToKeep C hP hc hs hl hix B z1 e1 hI (by omega) (by omega) (kk _ hM)
  obtain ⟨p, hn1⟩ : ∃ n : Nat, z1 = (n : Int) := ⟨z1.toNat, by omega⟩
  rw [hn1] at e1 h0
  exact k_worstToKeep C hP hc hs hl hix B p e1 hI (by omega) (kk _ hM)
theorem K_35 (C : lC pg l s m args c G b L xs) (hP : lP G s xa xr ma mr oa σ t v H locs) (hc : cells + 32 ≤ 698866) (hs : slots + 256 ≤ 6999506) (hl : lv_has ls 9 [(4, .int (iI (ix : Int))), (0, .ref b), (1, .ref xa), (2, .ref ma), (3, .ref oa)]) (hix : ix + 3 < L) (hI : zI B σ) (hB : B + 60 ≤ 100000) (kk : ∀ σ9 : zS, zI (B + 60) σ9 → lK pg l e s m args below meth c G b xa xr ma mr oa ix cells slots Q σ9) : W pg l e room_1 s m args below meth c H locs cells slots Q (F0 m 1945 ls []) := by
  have hM : zI (B + 60) σ := mono_zI hI (by omega) hB
  exact k_meanWeight C hP hc hs hl hix B hI (kk _ hM)
theorem K_36 (C : lC pg l s m args c G b L xs) (hP : lP G s xa xr ma mr oa σ t v H locs) (hc : cells + 32 ≤ 698866) (hs : slots + 256 ≤ 6999506) (hl : lv_has ls 9 [(4, .int (iI (ix : Int))), (0, .ref b), (1, .ref xa), (2, .ref ma), (3, .ref oa)]) (hix : ix + 3 < L) (hI : zI B σ) (hB : B + 60 ≤ 100000) (kk : ∀ σ9 : zS, zI (B + 60) σ9 → lK pg l e s m args below meth c G b xa xr ma mr oa ix cells slots Q σ9) : W pg l e room_1 s m args below meth c H locs cells slots Q (F0 m 1986 ls []) := by
  have hM : zI (B + 60) σ := mono_zI hI (by omega) hB
  exact k_digest C hP hc hs hl hix B hI (kk _ hM)
theorem K_switch (C : lC pg l s m args c G b L xs) (hP : lP G s xa xr ma mr oa σ t v H locs) (hc : cells + 32 ≤ 698866) (hs : slots + 256 ≤ 6999506) (hl : lv_has ls 9 [(4, .int (iI (ix : Int))), (0, .ref b), (1, .ref xa), (2, .ref ma), (3, .ref oa)]) (hix : ix + 3 < L) (hI : zI B σ) (hB : B + 60 ≤ 100000) (kk : ∀ σ9 : zS, zI (B + 60) σ9 → lK pg l e s m args below meth c G b xa xr ma mr oa ix cells slots Q σ9) (w : Int32) : W pg l e room_1 s m args below meth c H locs cells slots Q (F0 m 39 ls [.int w]) := by
  have hx := C.1
  have hb := C.2.1
  by_cases hw : w.toInt < 0 ∨ 36 < w.toInt
  · refine lv_tableOut (tgt := 2000) hx hb dL_law_39 hw (by decide) ?_
    exact kk _ (mono_zI hI (by omega) hB) _ _ _ _ _ _ _ hP (by omega) (by omega) hl
  rcases (show w.toInt = 0 ∨ w.toInt = 1 ∨ w.toInt = 2 ∨ w.toInt = 3 ∨ w.toInt = 4 ∨ w.toInt = 5 ∨ w.toInt = 6 ∨ w.toInt = 7 ∨ w.toInt = 8 ∨ w.toInt = 9 ∨ w.toInt = 10 ∨ w.toInt = 11 ∨ w.toInt = 12 ∨ w.toInt = 13 ∨ w.toInt = 14 ∨ w.toInt = 15 ∨ w.toInt = 16 ∨ w.toInt = 17 ∨ w.toInt = 18 ∨ w.toInt = 19 ∨ w.toInt = 20 ∨ w.toInt = 21 ∨ w.toInt = 22 ∨ w.toInt = 23 ∨ w.toInt = 24 ∨ w.toInt = 25 ∨ w.toInt = 26 ∨ w.toInt = 27 ∨ w.toInt = 28 ∨ w.toInt = 29 ∨ w.toInt = 30 ∨ w.toInt = 31 ∨ w.toInt = 32 ∨ w.toInt = 33 ∨ w.toInt = 34 ∨ w.toInt = 35 ∨ w.toInt = 36 by omega) with hq | hq | hq | hq | hq | hq | hq | hq | hq | hq | hq | hq | hq | hq | hq | hq | hq | hq | hq | hq | hq | hq | hq | hq | hq | hq | hq | hq | hq | hq | hq | hq | hq | hq | hq | hq | hq
  · refine lv_tableIn (off := 161) (tgt := 200) hx hb dL_law_39 (by omega) (by omega) (by rw [hq]; rfl) (by decide) ?_
    exact K_0 C hP hc hs hl hix hI hB kk
  · refine lv_tableIn (off := 217) (tgt := 256) hx hb dL_law_39 (by omega) (by omega) (by rw [hq]; rfl) (by decide) ?_
    exact K_1 C hP hc hs hl hix hI hB kk
  · refine lv_tableIn (off := 280) (tgt := 319) hx hb dL_law_39 (by omega) (by omega) (by rw [hq]; rfl) (by decide) ?_
    exact K_2 C hP hc hs hl hix hI hB kk
  · refine lv_tableIn (off := 360) (tgt := 399) hx hb dL_law_39 (by omega) (by omega) (by rw [hq]; rfl) (by decide) ?_
    exact K_3 C hP hc hs hl hix hI hB kk
  · refine lv_tableIn (off := 416) (tgt := 455) hx hb dL_law_39 (by omega) (by omega) (by rw [hq]; rfl) (by decide) ?_
    exact K_4 C hP hc hs hl hix hI hB kk
  · refine lv_tableIn (off := 484) (tgt := 523) hx hb dL_law_39 (by omega) (by omega) (by rw [hq]; rfl) (by decide) ?_
    exact K_5 C hP hc hs hl hix hI hB kk
  · refine lv_tableIn (off := 552) (tgt := 591) hx hb dL_law_39 (by omega) (by omega) (by rw [hq]; rfl) (by decide) ?_
    exact K_6 C hP hc hs hl hix hI hB kk
  · refine lv_tableIn (off := 620) (tgt := 659) hx hb dL_law_39 (by omega) (by omega) (by rw [hq]; rfl) (by decide) ?_
    exact K_7 C hP hc hs hl hix hI hB kk
  · refine lv_tableIn (off := 676) (tgt := 715) hx hb dL_law_39 (by omega) (by omega) (by rw [hq]; rfl) (by decide) ?_
    exact K_8 C hP hc hs hl hix hI hB kk
  · refine lv_tableIn (off := 689) (tgt := 728) hx hb dL_law_39 (by omega) (by omega) (by rw [hq]; rfl) (by decide) ?_
    exact K_9 C hP hc hs hl hix hI hB kk
  · refine lv_tableIn (off := 702) (tgt := 741) hx hb dL_law_39 (by omega) (by omega) (by rw [hq]; rfl) (by decide) ?_
    exact K_10 C hP hc hs hl hix hI hB kk
  · refine lv_tableIn (off := 715) (tgt := 754) hx hb dL_law_39 (by omega) (by omega) (by rw [hq]; rfl) (by decide) ?_
    exact K_11 C hP hc hs hl hix hI hB kk
  · refine lv_tableIn (off := 728) (tgt := 767) hx hb dL_law_39 (by omega) (by omega) (by rw [hq]; rfl) (by decide) ?_
    exact K_12 C hP hc hs hl hix hI hB kk
  · refine lv_tableIn (off := 741) (tgt := 780) hx hb dL_law_39 (by omega) (by omega) (by rw [hq]; rfl) (by decide) ?_
    exact K_13 C hP hc hs hl hix hI hB kk
  · refine lv_tableIn (off := 804) (tgt := 843) hx hb dL_law_39 (by omega) (by omega) (by rw [hq]; rfl) (by decide) ?_
    exact K_14 C hP hc hs hl hix hI hB kk
  · refine lv_tableIn (off := 860) (tgt := 899) hx hb dL_law_39 (by omega) (by omega) (by rw [hq]; rfl) (by decide) ?_
    exact K_15 C hP hc hs hl hix hI hB kk
  · refine lv_tableIn (off := 916) (tgt := 955) hx hb dL_law_39 (by omega) (by omega) (by rw [hq]; rfl) (by decide) ?_
    exact K_16 C hP hc hs hl hix hI hB kk
  · refine lv_tableIn (off := 972) (tgt := 1011) hx hb dL_law_39 (by omega) (by omega) (by rw [hq]; rfl) (by decide) ?_
    exact K_17 C hP hc hs hl hix hI hB kk
  · refine lv_tableIn (off := 1040) (tgt := 1079) hx hb dL_law_39 (by omega) (by omega) (by rw [hq]; rfl) (by decide) ?_
    exact K_18 C hP hc hs hl hix hI hB kk
  · refine lv_tableIn (off := 1053) (tgt := 1092) hx hb dL_law_39 (by omega) (by omega) (by rw [hq]; rfl) (by decide) ?_
    exact K_19 C hP hc hs hl hix hI hB kk
  · refine lv_tableIn (off := 1109) (tgt := 1148) hx hb dL_law_39 (by omega) (by omega) (by rw [hq]; rfl) (by decide) ?_
    exact K_20 C hP hc hs hl hix hI hB kk
  · refine lv_tableIn (off := 1165) (tgt := 1204) hx hb dL_law_39 (by omega) (by omega) (by rw [hq]; rfl) (by decide) ?_
    exact K_21 C hP hc hs hl hix hI hB kk
  · refine lv_tableIn (off := 1221) (tgt := 1260) hx hb dL_law_39 (by omega) (by omega) (by rw [hq]; rfl) (by decide) ?_
    exact K_22 C hP hc hs hl hix hI hB kk
  · refine lv_tableIn (off := 1277) (tgt := 1316) hx hb dL_law_39 (by omega) (by omega) (by rw [hq]; rfl) (by decide) ?_
    exact K_23 C hP hc hs hl hix hI hB kk
  · refine lv_tableIn (off := 1333) (tgt := 1372) hx hb dL_law_39 (by omega) (by omega) (by rw [hq]; rfl) (by decide) ?_
    exact K_24 C hP hc hs hl hix hI hB kk
  · refine lv_tableIn (off := 1389) (tgt := 1428) hx hb dL_law_39 (by omega) (by omega) (by rw [hq]; rfl) (by decide) ?_
    exact K_25 C hP hc hs hl hix hI hB kk
  · refine lv_tableIn (off := 1445) (tgt := 1484) hx hb dL_law_39 (by omega) (by omega) (by rw [hq]; rfl) (by decide) ?_
    exact K_26 C hP hc hs hl hix hI hB kk
  · refine lv_tableIn (off := 1501) (tgt := 1540) hx hb dL_law_39 (by omega) (by omega) (by rw [hq]; rfl) (by decide) ?_
    exact K_27 C hP hc hs hl hix hI hB kk
  · refine lv_tableIn (off := 1514) (tgt := 1553) hx hb dL_law_39 (by omega) (by omega) (by rw [hq]; rfl) (by decide) ?_
    exact K_28 C hP hc hs hl hix hI hB kk
  · refine lv_tableIn (off := 1527) (tgt := 1566) hx hb dL_law_39 (by omega) (by omega) (by rw [hq]; rfl) (by decide) ?_
    exact K_29 C hP hc hs hl hix hI hB kk
  · refine lv_tableIn (off := 1583) (tgt := 1622) hx hb dL_law_39 (by omega) (by omega) (by rw [hq]; rfl) (by decide) ?_
    exact K_30 C hP hc hs hl hix hI hB kk
  · refine lv_tableIn (off := 1658) (tgt := 1697) hx hb dL_law_39 (by omega) (by omega) (by rw [hq]; rfl) (by decide) ?_
    exact K_31 C hP hc hs hl hix hI hB kk
  · refine lv_tableIn (off := 1726) (tgt := 1765) hx hb dL_law_39 (by omega) (by omega) (by rw [hq]; rfl) (by decide) ?_
    exact K_32 C hP hc hs hl hix hI hB kk
  · refine lv_tableIn (off := 1782) (tgt := 1821) hx hb dL_law_39 (by omega) (by omega) (by rw [hq]; rfl) (by decide) ?_
    exact K_33 C hP hc hs hl hix hI hB kk
  · refine lv_tableIn (off := 1850) (tgt := 1889) hx hb dL_law_39 (by omega) (by omega) (by rw [hq]; rfl) (by decide) ?_
    exact K_34 C hP hc hs hl hix hI hB kk
  · refine lv_tableIn (off := 1906) (tgt := 1945) hx hb dL_law_39 (by omega) (by omega) (by rw [hq]; rfl) (by decide) ?_
    exact K_35 C hP hc hs hl hix hI hB kk
  · refine lv_tableIn (off := 1947) (tgt := 1986) hx hb dL_law_39 (by omega) (by omega) (by rw [hq]; rfl) (by decide) ?_
    exact K_36 C hP hc hs hl hix hI hB kk
end K4
