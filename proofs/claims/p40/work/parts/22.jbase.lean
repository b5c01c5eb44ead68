/-! WORLDS SIDE BY SIDE: the class, the law's own ledger, the law's rows of ints; what the state keeps. -/
/-! the state keeps what it must -/
theorem mono_zI {B B' : Nat} {σ : zS} (h : zI B σ) (h1 : B ≤ B') (h2 : B' ≤ 100000) : zI B' σ :=
  ⟨h.1, ⟨Nat.le_trans h.b.1 h1, Nat.le_trans h.b.2.1 h1, h2⟩, h.2.2.1, h.2.2.2.1, h.2.2.2.2.1, fun k => ⟨h.r4 k, h.r5 k, by have := h.r6 k; omega, h.r7 k, h.c4 k, h.o7 k⟩, h.2.2.2.2.2.2.1, h.2.2.2.2.2.2.2⟩
theorem adp_zI {B : Nat} {σ : zS} {z : Int} (h : zI B σ) (hz : 0 ≤ z ∧ z ≤ 9) (hf : σ.1 0 < 6) : zI B (adp σ z) := by
  have e0 : (adp σ z).1 0 = σ.1 0 + 1 := rfl
  have e1 : (adp σ z).1 1 = σ.1 1 := rfl
  have e2 : (adp σ z).1 2 = σ.1 2 := rfl
  have e3 : (adp σ z).1 3 = σ.1 3 := rfl
  have er : ∀ j k, j ≠ 0 → (adp σ z).2 j k = σ.2 j k := fun j k hj => by simp [adp, stS, stA, hj]
  have e00 : ∀ k, (adp σ z).2 0 k = if k = σ.1 0 then z else σ.2 0 k := fun k => by simp [adp, stS, stA]
  have hn := h.n
  refine ⟨by rw [e0, e1]; omega, by rw [e2, e3]; exact h.b, fun k => ?_, fun k => ?_, fun k hk => ?_, fun k => ?_, fun k hk => ?_, fun k hk => ?_⟩
  · rw [e00]; split
    · exact hz
    · exact h.r0 k
  · rw [er 1 k (by decide)]; exact h.r1 k
  · rw [e1] at hk
    rw [er 2 k (by decide), er 3 k (by decide), e0]
    have g2 := h.r2 hk
    have g3 := h.r3 hk
    exact ⟨by omega, by omega, h.r23 hk⟩
  · rw [er 4 k (by decide), er 5 k (by decide), er 6 k (by decide), er 7 k (by decide)]; exact h.2.2.2.2.2.1 k
  · rw [e1] at hk
    rw [er 5 k (by decide), er 4 k (by decide)]; exact h.o4 hk
  · rw [e1] at hk
    rw [er 5 k (by decide), er 6 k (by decide), er 7 k (by decide)]; exact h.nw hk
theorem row_zI {B : Nat} {σ : zS} {j k : Nat} {v : Int} (h : zI B σ) (hj : (j = 0 ∧ 0 ≤ v ∧ v ≤ 9) ∨ (j = 1 ∧ 0 ≤ v ∧ v ≤ 1)) : zI B (stA σ j k v) := by
  have er : ∀ i, 2 ≤ i → (stA σ j k v).2 i = σ.2 i := fun i hi => stA_ne (by omega)
  have ev : ∀ i q, (stA σ j k v).2 i q = σ.2 i q ∨ (i = j ∧ (stA σ j k v).2 i q = v) := fun i q => by
    by_cases hq : i = j ∧ q = k
    · exact Or.inr ⟨hq.1, by simp [stA, hq]⟩
    · exact Or.inl (by simp [stA, hq])
  refine ⟨h.1, h.2.1, fun q => ?_, fun q => ?_, fun q hq => ?_, fun q => ?_, fun q hq => ?_, fun q hq => ?_⟩
  · rcases ev 0 q with e | ⟨e, e'⟩
    · rw [e]; exact h.r0 q
    · rw [e']; omega
  · rcases ev 1 q with e | ⟨e, e'⟩
    · rw [e]; exact h.r1 q
    · rw [e']; omega
  · rw [er 2 (by decide), er 3 (by decide)]; exact h.2.2.2.2.1 q hq
  · rw [er 4 (by decide), er 5 (by decide), er 6 (by decide), er 7 (by decide)]; exact h.2.2.2.2.2.1 q
  · rw [er 5 (by decide), er 4 (by decide)]; exact h.o4 hq
  · rw [er 5 (by decide), er 6 (by decide), er 7 (by decide)]; exact h.nw hq
theorem ent_zI {B : Nat} {σ : zS} {k : Nat} (h : zI B σ) : zI B (ent σ k) := row_zI h (Or.inr ⟨rfl, by have := h.r1 k; omega, by have := h.r1 k; omega⟩)
theorem sli_zI {B : Nat} {σ : zS} {i o : Nat} {w : Int} (h : zI B σ) (hi : i < σ.1 0) (ho : o < σ.1 0) (hne : i ≠ o) (hw : 1 ≤ w ∧ w ≤ 20) (hf : σ.1 1 < 20) : zI B (sli σ i o w) := by
  have e0 : (sli σ i o w).1 0 = σ.1 0 := rfl
  have e1 : (sli σ i o w).1 1 = σ.1 1 + 1 := rfl
  have e2 : (sli σ i o w).1 2 = σ.1 2 := rfl
  have e3 : (sli σ i o w).1 3 = σ.1 3 := rfl
  have er : ∀ j k, k ≠ σ.1 1 → (sli σ i o w).2 j k = σ.2 j k := fun j k hk => by simp [sli, stS, stA, hk]
  have f2 : (sli σ i o w).2 2 (σ.1 1) = (i : Int) := by simp [sli, stS, stA]
  have f3 : (sli σ i o w).2 3 (σ.1 1) = (o : Int) := by simp [sli, stS, stA]
  have f4 : (sli σ i o w).2 4 (σ.1 1) = w := by simp [sli, stS, stA]
  have fo : ∀ j k, j ≠ 2 → j ≠ 3 → j ≠ 4 → (sli σ i o w).2 j k = σ.2 j k := fun j k a b c => by simp [sli, stS, stA, a, b, c]
  have hn := h.n
  have hw0 := h.nw (Nat.le_refl (σ.1 1))
  refine ⟨by rw [e0, e1]; omega, by rw [e2, e3]; exact h.b, fun k => ?_, fun k => ?_, fun k hk => ?_, fun k => ?_, fun k hk => ?_, fun k hk => ?_⟩
  · rw [fo 0 k (by decide) (by decide) (by decide)]; exact h.r0 k
  · rw [fo 1 k (by decide) (by decide) (by decide)]; exact h.r1 k
  · rw [e1] at hk
    rw [e0]
    by_cases hq : k = σ.1 1
    · subst hq
      rw [f2, f3]; omega
    · rw [er 2 k hq, er 3 k hq]; exact h.2.2.2.2.1 k (by omega)
  · by_cases hq : k = σ.1 1
    · subst hq
      rw [f4, fo 5 _ (by decide) (by decide) (by decide), fo 6 _ (by decide) (by decide) (by decide), fo 7 _ (by decide) (by decide) (by decide), hw0.1, hw0.2.1, hw0.2.2]
      exact ⟨by omega, by omega, by omega, by omega, fun q => absurd rfl q, fun _ => by decide⟩
    · rw [er 4 k hq, er 5 k hq, er 6 k hq, er 7 k hq]; exact h.2.2.2.2.2.1 k
  · rw [e1] at hk
    by_cases hq : k = σ.1 1
    · subst hq
      rw [f4]; intro _; exact hw.1
    · rw [er 5 k hq, er 4 k hq]; exact h.o4 (by omega)
  · rw [e1] at hk
    have hq : k ≠ σ.1 1 := by omega
    rw [er 5 k hq, er 6 k hq, er 7 k hq]; exact h.nw (by omega)
/-- one slight's row changes, and perhaps the count of the scorned -/
theorem one_zI {B B' : Nat} {σ σ' : zS} {k : Nat} (h : zI B σ) (hk : k < σ.1 1) (h0 : σ'.1 0 = σ.1 0) (h1 : σ'.1 1 = σ.1 1) (h2 : σ'.1 2 = σ.1 2) (h3 : σ'.1 3 ≤ B') (hB : B ≤ B' ∧ B' ≤ 100000)
    (hr : ∀ j, j < 4 → ∀ q, σ'.2 j q = σ.2 j q) (ho : ∀ j q, q ≠ k → σ'.2 j q = σ.2 j q) (h4 : 0 ≤ σ'.2 4 k ∧ σ'.2 4 k ≤ 99) (h5 : 0 ≤ σ'.2 5 k ∧ σ'.2 5 k ≤ 3) (h6 : σ'.2 6 k = σ.2 6 k) (h7 : 0 ≤ σ'.2 7 k ∧ σ'.2 7 k ≤ 30)
    (c4 : σ'.2 5 k ≠ 0 → σ'.2 4 k = 0) (o7 : σ'.2 5 k = 0 → σ'.2 7 k < 30) (o4 : σ'.2 5 k = 0 → 1 ≤ σ'.2 4 k) : zI B' σ' := by
  have g := mono_zI h hB.1 hB.2
  refine ⟨by rw [h0, h1]; exact h.n, by rw [h2]; exact ⟨g.b.1, h3, hB.2⟩, fun q => by rw [hr 0 (by decide)]; exact h.r0 q, fun q => by rw [hr 1 (by decide)]; exact h.r1 q, fun q hq => ?_, fun q => ?_, fun q hq => ?_, fun q hq => ?_⟩
  · rw [hr 2 (by decide), hr 3 (by decide), h0]; exact h.2.2.2.2.1 q (by rw [← h1]; exact hq)
  · by_cases e : q = k
    · subst e
      exact ⟨h4, h5, by rw [h6]; exact g.r6 q, h7, c4, o7⟩
    · rw [ho 4 q e, ho 5 q e, ho 6 q e, ho 7 q e]; exact g.2.2.2.2.2.1 q
  · by_cases e : q = k
    · subst e
      exact o4
    · rw [ho 5 q e, ho 4 q e]; exact h.o4 (by rw [← h1]; exact hq)
  · have e : q ≠ k := by omega
    rw [ho 5 q e, ho 6 q e, ho 7 q e]; exact h.nw (by rw [← h1]; exact hq)
theorem spk_zI {B B' : Nat} {σ : zS} {k : Nat} {n : Nat} (h : zI B σ) (hk : k < σ.1 1) (hs : σ.2 5 k = 0) (hn : n ≤ B') (hB : B ≤ B' ∧ B' ≤ 100000) : zI B' (spk (stS σ 3 n) k) := by
  have e4 : (spk (stS σ 3 n) k).2 4 k = min (σ.2 4 k + 1) 99 := by simp [spk, stA, stS]
  have e5 : (spk (stS σ 3 n) k).2 5 k = σ.2 5 k := by simp [spk, stA, stS]
  have e6 : (spk (stS σ 3 n) k).2 6 k = σ.2 6 k := by simp [spk, stA, stS]
  have e7 : (spk (stS σ 3 n) k).2 7 k = 0 := by simp [spk, stA, stS]
  have g := h.r4 k
  refine one_zI h hk rfl rfl rfl hn hB (fun j hj q => ?_) (fun j q hq => ?_) (by rw [e4]; omega) (by rw [e5]; omega) e6 (by rw [e7]; omega) (fun q => by rw [e5] at q; exact absurd hs q) (fun _ => by rw [e7]; decide) (fun _ => by rw [e4]; omega)
  · simp [spk, stA, stS, show j ≠ 4 by omega, show j ≠ 7 by omega]
  · simp [spk, stA, stS, hq]
theorem spk0_zI {B : Nat} {σ : zS} {k : Nat} (h : zI B σ) (hk : k < σ.1 1) (hs : σ.2 5 k = 0) : zI B (spk σ k) := by
  have e4 : (spk σ k).2 4 k = min (σ.2 4 k + 1) 99 := by simp [spk, stA]
  have e5 : (spk σ k).2 5 k = σ.2 5 k := by simp [spk, stA]
  have e6 : (spk σ k).2 6 k = σ.2 6 k := by simp [spk, stA]
  have e7 : (spk σ k).2 7 k = 0 := by simp [spk, stA]
  have g := h.r4 k
  refine one_zI h hk rfl rfl rfl h.b.2.1 ⟨Nat.le_refl B, h.b.2.2⟩ (fun j hj q => ?_) (fun j q hq => ?_) (by rw [e4]; omega) (by rw [e5]; omega) e6 (by rw [e7]; omega) (fun q => by rw [e5] at q; exact absurd hs q) (fun _ => by rw [e7]; decide) (fun _ => by rw [e4]; omega)
  · simp [spk, stA, show j ≠ 4 by omega, show j ≠ 7 by omega]
  · simp [spk, stA, hq]
theorem lit_zI {B : Nat} {σ : zS} {k : Nat} {v q : Int} (h : zI B σ) (hk : k < σ.1 1) (hv : 0 ≤ v) (hq : 1 ≤ q ∧ q ≤ 3) : zI B (lit σ k v q) := by
  have g := h.r4 k
  have g7 := h.r7 k
  unfold lit
  split
  · rename_i hlt
    have e4 : (stA σ 4 k (σ.2 4 k - v)).2 4 k = σ.2 4 k - v := stA_eq
    have eo : ∀ j, j ≠ 4 → (stA σ 4 k (σ.2 4 k - v)).2 j = σ.2 j := fun j hj => stA_ne hj
    refine one_zI h hk rfl rfl rfl h.b.2.1 ⟨Nat.le_refl B, h.b.2.2⟩ (fun j hj z => by rw [eo j (by omega)]) (fun j z hz => by simp [stA, hz]) (by rw [e4]; omega) (by rw [eo 5 (by decide)]; exact h.r5 k) (by rw [eo 6 (by decide)]) (by rw [eo 7 (by decide)]; exact g7) (fun z => ?_) (fun z => ?_) (fun z => by rw [e4]; omega)
    · rw [eo 5 (by decide)] at z
      have := h.c4 k z
      omega
    · rw [eo 5 (by decide)] at z
      rw [eo 7 (by decide)]; exact h.o7 k z
  · have e4 : (clo σ k q).2 4 k = 0 := clo_4
    have e5 : (clo σ k q).2 5 k = q := clo_5
    have eo : ∀ j z, j ≠ 4 → j ≠ 5 → (clo σ k q).2 j z = σ.2 j z := fun j z h4 h5 => clo_o h4 h5
    refine one_zI h hk rfl rfl rfl h.b.2.1 ⟨Nat.le_refl B, h.b.2.2⟩ (fun j hj z => eo j z (by omega) (by omega)) (fun j z hz => clo_ne hz) (by rw [e4]; omega) (by rw [e5]; omega) (eo 6 k (by decide) (by decide)) (by rw [eo 7 k (by decide) (by decide)]; exact g7) (fun _ => e4) (fun z => by rw [e5] at z; omega) (fun z => by rw [e5] at z; omega)
theorem wit_0 (σ : zS) (k : Nat) : 0 ≤ wit σ k := by
  unfold wit
  generalize σ.1 0 = n
  induction n with
  | zero => exact Int.le_refl 0
  | succ n ih =>
    rw [zs_s]
    split <;> omega
theorem apo_zI {B : Nat} {σ : zS} {k : Nat} {w : Int} (h : zI B σ) (hk : k < σ.1 1) (hs : σ.2 5 k = 0) (hw : 1 ≤ w ∧ w ≤ 20) (hB : B + 1 ≤ 100000) : zI (B + 1) (apo σ k w) := by
  have hw0 := wit_0 σ k
  have hb := h.b
  unfold apo
  split
  · exact spk_zI h hk hs (by omega) ⟨by omega, hB⟩
  · exact mono_zI (lit_zI h hk (by omega) ⟨by decide, by decide⟩) (by omega) hB
theorem sof_zI {B : Nat} {σ : zS} {i o : Nat} (h : zI B σ) (hi : i < σ.1 1) (ho : o < σ.1 1) : zI B (sof σ i o) := by
  have g := h.r4 i
  have g' := h.r4 o
  unfold sof
  have e1 : ∀ v q, (lit σ i v q).1 1 = σ.1 1 := fun v q => by unfold lit; split <;> rfl
  exact lit_zI (lit_zI h hi (by omega) ⟨by decide, by decide⟩) (by rw [e1]; exact ho) (by omega) ⟨by decide, by decide⟩
theorem pq_1 {σ : zS} {i o : Nat} (h4 : σ.2 5 i = 0) (h5 : σ.2 5 o = 0) (hq : agn σ i o = 1) : pq σ i o = 1 := by rw [pq_agn, if_pos ⟨h4, h5⟩]; exact hq
theorem pq_03 {σ : zS} {i o : Nat} (h5 : σ.2 5 i ≠ 0) : pq σ i o = 0 := by rw [pq_agn, if_neg (fun h => h5 h.1)]
theorem pq_04 {σ : zS} {i o : Nat} (h5 : σ.2 5 o ≠ 0) : pq σ i o = 0 := by rw [pq_agn, if_neg (fun h => h5 h.2)]
theorem pq_05 {σ : zS} {i o : Nat} (h4 : σ.2 5 i = 0) (h5 : σ.2 5 o = 0) (hq : agn σ i o = 0) : pq σ i o = 0 := by rw [pq_agn, if_pos ⟨h4, h5⟩]; exact hq
theorem rW_get (G : zG) (a : Nat → Nat) (σ : zS) {j : Nat} (hj : j < 8) : ∃ e, (rW G a σ)[j]? = some (a j, e) := by
  rcases (show j = 0 ∨ j = 1 ∨ j = 2 ∨ j = 3 ∨ j = 4 ∨ j = 5 ∨ j = 6 ∨ j = 7 by omega) with h | h | h | h | h | h | h | h <;> subst h <;> exact ⟨_, rfl⟩
theorem xW_out {A : Nat → Prop} {G : zG} {x : Nat} {a : Nat → Nat} {σ : zS} {w2 : va_W} {H : Heap} (hP : va_P G.1 vwCl (xW G x a σ ++ w2) H) (hD : va_D A (xW G x a σ ++ w2)) {k : Nat} {q : Nat × va_E} (hq : w2[k]? = some q) : q.1 < H.size ∧ ¬ zA x a H.size q.1 := by
  have hl := ((va_Pr hP) k q hq).lt
  have e2 : (xW G x a σ ++ w2)[9 + k]? = some q := by rw [List.getElem?_append_right (by show 9 ≤ _; omega)]; show w2[9 + k - 9]? = _; rw [Nat.add_sub_cancel_left]; exact hq
  refine ⟨hl, fun h => ?_⟩
  rcases h with h | ⟨j, hj, h⟩ | h
  · have := hD.1 0 (9 + k) (x, .inr (0, xF a σ)) q rfl e2 h.symm
    omega
  · obtain ⟨e, he⟩ := rW_get G a σ hj
    have e1 : (xW G x a σ ++ w2)[j + 1]? = some (a j, e) := by rw [List.getElem?_append_left (by show j + 1 < 9; omega)]; exact he
    have := hD.1 (j + 1) (9 + k) (a j, e) q e1 e2 h.symm
    omega
  · omega
theorem x_keep {A : Nat → Prop} {G : zG} {x : Nat} {a : Nat → Nat} {σ σ' : zS} {w2 : va_W} {H H1 : Heap} (hP : va_P G.1 vwCl (xW G x a σ ++ w2) H) (hD : va_D A (xW G x a σ ++ w2)) (hP1 : va_P G.1 vwCl (xW G x a σ') H1) (hk : ∀ q : Nat, q < H.size → ¬ zA x a H.size q → H1[q]? = H[q]?) : va_P G.1 vwCl (xW G x a σ' ++ w2) H1 :=
  va_P.app hP1 ((va_Pr hP).kept fun k q hq => hk q.1 (xW_out hP hD hq).1 (xW_out hP hD hq).2)
theorem x_D {A : Nat → Prop} {G : zG} {x : Nat} {a : Nat → Nat} {σ σ' : zS} {w2 w2' : va_W} (h2 : w2.map (fun q => q.1) = w2'.map (fun q => q.1)) (hD : va_D A (xW G x a σ ++ w2)) : va_D A (xW G x a σ' ++ w2') :=
  va_D_addr (w := xW G x a σ ++ w2) (w' := xW G x a σ' ++ w2') (by rw [List.map_append, List.map_append, h2]; rfl) hD
theorem uA_in {G : zG} {y P S : Nat} {rp rs : Nat → Nat} {σ : zS} {sz q : Nat} (h : uA (σ.1 0) (σ.1 1) y P S rp rs sz q) : (∃ (k : Nat) (e : va_E), (uW G y P S rp rs σ)[k]? = some (q, e)) ∨ sz ≤ q := by
  rcases h with h | h | h | ⟨p, hp, h⟩ | ⟨k, hk, h⟩ | h
  · subst h; exact Or.inl ⟨0, _, rfl⟩
  · subst h; exact Or.inl ⟨1, _, rfl⟩
  · subst h; exact Or.inl ⟨2, _, rfl⟩
  · subst h; exact Or.inl ⟨3 + p, _, uW_p hp⟩
  · subst h; exact Or.inl ⟨3 + σ.1 0 + k, _, uW_s hk⟩
  · exact Or.inr h
theorem zA_in {G : zG} {x : Nat} {a : Nat → Nat} {σ : zS} {sz q : Nat} (h : zA x a sz q) : (∃ (k : Nat) (e : va_E), (xW G x a σ)[k]? = some (q, e)) ∨ sz ≤ q := by
  rcases h with h | ⟨j, hj, h⟩ | h
  · subst h; exact Or.inl ⟨0, _, rfl⟩
  · subst h
    obtain ⟨e, he⟩ := rW_get G a σ hj
    exact Or.inl ⟨j + 1, e, he⟩
  · exact Or.inr h
theorem app_mid {w1 w2 w3 : va_W} {k : Nat} {q : Nat × va_E} (h : w2[k]? = some q) : (w1 ++ w2 ++ w3)[w1.length + k]? = some q := by
  have hl := (List.getElem?_eq_some_iff.mp h).1
  rw [List.append_assoc, List.getElem?_append_right (by omega), Nat.add_sub_cancel_left, List.getElem?_append_left hl]; exact h
theorem app_fst {w1 w2 w3 : va_W} {k : Nat} {q : Nat × va_E} (h : w1[k]? = some q) : (w1 ++ w2 ++ w3)[k]? = some q := by
  have hl := (List.getElem?_eq_some_iff.mp h).1
  rw [List.append_assoc, List.getElem?_append_left hl]; exact h
theorem app_lst {w1 w2 w3 : va_W} {k : Nat} {q : Nat × va_E} (h : w3[k]? = some q) : (w1 ++ w2 ++ w3)[(w1 ++ w2).length + k]? = some q := by
  rw [List.getElem?_append_right (by omega), Nat.add_sub_cancel_left]; exact h
theorem mid_keep {D : va_G} {cl : List vw_C} {A F : Nat → Prop} {w1 w2 w2' w3 : va_W} {H H1 : Heap} (hP : va_P D cl (w1 ++ w2 ++ w3) H) (hD : va_D A (w1 ++ w2 ++ w3)) (hP1 : va_P D cl w2' H1) (hk : ∀ q : Nat, q < H.size → ¬ F q → H1[q]? = H[q]?) (hF : ∀ q, F q → (∃ (k : Nat) (e : va_E), w2[k]? = some (q, e)) ∨ H.size ≤ q) : va_P D cl (w1 ++ w2' ++ w3) H1 := by
  refine va_P.app (va_P.app ?_ hP1) ?_
  · refine (va_Pl (va_Pl hP)).kept fun k q hq => hk q.1 (va_Pl (va_Pl hP) k q hq).lt fun h => ?_
    rcases hF q.1 h with ⟨j, e, h⟩ | h
    · have h1 := hD.1 k (w1.length + j) q (q.1, e) (app_fst hq) (app_mid h) rfl
      have := (List.getElem?_eq_some_iff.mp hq).1
      omega
    · have := (va_Pl (va_Pl hP) k q hq).lt
      omega
  · refine (va_Pr hP).kept fun k q hq => hk q.1 (va_Pr hP k q hq).lt fun h => ?_
    rcases hF q.1 h with ⟨j, e, h⟩ | h
    · have h1 := hD.1 ((w1 ++ w2).length + k) (w1.length + j) q (q.1, e) (app_lst hq) (app_mid h) rfl
      have := (List.getElem?_eq_some_iff.mp h).1
      rw [List.length_append] at h1
      omega
    · have := (va_Pr hP k q hq).lt
      omega
theorem jx_keep {A : Nat → Prop} {G : zG} {x : Nat} {a : Nat → Nat} {σ σ' : zS} {w2 w3 : va_W} {H H1 : Heap} (hP : va_P G.1 vwCl (xW G x a σ ++ w2 ++ w3) H) (hD : va_D A (xW G x a σ ++ w2 ++ w3)) (hP1 : va_P G.1 vwCl (xW G x a σ') H1) (hk : ∀ q : Nat, q < H.size → ¬ zA x a H.size q → H1[q]? = H[q]?) : va_P G.1 vwCl (xW G x a σ' ++ w2 ++ w3) H1 := by
  rw [List.append_assoc] at hP hD ⊢
  exact x_keep hP hD hP1 hk
theorem ju_keep {A : Nat → Prop} {G : zG} {y P S : Nat} {rp rs : Nat → Nat} {σ σ' : zS} {w1 w3 : va_W} {H H1 : Heap} (hP : va_P G.1 vwCl (w1 ++ uW G y P S rp rs σ ++ w3) H) (hD : va_D A (w1 ++ uW G y P S rp rs σ ++ w3)) (hP1 : va_P G.1 vwCl (uW G y P S rp rs σ') H1) (hk : ∀ q : Nat, q < H.size → ¬ uA (σ.1 0) (σ.1 1) y P S rp rs H.size q → H1[q]? = H[q]?) : va_P G.1 vwCl (w1 ++ uW G y P S rp rs σ' ++ w3) H1 :=
  mid_keep hP hD hP1 hk (fun _ h => uA_in h)
theorem jx_D {A : Nat → Prop} {G : zG} {x : Nat} {a : Nat → Nat} {σ σ' : zS} {w2 w3 : va_W} (hD : va_D A (xW G x a σ ++ w2 ++ w3)) : va_D A (xW G x a σ' ++ w2 ++ w3) :=
  va_D_addr (w := xW G x a σ ++ w2 ++ w3) (w' := xW G x a σ' ++ w2 ++ w3) (by simp only [List.map_append]; rfl) hD
theorem ju_D {A : Nat → Prop} {G : zG} {y P S : Nat} {rp rs : Nat → Nat} {σ σ' : zS} {w1 w3 : va_W} (h0 : σ'.1 0 = σ.1 0) (h1 : σ'.1 1 = σ.1 1) (hD : va_D A (w1 ++ uW G y P S rp rs σ ++ w3)) : va_D A (w1 ++ uW G y P S rp rs σ' ++ w3) :=
  va_D_addr (w := w1 ++ uW G y P S rp rs σ ++ w3) (w' := w1 ++ uW G y P S rp rs σ' ++ w3) (by simp only [List.map_append]; rw [uW_addr h0 h1]) hD
theorem jA_x {A : Nat → Prop} {G : zG} {x : Nat} {a : Nat → Nat} {σ : zS} {w2 w3 : va_W} {sz sz' : Nat} (hD : va_D A (xW G x a σ ++ w2 ++ w3)) (hA : ∀ q, sz ≤ q → A q) (hz : sz ≤ sz') : ∀ q, zA x a sz' q → A q := fun q h => by
  rcases zA_in (G := G) (σ := σ) h with ⟨k, e, h⟩ | h
  · exact hD.2 k (q, e) (app_fst h)
  · exact hA q (Nat.le_trans hz h)
theorem jA_u {A : Nat → Prop} {G : zG} {y P S : Nat} {rp rs : Nat → Nat} {σ : zS} {w1 w3 : va_W} {sz sz' : Nat} (hD : va_D A (w1 ++ uW G y P S rp rs σ ++ w3)) (hA : ∀ q, sz ≤ q → A q) (hz : sz ≤ sz') : ∀ q, uA (σ.1 0) (σ.1 1) y P S rp rs sz' q → A q := fun q h => by
  rcases uA_in (G := G) h with ⟨k, e, h⟩ | h
  · exact hD.2 _ (q, e) (app_mid h)
  · exact hA q (Nat.le_trans hz h)
theorem set_mid {α : Type} (w1 w2 w3 : List α) (k : Nat) (e : α) (h : k < w2.length) : (w1 ++ w2 ++ w3).set (w1.length + k) e = w1 ++ w2.set k e ++ w3 := by
  rw [List.append_assoc, List.set_append_right _ _ (by omega), Nat.add_sub_cancel_left, List.set_append_left _ _ h, ← List.append_assoc]
theorem set_lst {α : Type} (w1 w3 : List α) (k : Nat) (e : α) : (w1 ++ w3).set (w1.length + k) e = w1 ++ w3.set k e := by
  rw [List.set_append_right _ _ (by omega), Nat.add_sub_cancel_left]
theorem a_in {ws : va_W} {sz : Nat} : ∀ q : Nat, sz ≤ q → va_A ws sz q := fun _ h => Or.inr h
section ZJ
variable {p : Program} {l : Launch} {e : Env} {R : Room} {s : State} {m : MethodId} {args : Array Value} {below : List Frame} {meth : Method} {c : Code} {H : Heap} {locs : List Loc} {cells slots : Nat} {Q : State → Prop}
variable {cc : ByteArray} {pc : Nat} {ls : Array Slot} {rest st0 As : List Value} {G : zG} {A : Nat → Prop} {ws w1 w3 : va_W} {H0 : Heap} {x y P S : Nat} {rp rs : Nat → Nat} {σ : zS}
/-- two longs that are one, compared, and on -/
theorem z_leq (hx : p.tables.exec = Jvm.exec) (hb : c.code = cc) {a a' : Int64} (he : a = a') {off : Int} {tgt : Nat} (d0 : decode cc pc = .ok (.lcmp, 1)) (d1 : decode cc (pc + 1) = .ok (.ifCond .eq off, 3)) (ht : ((pc + 1 : Nat) : Int) + off = (tgt : Int))
    (k : W p l e R s m args below meth c H locs cells slots Q (F0 m tgt ls rest)) : W p l e R s m args below meth c H locs cells slots Q (F0 m pc ls (.long a' :: .long a :: rest)) := by
  subst he
  refine W.lcmp hx hb d0 ?_
  exact lv_if_eq hx hb d1 ht (fun _ => k) (fun h => absurd ((lg_cmp_eq a a).mpr rfl) h)
/-- a person's row, written -/
theorem j_istP (hx : p.tables.exec = Jvm.exec) (hb : c.code = cc) (hK : zK G s) (hP : va_P G.1 vwCl (w1 ++ uW G y P S rp rs σ ++ w3) H) (hD : va_D A (w1 ++ uW G y P S rp rs σ ++ w3)) (hS : va_S A H0 H locs) {k i : Nat} (hk : k < σ.1 0) (hi : i < 2) {v : Int} (hdg : decode cc pc = .ok (.iastore, 1))
    (kk : ∀ (H1 : Heap) (locs1 : List Loc), va_P G.1 vwCl (w1 ++ uW G y P S rp rs (stA σ i k v) ++ w3) H1 → va_D A (w1 ++ uW G y P S rp rs (stA σ i k v) ++ w3) → va_S A H0 H1 locs1 → W p l e R s m args below meth c H1 locs1 cells slots Q (F0 m (pc + 1) ls rest)) : W p l e R s m args below meth c H locs cells slots Q (F0 m pc ls (.int (iI v) :: .int (iI (i : Int)) :: .ref (rp k) :: rest)) :=
  z_iast hx hb hK hP hD hS (w1.length + (3 + k)) 0 (app_mid (uW_p hk)) rfl (k := i) hi (by decide) (by rw [set_mid _ _ _ _ _ (by rw [uW_len]; omega), uW_setP hk hi]) hdg kk
/-- the last row of ints, written -/
theorem j_istN (hx : p.tables.exec = Jvm.exec) (hb : c.code = cc) (hK : zK G s) {q n : Nat} {f : Nat → Int32} (hP : va_P G.1 vwCl (ws ++ [(q, .inl (G.2.1, n, .inl f))]) H) (hD : va_D A (ws ++ [(q, .inl (G.2.1, n, .inl f))])) (hS : va_S A H0 H locs) {i : Nat} (hi : i < n) (hn : n < 2147483648) {v : Int32} (hdg : decode cc pc = .ok (.iastore, 1))
    (kk : ∀ (H1 : Heap) (locs1 : List Loc), va_P G.1 vwCl (ws ++ [(q, .inl (G.2.1, n, .inl (upd f i v)))]) H1 → va_D A (ws ++ [(q, .inl (G.2.1, n, .inl (upd f i v)))]) → va_S A H0 H1 locs1 → W p l e R s m args below meth c H1 locs1 cells slots Q (F0 m (pc + 1) ls rest)) : W p l e R s m args below meth c H locs cells slots Q (F0 m pc ls (.int v :: .int (iI (i : Int)) :: .ref q :: rest)) :=
  z_iast hx hb hK hP hD hS (ws.length + 0) 0 (by rw [List.getElem?_append_right (by omega), Nat.add_sub_cancel_left]; rfl) rfl (k := i) hi hn (by rw [set_lst]; rfl) hdg kk
/-- one of the law's rows, read and written -/
theorem j_ildE (hx : p.tables.exec = Jvm.exec) (hb : c.code = cc) (hK : zK G s) {es : va_W} (hP : va_P G.1 vwCl (ws ++ es) H) (j : Nat) {q n : Nat} {f : Nat → Int32} (he : es[j]? = some (q, .inl (G.2.1, n, .inl f))) {i : Nat} (hi : i < n) (hn : n < 2147483648) {v : Int32} (hv : f i = v) (hdg : decode cc pc = .ok (.iaload, 1))
    (kk : W p l e R s m args below meth c H locs cells slots Q (F0 m (pc + 1) ls (.int v :: rest))) : W p l e R s m args below meth c H locs cells slots Q (F0 m pc ls (.int (iI (i : Int)) :: .ref q :: rest)) :=
  z_iald hx hb hK (va_Pr hP) j 0 he rfl (k := i) hi hn hv hdg kk
theorem j_istE (hx : p.tables.exec = Jvm.exec) (hb : c.code = cc) (hK : zK G s) {es es' : va_W} (hP : va_P G.1 vwCl (ws ++ es) H) (hD : va_D A (ws ++ es)) (hS : va_S A H0 H locs) (j : Nat) {q n : Nat} {f : Nat → Int32} (he : es[j]? = some (q, .inl (G.2.1, n, .inl f))) {i : Nat} (hi : i < n) (hn : n < 2147483648) {v : Int32} (hes : es.set j (q, .inl (G.2.1, n, .inl (upd f i v))) = es') (hdg : decode cc pc = .ok (.iastore, 1))
    (kk : ∀ (H1 : Heap) (locs1 : List Loc), va_P G.1 vwCl (ws ++ es') H1 → va_D A (ws ++ es') → va_S A H0 H1 locs1 → W p l e R s m args below meth c H1 locs1 cells slots Q (F0 m (pc + 1) ls rest)) : W p l e R s m args below meth c H locs cells slots Q (F0 m pc ls (.int v :: .int (iI (i : Int)) :: .ref q :: rest)) :=
  z_iast hx hb hK hP hD hS (ws.length + j) 0 (by rw [List.getElem?_append_right (by omega), Nat.add_sub_cancel_left]; exact he) rfl (k := i) hi hn (by rw [set_lst, hes]) hdg kk
end ZJ
/-! below, cell -/
def bem (v : Int32) : Int := (v &&& 2147483647).toInt
def bel (v : Int32) (n : Int) : Int := bem v % n
theorem bem_nn (v : Int32) : 0 ≤ bem v ∧ bem v < 2147483648 := by
  have h : (v.toBitVec &&& (2147483647 : Int32).toBitVec).msb = false := by rw [BitVec.msb_and, show (2147483647 : Int32).toBitVec.msb = false from by decide, Bool.and_false]
  refine ⟨?_, Int32.toInt_lt _⟩
  show 0 ≤ (v.toBitVec &&& (2147483647 : Int32).toBitVec).toInt
  rw [BitVec.toInt_eq_toNat_of_msb h]
  exact Int.natCast_nonneg _
theorem bel_bd (v : Int32) (n : Int) (h : 0 < n) : 0 ≤ bel v n ∧ bel v n < n := ⟨Int.emod_nonneg _ (by omega), Int.emod_lt_of_pos _ h⟩
theorem bem_iI (v : Int32) : v &&& 2147483647 = iI (bem v) := (Int32.ofInt_toInt _).symm
set_option maxRecDepth 100000 in
theorem c_L_below (l : Launch) (v : Int32) (n : Int) (hn : 0 < n ∧ n < 2147483648) : Met l yL_below wsL_below ({ frames := 0, cells := 0, slots := 0, locals := 0 } : Room) (va_Pc [.int v, .int (iI n)] (fun _ => True)) (vp_Si (fun r => r = iI (bel v n))) 0 0 (fun _ => False) := by
  refine Met.ofW (cc := cL_below) (maxL := 2) (ret := (some .int)) (by decide) rfl ?_
  intro pp ee s m args below meth c s₁ B9 hml hv
  obtain ⟨rfl, -⟩ := hv
  have hx := B9.exec
  have hb := B9.bytes
  have hr := B9.returns
  have hts := atoms_spec (ws := wsL_below) B9.pre
  have hown : s.vm.findClass RL = some m.cls := findClass_of_methodNamed B9.named
  have hlocks := B9.notSynchronized
  have w_0 := hts (.constant RL 7 2147483647) (by decide +kernel)
  have hl := lv_entry ([.int v, .int (iI n)]) (n := 2) (Nat.le_of_ble_eq_true rfl)
  rw [lg_entry_eq]
  generalize (lg_sl ([.int v, .int (iI n)]) ++ List.replicate (2 - (lg_sl ([.int v, .int (iI n)])).length) Slot.unset).toArray = ls at hl ⊢
  have hl : lv_has ls 2 [(0, .int v), (1, .int (iI n))] := hl
  have hm := bem_nn v
  refine lv_iload_n hx hb dL_below_0 rfl (lv_at hl 0 rfl) ?_
  refine lv_ldc hx hb hown w_0 dL_below_1 ?_
  refine lv_iand hx hb dL_below_3 ?_
  refine z_re (bem_iI v) ?_
  refine lv_iload_n hx hb dL_below_4 rfl (lv_at hl 1 rfl) ?_
  refine z_irem hx hb dL_below_5 hm hn ?_
  exact W.iret hx hb hr (fun t ht _ => ⟨_, rfl, rfl, ht⟩) (fun q hq => absurd hq List.not_mem_nil) dL_below_6
set_option maxRecDepth 100000 in
theorem c_L_cell (l : Launch) (b L : Nat) (xs : Nat → Int32) (k : Nat) (hL : L ≤ 260) (hk : k < 1000) : Met l yL_cell wsL_cell ({ frames := 0, cells := 0, slots := 0, locals := 0 } : Room) (va_Pc [.ref b, .int (iI (k : Int))] (fun U => va_X b L xs U U.heap)) (vp_Si (fun _ => True)) 0 0 (fun _ => False) := by
  refine Met.ofW (cc := cL_cell) (maxL := 2) (ret := (some .int)) (by decide) rfl ?_
  intro pp ee s m args below meth c s₁ B9 hml hv
  obtain ⟨rfl, hX⟩ := hv
  have hx := B9.exec
  have hb := B9.bytes
  have hr := B9.returns
  have hts := atoms_spec (ws := wsL_cell) B9.pre
  have hown : s.vm.findClass RL = some m.cls := findClass_of_methodNamed B9.named
  have hlocks := B9.notSynchronized
  have w_0 := hts (.constant RL 8 790386105) (by decide +kernel)
  have hbl : b < s.heap.size := by obtain ⟨scr, h, -⟩ := hX; exact (Array.getElem?_eq_some_iff.mp h).1
  have hnb : ¬ (nA s.heap.size) b := fun h => by have : s.heap.size ≤ b := h; omega
  have hS : va_S (nA s.heap.size) s.heap s.heap [] := va_S.rf
  have hl := lv_entry ([.ref b, .int (iI (k : Int))]) (n := 2) (Nat.le_of_ble_eq_true rfl)
  rw [lg_entry_eq]
  generalize (lg_sl ([.ref b, .int (iI (k : Int))]) ++ List.replicate (2 - (lg_sl ([.ref b, .int (iI (k : Int))])).length) Slot.unset).toArray = ls at hl ⊢
  have hl : lv_has ls 2 [(0, .ref b), (1, .int (iI (k : Int)))] := hl
  refine lv_iload_n hx hb dL_cell_0 rfl (lv_at hl 1 rfl) ?_
  refine lv_aload_n hx hb dL_cell_1 rfl (lv_at hl 0 rfl) ?_
  refine va_slen hx hb hX hbl hnb hS dL_cell_2 ?_
  refine z_re (v' := iI ((L : Nat) : Int)) (by first | rfl | exact (Int32.ofInt_natCast _).symm | simp [iI]) ?_
  refine z_icmp_ge (tgt := 12) hx hb dL_cell_3 (by decide) (by omega) (by omega) (fun h1 => ?_) (fun h1 => ?_)
  · refine lv_ldc hx hb hown w_0 dL_cell_12 ?_
    refine lv_iload_n hx hb dL_cell_14 rfl (lv_at hl 1 rfl) ?_
    refine lv_iconst (v := iI 3) hx hb dL_cell_15 rfl ?_
    refine z_iadd hx hb dL_cell_16 ?_
    refine lv_imul hx hb dL_cell_17 ?_
    exact W.iret hx hb hr (fun t ht _ => ⟨_, rfl, trivial, ht⟩) (fun q hq => absurd hq List.not_mem_nil) dL_cell_18
  · refine lv_aload_n hx hb dL_cell_6 rfl (lv_at hl 0 rfl) ?_
    refine lv_iload_n hx hb dL_cell_7 rfl (lv_at hl 1 rfl) ?_
    refine va_sld hx hb hX hbl hnb hS (iI_in (by omega) (by omega)) dL_cell_8 ?_
    refine lv_goto (tgt := 18) hx hb dL_cell_9 (by decide) ?_
    exact W.iret hx hb hr (fun t ht _ => ⟨_, rfl, trivial, ht⟩) (fun q hq => absurd hq List.not_mem_nil) dL_cell_18
theorem preX {b L : Nat} {xs : Nat → Int32} {s : State} {H : Heap} {As : List Value} (hX : va_X b L xs s H) : PreS s H (va_Pc As (fun U => va_X b L xs U U.heap)) As :=
  ⟨fun _ U g mk q => ⟨q.1, va_X.moved (u := U) (U := U.calling g mk _) (Vm.Alike.refl U.vm) q.2⟩, fun U hU hW => ⟨rfl, by show va_X b L xs U U.heap; rw [hU]; exact va_X.moved hW.alike hX⟩⟩
/-! with: one row more -/
def sn (r : Nat → Nat) (n q : Nat) : Nat → Nat := fun k => if k = n then q else r k
theorem sn_lt {r : Nat → Nat} {n q k : Nat} (h : k < n) : sn r n q k = r k := by unfold sn; rw [if_neg (by omega)]
theorem sn_eq {r : Nat → Nat} {n q : Nat} : sn r n q n = q := by unfold sn; rw [if_pos rfl]
theorem orf_step {r : Nat → Nat} {j : Nat} : va_up (orf j r) j (some (r j)) = orf (j + 1) r := by
  funext k
  unfold va_up orf
  by_cases h : k = j
  · subst h; simp
  · have h1 : (k < j + 1) ↔ (k < j) := by omega
    simp [h, h1]
theorem orf_sn {r : Nat → Nat} {n q : Nat} : va_up (orf n r) n (some q) = orf (n + 1) (sn r n q) := by
  funext k
  unfold va_up orf sn
  by_cases h : k = n
  · subst h; simp
  · have h1 : (k < n + 1) ↔ (k < n) := by omega
    simp [h, h1]
theorem orf_0 {r : Nat → Nat} : (fun _ : Nat => (none : Option Nat)) = orf 0 r := by funext k; simp [orf]
theorem u_aast2 {p : Program} {l : Launch} {e : Env} {R : Room} {s : State} {m : MethodId} {args : Array Value} {below : List Frame} {meth : Method} {c : Code} {H : Heap} {locs : List Loc} {cells slots : Nat} {Q : State → Prop} {cc : ByteArray} {pc : Nat} {ls : Array Slot} {rest : List Value} {G : zG} {A : Nat → Prop} {ws : va_W} {H0 : Heap} {a : Nat}
    (hx : p.tables.exec = Jvm.exec) (hb : c.code = cc) (hK : zK G s) (hO : zO s) (hP : va_P G.1 vwCl ws H) {n : Nat} {f : Nat → Option Nat} (hN : va_P G.1 vwCl [(a, .inl (G.2.2.2, n, .inr (.inr (.inr (.inr f)))))] H) (hap : ∀ (k : Nat) (q : Nat × va_E), ws[k]? = some q → q.1 ≠ a) (hAa : A a) (hS : va_S A H0 H locs) (qk : Nat) {v nv : Nat} {fv : Nat → Int32} (hv : ws[qk]? = some (v, .inl (G.2.1, nv, .inl fv))) {i : Nat} (hi : i < n) (hn : n < 2147483648) {f' : Nat → Option Nat} (hf : va_up f i (some v) = f') (hdg : decode cc pc = .ok (.aastore, 1))
    (kk : ∀ (H1 : Heap) (locs1 : List Loc), va_P G.1 vwCl ws H1 → va_P G.1 vwCl [(a, .inl (G.2.2.2, n, .inr (.inr (.inr (.inr f')))))] H1 → va_S A H0 H1 locs1 → W p l e R s m args below meth c H1 locs1 cells slots Q (F0 m (pc + 1) ls rest)) : W p l e R s m args below meth c H locs cells slots Q (F0 m pc ls (.ref v :: .int (iI (i : Int)) :: .ref a :: rest)) := by
  have hc : (iI (i : Int)).toNatClampNeg = i := iI_clamp (by omega)
  have hin := iI_in hi hn
  have h0 : ¬ iI (i : Int) < 0 := fun q => hin (Or.inl q)
  obtain ⟨kA, kC, k1, k2, k3⟩ := zO_use hK hO
  refine W.aast hx hb (hN 0 _ rfl) (fun q h => by cases h) (fun h => by cases h) k1 k2 rfl k3 ⟨h0, by show _ < (arrV _ _ _).slots.size; rw [arrV_size, hc]; exact hi⟩ (hP qk _ hv) (fun q h => by cases h) k3 (by show Vm.assignableAux s.vm (255 + 1) G.2.1 G.2.1 = true; rw [Vm.assignableAux]; simp only [beq_self_eq_true, Bool.true_or]) rfl rfl hdg fun H1 e z oq => ?_
  refine kk H1 _ (hP.kept fun k q hq => oq q.1 (hap k q hq)) (fun k q hq => ?_) (hS.put z oq hAa)
  have hz : k < 1 := (List.getElem?_eq_some_iff.mp hq).1
  rw [show k = 0 by omega] at hq
  cases hq
  show H1[a]? = some (vp_cell _ _)
  rw [e]
  rw [vp_cell_q, vp_cell_q, arrV_store, hc, ← hf]
  congr 2
  funext q
  by_cases hq : q = i
  · subst hq
    simp [updV, va_up, va_rf]
  · simp [updV, va_up, hq]
set_option maxHeartbeats 4000000 in
set_option maxRecDepth 100000 in
theorem c_X1_with (l : Launch) (G : zG) (ws : va_W) (P q n : Nat) (r : Nat → Nat) (sz : Nat) (hn : n ≤ 20) (i0 : Nat) (hsrc : ws[i0]? = some (oR G P n r)) (hrow : ∀ k, k < n → ∃ (i nv : Nat) (fv : Nat → Int32), ws[i]? = some (r k, .inl (G.2.1, nv, .inl fv))) (hq : ∃ (i nv : Nat) (fv : Nat → Int32), ws[i]? = some (q, .inl (G.2.1, nv, .inl fv))) :
    Met l yX1_with wsX1_with ({ frames := 0, cells := 1, slots := 21, locals := 0 } : Room) (va_Pc [.ref P, .ref q] (fun U => U.heap.size = sz ∧ va_P G.1 vwCl ws U.heap ∧ zK G U ∧ zO U)) (va_Qr (fun (_ : Unit) => True) (fun _ ra t => va_P G.1 vwCl [oR G ra (n + 1) (sn r n q)] t.heap ∧ sz ≤ ra) (nA sz)) 1 21 (nA sz) := by
  refine Met.ofW (cc := cX1_with) (maxL := 4) (ret := (some (.array (.array .int)))) (by decide) rfl ?_
  intro pp ee s m args below meth c s₁ B9 hml hv
  obtain ⟨rfl, hsz, hP, hK, hO⟩ := hv
  subst hsz
  have hx := B9.exec
  have hb := B9.bytes
  have hr := B9.returns
  have hts := atoms_spec (ws := wsX1_with) B9.pre
  have hown : s.vm.findClass RX1 = some m.cls := findClass_of_methodNamed B9.named
  have hlocks := B9.notSynchronized
  have w_0 := hts (.classLink RX1 7 "[I") (by decide +kernel)
  have hlt : ∀ (k : Nat) (q : Nat × va_E), ws[k]? = some q → q.1 < s.heap.size := fun k q hq => (hP k q hq).lt
  have hl := lv_entry ([.ref P, .ref q]) (n := 4) (Nat.le_of_ble_eq_true rfl)
  rw [lg_entry_eq]
  generalize (lg_sl ([.ref P, .ref q]) ++ List.replicate (4 - (lg_sl ([.ref P, .ref q])).length) Slot.unset).toArray = ls at hl ⊢
  have hl : lv_has ls 4 [(0, .ref P), (1, .ref q)] := hl
  refine lv_aload_n hx hb dX1_with_0 rfl (lv_at hl 0 rfl) ?_
  refine u_len hx hb hK hP i0 hsrc dX1_with_1 ?_
  refine lv_iconst (v := iI 1) hx hb dX1_with_2 rfl ?_
  refine z_iadd hx hb dX1_with_3 ?_
  refine z_re (v' := iI ((n + 1 : Nat) : Int)) (congrArg iI (by omega)) ?_
  have hS0 : va_S (nA s.heap.size) s.heap s.heap [] := va_S.rf
  have hD0 : va_D (nA s.heap.size) [] := ⟨fun i j p q h => by simp at h, fun k q h => by simp at h⟩
  have hP0 : va_P G.1 vwCl [] s.heap := fun k q h => by simp at h
  refine W.anewA (t := .int) hx hb hown w_0 hO rfl dX1_with_4 rfl (by rw [← iI_0, iI_lt (by omega) (by omega)]; omega) (by rw [iI_clamp (by omega)]; omega) (Nat.le_of_ble_eq_true rfl) (by rw [iI_clamp (by omega)]; show 0 + (n + 1) ≤ 21; omega) fun cA kA comp f1 f2 f3 f4 => ?_
  rw [iI_clamp (show n + 1 < 2147483648 by omega)]
  have hcA := zK_arr hK f1
  subst hcA
  have z1 : (s.heap.push ({ cls := G.2.2.2, slots := Array.replicate (n + 1) .null, vm := .none } : Cell)).size = s.heap.size + 1 := Array.size_push ..
  have e1 : (s.heap.push ({ cls := G.2.2.2, slots := Array.replicate (n + 1) .null, vm := .none } : Cell))[s.heap.size]? = some (arrV G.2.2.2 (n + 1) (fun _ => .null)) := by rw [Array.getElem?_push_size, ← arrV_new]
  have o1 : ∀ q : Nat, q < s.heap.size → (s.heap.push ({ cls := G.2.2.2, slots := Array.replicate (n + 1) .null, vm := .none } : Cell))[q]? = s.heap[q]? := fun q hq => by rw [Array.getElem?_push, if_neg (Nat.ne_of_lt hq)]
  generalize s.heap.push ({ cls := G.2.2.2, slots := Array.replicate (n + 1) .null, vm := .none } : Cell) = H at z1 e1 o1 ⊢
  have hP1 : va_P G.1 vwCl ws H := hP.kept fun k q hq => o1 q.1 (hlt k q hq)
  have hN1 : va_P G.1 vwCl [(s.heap.size, .inl (G.2.2.2, n + 1, .inr (.inr (.inr (.inr (fun _ => none))))))] H := fun k q hq => by
    have hz : k < 1 := (List.getElem?_eq_some_iff.mp hq).1
    rw [show k = 0 by omega] at hq
    cases hq
    show H[s.heap.size]? = some (vp_cell _ _)
    rw [vp_cell_q]
    exact e1
  rw [orf_0 (r := r)] at hN1
  have hS1 : va_S (nA s.heap.size) s.heap H [] := ⟨by omega, fun q h1 _ => o1 q h1, fun _ h => by cases h⟩
  have hap : ∀ (k : Nat) (q : Nat × va_E), ws[k]? = some q → q.1 ≠ s.heap.size := fun k q hq => Nat.ne_of_lt (hlt k q hq)
  have hAa : nA s.heap.size s.heap.size := Nat.le_refl s.heap.size
  refine lv_astore_n (lv' := [(2, .ref s.heap.size), (0, .ref P), (1, .ref q)]) hx hb dX1_with_7 rfl hl (by decide) rfl (fun ls hl => ?_)
  refine lv_iconst (v := iI 0) hx hb dX1_with_8 rfl ?_
  refine lv_istore_n (lv' := [(3, .int (iI 0)), (2, .ref s.heap.size), (0, .ref P), (1, .ref q)]) hx hb dX1_with_9 rfl hl (by decide) rfl (fun ls hl => ?_)
  have LP : ∀ (r9 j : Nat), n - j < r9 → j ≤ n → ∀ (H : Heap) (locs : List Loc) (ls : Array Slot), va_P G.1 vwCl ws H → va_P G.1 vwCl [(s.heap.size, .inl (G.2.2.2, n + 1, .inr (.inr (.inr (.inr (orf j r))))))] H → va_S (nA s.heap.size) s.heap H locs → lv_has ls 4 [(3, .int (iI (j : Int))), (2, .ref s.heap.size), (0, .ref P), (1, .ref q)] →
      W pp l ee (headSpec wsX1_with ({ frames := 0, cells := 1, slots := 21, locals := 0 } : Room)).room s m ([.ref P, .ref q] : List Value).toArray below meth c H locs (0 + 1) (0 + (n + 1)) (MQ below (va_Qr (fun (_ : Unit) => True) (fun _ ra t => va_P G.1 vwCl [oR G ra (n + 1) (sn r n q)] t.heap ∧ s.heap.size ≤ ra) (nA s.heap.size)) ([.ref P, .ref q] : List Value).toArray s 1 21 (nA s.heap.size)) (F0 m 10 ls []) := by
    intro r9
    induction r9 with
    | zero => intro j h; omega
    | succ r9 ih =>
      intro j hj1 hj2 H locs ls hP hN hS hl
      refine lv_iload_n hx hb dX1_with_10 rfl (lv_at hl 0 rfl) ?_
      refine lv_aload_n hx hb dX1_with_11 rfl (lv_at hl 2 rfl) ?_
      refine u_len hx hb hK hP i0 hsrc dX1_with_12 ?_
      refine z_icmp_ge (tgt := 28) hx hb dX1_with_13 (by decide) (by omega) (by omega) (fun h1 => ?_) (fun h1 => ?_)
      · have hjn : j = n := by omega
        subst hjn
        refine lv_aload_n hx hb dX1_with_28 rfl (lv_at hl 1 rfl) ?_
        refine lv_aload_n hx hb dX1_with_29 rfl (lv_at hl 2 rfl) ?_
        refine u_len hx hb hK hP i0 hsrc dX1_with_30 ?_
        refine lv_aload_n hx hb dX1_with_31 rfl (lv_at hl 3 rfl) ?_
        obtain ⟨iq, nq, fq, hq2⟩ := hq
        refine u_aast2 hx hb hK hO hP hN hap hAa hS iq hq2 (i := j) (by omega) (by omega) orf_sn dX1_with_32 (fun H locs hP hN hS => ?_)
        refine lv_aload_n hx hb dX1_with_33 rfl (lv_at hl 1 rfl) ?_
        refine W.widen (k := 1) (n := 21) (by omega) (by omega) ?_
        exact W.aret hx hb hr (Or.inr ⟨_, rfl⟩) (Or.inr ⟨_, rfl⟩) (fun t ht hW => ⟨⟨(), s.heap.size, rfl, trivial, by show va_P _ _ _ t.heap; rw [ht]; exact hN, Nat.le_refl _⟩, hS.F ht⟩) hS.2.2 dX1_with_34
      · obtain ⟨ir, nr, fr, hr2⟩ := hrow j (by omega)
        refine lv_aload_n hx hb dX1_with_16 rfl (lv_at hl 1 rfl) ?_
        refine lv_iload_n hx hb dX1_with_17 rfl (lv_at hl 0 rfl) ?_
        refine lv_aload_n hx hb dX1_with_18 rfl (lv_at hl 2 rfl) ?_
        refine lv_iload_n hx hb dX1_with_19 rfl (lv_at hl 0 rfl) ?_
        refine u_aald hx hb hK hP i0 hsrc (i := j) (v := r j) (by omega) (by omega) (by unfold orf; rw [if_pos (by omega)]) dX1_with_20 ?_
        refine u_aast2 hx hb hK hO hP hN hap hAa hS ir hr2 (i := j) (by omega) (by omega) orf_step dX1_with_21 (fun H locs hP hN hS => ?_)
        refine lv_iinc (v := iI ((j + 1 : Nat) : Int)) (lv' := [(3, .int (iI ((j + 1 : Nat) : Int))), (2, .ref s.heap.size), (0, .ref P), (1, .ref q)]) hx hb dX1_with_22 hl (k := 0) rfl ((iI_add _ _).trans (congrArg iI (by omega))) (by decide) rfl (fun ls hl => ?_)
        refine lv_goto (tgt := 10) hx hb dX1_with_25 (by decide) ?_
        exact ih (j + 1) (by omega) (by omega) H locs ls hP hN hS hl
  exact LP (n + 1) 0 (by omega) (by omega) H [] ls hP1 hN1 hS1 hl
/-! THE CONSTRUCTORS -/
set_option maxHeartbeats 4000000 in
set_option maxRecDepth 100000 in
theorem c_X0_init (l : Launch) (G : zG) (x : Nat) (sz : Nat) : Met l yX0_init wsX0_init ({ frames := 1, cells := 8, slots := 132, locals := 12 } : Room) (va_Pc [.ref x] (fun U => U.heap.size = sz ∧ va_P G.1 vwCl [(x, .inr (0, [.null, .null, .int 0, .null, .null, .null, .null, .null, .null, .int 0, .int 0, .int 0]))] U.heap ∧ zK G U ∧ va_D (fun _ => True) [(x, .inr (0, [.null, .null, .int 0, .null, .null, .null, .null, .null, .null, .int 0, .int 0, .int 0]))])) (va_Qv (fun (_ : Nat → Nat) => True) (fun u t => va_P G.1 vwCl (xW G x u σ0) t.heap ∧ va_D (iA x sz) (xW G x u σ0)) (iA x sz)) 8 132 (iA x sz) := by
  refine Met.ofW (cc := cX0_init) (maxL := 1) (ret := none) (by decide) rfl ?_
  intro pp ee s m args below meth c s₁ B9 hml hv
  obtain ⟨rfl, hsz, hP, hK, hD0⟩ := hv
  subst hsz
  have hx := B9.exec
  have hb := B9.bytes
  have hr := B9.returns
  have hts := atoms_spec (ws := wsX0_init) B9.pre
  have hown : s.vm.findClass RX0 = some m.cls := findClass_of_methodNamed B9.named
  have hlocks := B9.notSynchronized
  have hin : meth.name = "<init>" := (name_of_methodNamed B9.named B9.method).1
  have hin0 : ∀ w ∈ wsX00, w ∈ wsX0_init := by decide +kernel
  have w_0 := hts (.methodLink RX0 1 objectInit) (by decide +kernel)
  have w_1 := hts (.instanceMethod objectInit) (by decide +kernel)
  have w_2 := hts (.code objectInit ⟨#[0xb1]⟩ 1 none) (by decide +kernel)
  have w_3 := hts (.arrayClass .int) (by decide +kernel)
  have w_4 := hts (.fieldLink RX0 9 "ApologyLedger" "prides" "[I") (by decide +kernel)
  have w_5 := hts (.arrayClass .boolean) (by decide +kernel)
  have w_6 := hts (.fieldLink RX0 13 "ApologyLedger" "present" "[Z") (by decide +kernel)
  have w_7 := hts (.fieldLink RX0 17 "ApologyLedger" "offenders" "[I") (by decide +kernel)
  have w_8 := hts (.fieldLink RX0 20 "ApologyLedger" "offendedOnes" "[I") (by decide +kernel)
  have w_9 := hts (.fieldLink RX0 23 "ApologyLedger" "weights" "[I") (by decide +kernel)
  have w_10 := hts (.fieldLink RX0 26 "ApologyLedger" "states" "[I") (by decide +kernel)
  have w_11 := hts (.fieldLink RX0 29 "ApologyLedger" "daysBorne" "[I") (by decide +kernel)
  have w_12 := hts (.fieldLink RX0 32 "ApologyLedger" "daysQuiet" "[I") (by decide +kernel)
  have hD : va_D (iA x s.heap.size) [(x, .inr (0, [.null, .null, .int 0, .null, .null, .null, .null, .null, .null, .int 0, .int 0, .int 0]))] := hD0.weaken fun k q hk _ => Or.inl (by have := List.mem_of_getElem? hk; rw [List.mem_singleton] at this; rw [this])
  have hA : ∀ q : Nat, s.heap.size ≤ q → iA x s.heap.size q := fun q h => Or.inr h
  have hS : va_S (iA x s.heap.size) s.heap s.heap [] := va_S.rf
  have hl := lv_entry ([.ref x]) (n := 1) (Nat.le_of_ble_eq_true rfl)
  rw [lg_entry_eq]
  generalize (lg_sl ([.ref x]) ++ List.replicate (1 - (lg_sl ([.ref x])).length) Slot.unset).toArray = ls at hl ⊢
  have hl : lv_has ls 1 [(0, .ref x)] := hl
  refine lv_aload_n hx hb dX0_init_0 rfl (lv_at hl 0 rfl) ?_
  refine W.objInit hx hb hown w_0 w_1 w_2 rfl (by rw [hml]; exact hl.1) rfl dX0_init_1 (Nat.le_of_ble_eq_true rfl) (Nat.le_of_ble_eq_true rfl) ?_
  refine W.eq (g2 := F0 m 4 ls []) rfl ?_
  refine lv_aload_n hx hb dX0_init_4 rfl (lv_at hl 0 rfl) ?_
  refine lv_bipush (v := iI 6) hx hb dX0_init_5 (by decide) ?_
  refine z_newi (N := 6) hx hb w_3 hK hP hD hS hA (by decide) (Nat.le_of_ble_eq_true rfl) (Nat.le_of_ble_eq_true rfl) dX0_init_7 (fun q0 H hP hD hS => ?_)
  have hP : va_P G.1 vwCl [(x, .inr (0, [.null, .null, .int 0, .null, .null, .null, .null, .null, .null, .int 0, .int 0, .int 0])), (q0, .inl (G.2.1, 6, .inl (fun _ => 0)))] H := hP
  have hD : va_D (iA x s.heap.size) [(x, .inr (0, [.null, .null, .int 0, .null, .null, .null, .null, .null, .null, .int 0, .int 0, .int 0])), (q0, .inl (G.2.1, 6, .inl (fun _ => 0)))] := hD
  refine va_putF (D := G.1) (ci := 0) (v := .ref q0) (ty := .array .int) (C := RX0) (T := TX0) (N := 12) hx hb hts hin0 tyX0 tyX0_ok nmX0 hown hK hP hD hS 0 rfl rfl 0 (by decide) w_4 (fun _ h9 => h9) rfl hin rfl (by decide +kernel) rfl rfl (Nat.le_of_ble_eq_true rfl) dX0_init_9 (fun H locs hP hD hS => ?_)
  have hP : va_P G.1 vwCl [(x, .inr (0, [.ref q0, .null, .int 0, .null, .null, .null, .null, .null, .null, .int 0, .int 0, .int 0])), (q0, .inl (G.2.1, 6, .inl (fun _ => 0)))] H := hP
  have hD : va_D (iA x s.heap.size) [(x, .inr (0, [.ref q0, .null, .int 0, .null, .null, .null, .null, .null, .null, .int 0, .int 0, .int 0])), (q0, .inl (G.2.1, 6, .inl (fun _ => 0)))] := hD
  refine lv_aload_n hx hb dX0_init_12 rfl (lv_at hl 0 rfl) ?_
  refine lv_bipush (v := iI 6) hx hb dX0_init_13 (by decide) ?_
  refine z_newz (N := 6) hx hb w_5 hK hP hD hS hA (by decide) (Nat.le_of_ble_eq_true rfl) (Nat.le_of_ble_eq_true rfl) dX0_init_15 (fun q1 H hP hD hS => ?_)
  have hP : va_P G.1 vwCl [(x, .inr (0, [.ref q0, .null, .int 0, .null, .null, .null, .null, .null, .null, .int 0, .int 0, .int 0])), (q0, .inl (G.2.1, 6, .inl (fun _ => 0))), (q1, .inl (G.2.2.1, 6, .inl (fun _ => 0)))] H := hP
  have hD : va_D (iA x s.heap.size) [(x, .inr (0, [.ref q0, .null, .int 0, .null, .null, .null, .null, .null, .null, .int 0, .int 0, .int 0])), (q0, .inl (G.2.1, 6, .inl (fun _ => 0))), (q1, .inl (G.2.2.1, 6, .inl (fun _ => 0)))] := hD
  refine va_putF (D := G.1) (ci := 0) (v := .ref q1) (ty := .array .boolean) (C := RX0) (T := TX0) (N := 12) hx hb hts hin0 tyX0 tyX0_ok nmX0 hown hK hP hD hS 0 rfl rfl 1 (by decide) w_6 (fun _ h9 => h9) rfl hin rfl (by decide +kernel) rfl rfl (Nat.le_of_ble_eq_true rfl) dX0_init_17 (fun H locs hP hD hS => ?_)
  have hP : va_P G.1 vwCl [(x, .inr (0, [.ref q0, .ref q1, .int 0, .null, .null, .null, .null, .null, .null, .int 0, .int 0, .int 0])), (q0, .inl (G.2.1, 6, .inl (fun _ => 0))), (q1, .inl (G.2.2.1, 6, .inl (fun _ => 0)))] H := hP
  have hD : va_D (iA x s.heap.size) [(x, .inr (0, [.ref q0, .ref q1, .int 0, .null, .null, .null, .null, .null, .null, .int 0, .int 0, .int 0])), (q0, .inl (G.2.1, 6, .inl (fun _ => 0))), (q1, .inl (G.2.2.1, 6, .inl (fun _ => 0)))] := hD
  refine lv_aload_n hx hb dX0_init_20 rfl (lv_at hl 0 rfl) ?_
  refine lv_bipush (v := iI 20) hx hb dX0_init_21 (by decide) ?_
  refine z_newi (N := 20) hx hb w_3 hK hP hD hS hA (by decide) (Nat.le_of_ble_eq_true rfl) (Nat.le_of_ble_eq_true rfl) dX0_init_23 (fun q2 H hP hD hS => ?_)
  have hP : va_P G.1 vwCl [(x, .inr (0, [.ref q0, .ref q1, .int 0, .null, .null, .null, .null, .null, .null, .int 0, .int 0, .int 0])), (q0, .inl (G.2.1, 6, .inl (fun _ => 0))), (q1, .inl (G.2.2.1, 6, .inl (fun _ => 0))), (q2, .inl (G.2.1, 20, .inl (fun _ => 0)))] H := hP
  have hD : va_D (iA x s.heap.size) [(x, .inr (0, [.ref q0, .ref q1, .int 0, .null, .null, .null, .null, .null, .null, .int 0, .int 0, .int 0])), (q0, .inl (G.2.1, 6, .inl (fun _ => 0))), (q1, .inl (G.2.2.1, 6, .inl (fun _ => 0))), (q2, .inl (G.2.1, 20, .inl (fun _ => 0)))] := hD
  refine va_putF (D := G.1) (ci := 0) (v := .ref q2) (ty := .array .int) (C := RX0) (T := TX0) (N := 12) hx hb hts hin0 tyX0 tyX0_ok nmX0 hown hK hP hD hS 0 rfl rfl 3 (by decide) w_7 (fun _ h9 => h9) rfl hin rfl (by decide +kernel) rfl rfl (Nat.le_of_ble_eq_true rfl) dX0_init_25 (fun H locs hP hD hS => ?_)
  have hP : va_P G.1 vwCl [(x, .inr (0, [.ref q0, .ref q1, .int 0, .ref q2, .null, .null, .null, .null, .null, .int 0, .int 0, .int 0])), (q0, .inl (G.2.1, 6, .inl (fun _ => 0))), (q1, .inl (G.2.2.1, 6, .inl (fun _ => 0))), (q2, .inl (G.2.1, 20, .inl (fun _ => 0)))] H := hP
  have hD : va_D (iA x s.heap.size) [(x, .inr (0, [.ref q0, .ref q1, .int 0, .ref q2, .null, .null, .null, .null, .null, .int 0, .int 0, .int 0])), (q0, .inl (G.2.1, 6, .inl (fun _ => 0))), (q1, .inl (G.2.2.1, 6, .inl (fun _ => 0))), (q2, .inl (G.2.1, 20, .inl (fun _ => 0)))] := hD
  refine lv_aload_n hx hb dX0_init_28 rfl (lv_at hl 0 rfl) ?_
  refine lv_bipush (v := iI 20) hx hb dX0_init_29 (by decide) ?_
  refine z_newi (N := 20) hx hb w_3 hK hP hD hS hA (by decide) (Nat.le_of_ble_eq_true rfl) (Nat.le_of_ble_eq_true rfl) dX0_init_31 (fun q3 H hP hD hS => ?_)
  have hP : va_P G.1 vwCl [(x, .inr (0, [.ref q0, .ref q1, .int 0, .ref q2, .null, .null, .null, .null, .null, .int 0, .int 0, .int 0])), (q0, .inl (G.2.1, 6, .inl (fun _ => 0))), (q1, .inl (G.2.2.1, 6, .inl (fun _ => 0))), (q2, .inl (G.2.1, 20, .inl (fun _ => 0))), (q3, .inl (G.2.1, 20, .inl (fun _ => 0)))] H := hP
  have hD : va_D (iA x s.heap.size) [(x, .inr (0, [.ref q0, .ref q1, .int 0, .ref q2, .null, .null, .null, .null, .null, .int 0, .int 0, .int 0])), (q0, .inl (G.2.1, 6, .inl (fun _ => 0))), (q1, .inl (G.2.2.1, 6, .inl (fun _ => 0))), (q2, .inl (G.2.1, 20, .inl (fun _ => 0))), (q3, .inl (G.2.1, 20, .inl (fun _ => 0)))] := hD
  refine va_putF (D := G.1) (ci := 0) (v := .ref q3) (ty := .array .int) (C := RX0) (T := TX0) (N := 12) hx hb hts hin0 tyX0 tyX0_ok nmX0 hown hK hP hD hS 0 rfl rfl 4 (by decide) w_8 (fun _ h9 => h9) rfl hin rfl (by decide +kernel) rfl rfl (Nat.le_of_ble_eq_true rfl) dX0_init_33 (fun H locs hP hD hS => ?_)
  have hP : va_P G.1 vwCl [(x, .inr (0, [.ref q0, .ref q1, .int 0, .ref q2, .ref q3, .null, .null, .null, .null, .int 0, .int 0, .int 0])), (q0, .inl (G.2.1, 6, .inl (fun _ => 0))), (q1, .inl (G.2.2.1, 6, .inl (fun _ => 0))), (q2, .inl (G.2.1, 20, .inl (fun _ => 0))), (q3, .inl (G.2.1, 20, .inl (fun _ => 0)))] H := hP
  have hD : va_D (iA x s.heap.size) [(x, .inr (0, [.ref q0, .ref q1, .int 0, .ref q2, .ref q3, .null, .null, .null, .null, .int 0, .int 0, .int 0])), (q0, .inl (G.2.1, 6, .inl (fun _ => 0))), (q1, .inl (G.2.2.1, 6, .inl (fun _ => 0))), (q2, .inl (G.2.1, 20, .inl (fun _ => 0))), (q3, .inl (G.2.1, 20, .inl (fun _ => 0)))] := hD
  refine lv_aload_n hx hb dX0_init_36 rfl (lv_at hl 0 rfl) ?_
  refine lv_bipush (v := iI 20) hx hb dX0_init_37 (by decide) ?_
  refine z_newi (N := 20) hx hb w_3 hK hP hD hS hA (by decide) (Nat.le_of_ble_eq_true rfl) (Nat.le_of_ble_eq_true rfl) dX0_init_39 (fun q4 H hP hD hS => ?_)
  have hP : va_P G.1 vwCl [(x, .inr (0, [.ref q0, .ref q1, .int 0, .ref q2, .ref q3, .null, .null, .null, .null, .int 0, .int 0, .int 0])), (q0, .inl (G.2.1, 6, .inl (fun _ => 0))), (q1, .inl (G.2.2.1, 6, .inl (fun _ => 0))), (q2, .inl (G.2.1, 20, .inl (fun _ => 0))), (q3, .inl (G.2.1, 20, .inl (fun _ => 0))), (q4, .inl (G.2.1, 20, .inl (fun _ => 0)))] H := hP
  have hD : va_D (iA x s.heap.size) [(x, .inr (0, [.ref q0, .ref q1, .int 0, .ref q2, .ref q3, .null, .null, .null, .null, .int 0, .int 0, .int 0])), (q0, .inl (G.2.1, 6, .inl (fun _ => 0))), (q1, .inl (G.2.2.1, 6, .inl (fun _ => 0))), (q2, .inl (G.2.1, 20, .inl (fun _ => 0))), (q3, .inl (G.2.1, 20, .inl (fun _ => 0))), (q4, .inl (G.2.1, 20, .inl (fun _ => 0)))] := hD
  refine va_putF (D := G.1) (ci := 0) (v := .ref q4) (ty := .array .int) (C := RX0) (T := TX0) (N := 12) hx hb hts hin0 tyX0 tyX0_ok nmX0 hown hK hP hD hS 0 rfl rfl 5 (by decide) w_9 (fun _ h9 => h9) rfl hin rfl (by decide +kernel) rfl rfl (Nat.le_of_ble_eq_true rfl) dX0_init_41 (fun H locs hP hD hS => ?_)
  have hP : va_P G.1 vwCl [(x, .inr (0, [.ref q0, .ref q1, .int 0, .ref q2, .ref q3, .ref q4, .null, .null, .null, .int 0, .int 0, .int 0])), (q0, .inl (G.2.1, 6, .inl (fun _ => 0))), (q1, .inl (G.2.2.1, 6, .inl (fun _ => 0))), (q2, .inl (G.2.1, 20, .inl (fun _ => 0))), (q3, .inl (G.2.1, 20, .inl (fun _ => 0))), (q4, .inl (G.2.1, 20, .inl (fun _ => 0)))] H := hP
  have hD : va_D (iA x s.heap.size) [(x, .inr (0, [.ref q0, .ref q1, .int 0, .ref q2, .ref q3, .ref q4, .null, .null, .null, .int 0, .int 0, .int 0])), (q0, .inl (G.2.1, 6, .inl (fun _ => 0))), (q1, .inl (G.2.2.1, 6, .inl (fun _ => 0))), (q2, .inl (G.2.1, 20, .inl (fun _ => 0))), (q3, .inl (G.2.1, 20, .inl (fun _ => 0))), (q4, .inl (G.2.1, 20, .inl (fun _ => 0)))] := hD
  refine lv_aload_n hx hb dX0_init_44 rfl (lv_at hl 0 rfl) ?_
  refine lv_bipush (v := iI 20) hx hb dX0_init_45 (by decide) ?_
  refine z_newi (N := 20) hx hb w_3 hK hP hD hS hA (by decide) (Nat.le_of_ble_eq_true rfl) (Nat.le_of_ble_eq_true rfl) dX0_init_47 (fun q5 H hP hD hS => ?_)
  have hP : va_P G.1 vwCl [(x, .inr (0, [.ref q0, .ref q1, .int 0, .ref q2, .ref q3, .ref q4, .null, .null, .null, .int 0, .int 0, .int 0])), (q0, .inl (G.2.1, 6, .inl (fun _ => 0))), (q1, .inl (G.2.2.1, 6, .inl (fun _ => 0))), (q2, .inl (G.2.1, 20, .inl (fun _ => 0))), (q3, .inl (G.2.1, 20, .inl (fun _ => 0))), (q4, .inl (G.2.1, 20, .inl (fun _ => 0))), (q5, .inl (G.2.1, 20, .inl (fun _ => 0)))] H := hP
  have hD : va_D (iA x s.heap.size) [(x, .inr (0, [.ref q0, .ref q1, .int 0, .ref q2, .ref q3, .ref q4, .null, .null, .null, .int 0, .int 0, .int 0])), (q0, .inl (G.2.1, 6, .inl (fun _ => 0))), (q1, .inl (G.2.2.1, 6, .inl (fun _ => 0))), (q2, .inl (G.2.1, 20, .inl (fun _ => 0))), (q3, .inl (G.2.1, 20, .inl (fun _ => 0))), (q4, .inl (G.2.1, 20, .inl (fun _ => 0))), (q5, .inl (G.2.1, 20, .inl (fun _ => 0)))] := hD
  refine va_putF (D := G.1) (ci := 0) (v := .ref q5) (ty := .array .int) (C := RX0) (T := TX0) (N := 12) hx hb hts hin0 tyX0 tyX0_ok nmX0 hown hK hP hD hS 0 rfl rfl 6 (by decide) w_10 (fun _ h9 => h9) rfl hin rfl (by decide +kernel) rfl rfl (Nat.le_of_ble_eq_true rfl) dX0_init_49 (fun H locs hP hD hS => ?_)
  have hP : va_P G.1 vwCl [(x, .inr (0, [.ref q0, .ref q1, .int 0, .ref q2, .ref q3, .ref q4, .ref q5, .null, .null, .int 0, .int 0, .int 0])), (q0, .inl (G.2.1, 6, .inl (fun _ => 0))), (q1, .inl (G.2.2.1, 6, .inl (fun _ => 0))), (q2, .inl (G.2.1, 20, .inl (fun _ => 0))), (q3, .inl (G.2.1, 20, .inl (fun _ => 0))), (q4, .inl (G.2.1, 20, .inl (fun _ => 0))), (q5, .inl (G.2.1, 20, .inl (fun _ => 0)))] H := hP
  have hD : va_D (iA x s.heap.size) [(x, .inr (0, [.ref q0, .ref q1, .int 0, .ref q2, .ref q3, .ref q4, .ref q5, .null, .null, .int 0, .int 0, .int 0])), (q0, .inl (G.2.1, 6, .inl (fun _ => 0))), (q1, .inl (G.2.2.1, 6, .inl (fun _ => 0))), (q2, .inl (G.2.1, 20, .inl (fun _ => 0))), (q3, .inl (G.2.1, 20, .inl (fun _ => 0))), (q4, .inl (G.2.1, 20, .inl (fun _ => 0))), (q5, .inl (G.2.1, 20, .inl (fun _ => 0)))] := hD
  refine lv_aload_n hx hb dX0_init_52 rfl (lv_at hl 0 rfl) ?_
  refine lv_bipush (v := iI 20) hx hb dX0_init_53 (by decide) ?_
  refine z_newi (N := 20) hx hb w_3 hK hP hD hS hA (by decide) (Nat.le_of_ble_eq_true rfl) (Nat.le_of_ble_eq_true rfl) dX0_init_55 (fun q6 H hP hD hS => ?_)
  have hP : va_P G.1 vwCl [(x, .inr (0, [.ref q0, .ref q1, .int 0, .ref q2, .ref q3, .ref q4, .ref q5, .null, .null, .int 0, .int 0, .int 0])), (q0, .inl (G.2.1, 6, .inl (fun _ => 0))), (q1, .inl (G.2.2.1, 6, .inl (fun _ => 0))), (q2, .inl (G.2.1, 20, .inl (fun _ => 0))), (q3, .inl (G.2.1, 20, .inl (fun _ => 0))), (q4, .inl (G.2.1, 20, .inl (fun _ => 0))), (q5, .inl (G.2.1, 20, .inl (fun _ => 0))), (q6, .inl (G.2.1, 20, .inl (fun _ => 0)))] H := hP
  have hD : va_D (iA x s.heap.size) [(x, .inr (0, [.ref q0, .ref q1, .int 0, .ref q2, .ref q3, .ref q4, .ref q5, .null, .null, .int 0, .int 0, .int 0])), (q0, .inl (G.2.1, 6, .inl (fun _ => 0))), (q1, .inl (G.2.2.1, 6, .inl (fun _ => 0))), (q2, .inl (G.2.1, 20, .inl (fun _ => 0))), (q3, .inl (G.2.1, 20, .inl (fun _ => 0))), (q4, .inl (G.2.1, 20, .inl (fun _ => 0))), (q5, .inl (G.2.1, 20, .inl (fun _ => 0))), (q6, .inl (G.2.1, 20, .inl (fun _ => 0)))] := hD
  refine va_putF (D := G.1) (ci := 0) (v := .ref q6) (ty := .array .int) (C := RX0) (T := TX0) (N := 12) hx hb hts hin0 tyX0 tyX0_ok nmX0 hown hK hP hD hS 0 rfl rfl 7 (by decide) w_11 (fun _ h9 => h9) rfl hin rfl (by decide +kernel) rfl rfl (Nat.le_of_ble_eq_true rfl) dX0_init_57 (fun H locs hP hD hS => ?_)
  have hP : va_P G.1 vwCl [(x, .inr (0, [.ref q0, .ref q1, .int 0, .ref q2, .ref q3, .ref q4, .ref q5, .ref q6, .null, .int 0, .int 0, .int 0])), (q0, .inl (G.2.1, 6, .inl (fun _ => 0))), (q1, .inl (G.2.2.1, 6, .inl (fun _ => 0))), (q2, .inl (G.2.1, 20, .inl (fun _ => 0))), (q3, .inl (G.2.1, 20, .inl (fun _ => 0))), (q4, .inl (G.2.1, 20, .inl (fun _ => 0))), (q5, .inl (G.2.1, 20, .inl (fun _ => 0))), (q6, .inl (G.2.1, 20, .inl (fun _ => 0)))] H := hP
  have hD : va_D (iA x s.heap.size) [(x, .inr (0, [.ref q0, .ref q1, .int 0, .ref q2, .ref q3, .ref q4, .ref q5, .ref q6, .null, .int 0, .int 0, .int 0])), (q0, .inl (G.2.1, 6, .inl (fun _ => 0))), (q1, .inl (G.2.2.1, 6, .inl (fun _ => 0))), (q2, .inl (G.2.1, 20, .inl (fun _ => 0))), (q3, .inl (G.2.1, 20, .inl (fun _ => 0))), (q4, .inl (G.2.1, 20, .inl (fun _ => 0))), (q5, .inl (G.2.1, 20, .inl (fun _ => 0))), (q6, .inl (G.2.1, 20, .inl (fun _ => 0)))] := hD
  refine lv_aload_n hx hb dX0_init_60 rfl (lv_at hl 0 rfl) ?_
  refine lv_bipush (v := iI 20) hx hb dX0_init_61 (by decide) ?_
  refine z_newi (N := 20) hx hb w_3 hK hP hD hS hA (by decide) (Nat.le_of_ble_eq_true rfl) (Nat.le_of_ble_eq_true rfl) dX0_init_63 (fun q7 H hP hD hS => ?_)
  have hP : va_P G.1 vwCl [(x, .inr (0, [.ref q0, .ref q1, .int 0, .ref q2, .ref q3, .ref q4, .ref q5, .ref q6, .null, .int 0, .int 0, .int 0])), (q0, .inl (G.2.1, 6, .inl (fun _ => 0))), (q1, .inl (G.2.2.1, 6, .inl (fun _ => 0))), (q2, .inl (G.2.1, 20, .inl (fun _ => 0))), (q3, .inl (G.2.1, 20, .inl (fun _ => 0))), (q4, .inl (G.2.1, 20, .inl (fun _ => 0))), (q5, .inl (G.2.1, 20, .inl (fun _ => 0))), (q6, .inl (G.2.1, 20, .inl (fun _ => 0))), (q7, .inl (G.2.1, 20, .inl (fun _ => 0)))] H := hP
  have hD : va_D (iA x s.heap.size) [(x, .inr (0, [.ref q0, .ref q1, .int 0, .ref q2, .ref q3, .ref q4, .ref q5, .ref q6, .null, .int 0, .int 0, .int 0])), (q0, .inl (G.2.1, 6, .inl (fun _ => 0))), (q1, .inl (G.2.2.1, 6, .inl (fun _ => 0))), (q2, .inl (G.2.1, 20, .inl (fun _ => 0))), (q3, .inl (G.2.1, 20, .inl (fun _ => 0))), (q4, .inl (G.2.1, 20, .inl (fun _ => 0))), (q5, .inl (G.2.1, 20, .inl (fun _ => 0))), (q6, .inl (G.2.1, 20, .inl (fun _ => 0))), (q7, .inl (G.2.1, 20, .inl (fun _ => 0)))] := hD
  refine va_putF (D := G.1) (ci := 0) (v := .ref q7) (ty := .array .int) (C := RX0) (T := TX0) (N := 12) hx hb hts hin0 tyX0 tyX0_ok nmX0 hown hK hP hD hS 0 rfl rfl 8 (by decide) w_12 (fun _ h9 => h9) rfl hin rfl (by decide +kernel) rfl rfl (Nat.le_of_ble_eq_true rfl) dX0_init_65 (fun H locs hP hD hS => ?_)
  have hP : va_P G.1 vwCl [(x, .inr (0, [.ref q0, .ref q1, .int 0, .ref q2, .ref q3, .ref q4, .ref q5, .ref q6, .ref q7, .int 0, .int 0, .int 0])), (q0, .inl (G.2.1, 6, .inl (fun _ => 0))), (q1, .inl (G.2.2.1, 6, .inl (fun _ => 0))), (q2, .inl (G.2.1, 20, .inl (fun _ => 0))), (q3, .inl (G.2.1, 20, .inl (fun _ => 0))), (q4, .inl (G.2.1, 20, .inl (fun _ => 0))), (q5, .inl (G.2.1, 20, .inl (fun _ => 0))), (q6, .inl (G.2.1, 20, .inl (fun _ => 0))), (q7, .inl (G.2.1, 20, .inl (fun _ => 0)))] H := hP
  have hD : va_D (iA x s.heap.size) [(x, .inr (0, [.ref q0, .ref q1, .int 0, .ref q2, .ref q3, .ref q4, .ref q5, .ref q6, .ref q7, .int 0, .int 0, .int 0])), (q0, .inl (G.2.1, 6, .inl (fun _ => 0))), (q1, .inl (G.2.2.1, 6, .inl (fun _ => 0))), (q2, .inl (G.2.1, 20, .inl (fun _ => 0))), (q3, .inl (G.2.1, 20, .inl (fun _ => 0))), (q4, .inl (G.2.1, 20, .inl (fun _ => 0))), (q5, .inl (G.2.1, 20, .inl (fun _ => 0))), (q6, .inl (G.2.1, 20, .inl (fun _ => 0))), (q7, .inl (G.2.1, 20, .inl (fun _ => 0)))] := hD
  have hP : va_P G.1 vwCl (xW G x (fun j => if j = 0 then q0 else if j = 1 then q1 else if j = 2 then q2 else if j = 3 then q3 else if j = 4 then q4 else if j = 5 then q5 else if j = 6 then q6 else q7) σ0) H := hP
  have hD : va_D (iA x s.heap.size) (xW G x (fun j => if j = 0 then q0 else if j = 1 then q1 else if j = 2 then q2 else if j = 3 then q3 else if j = 4 then q4 else if j = 5 then q5 else if j = 6 then q6 else q7) σ0) := hD
  exact W.vret hx hb hr (fun t ht hW => ⟨⟨(fun j => if j = 0 then q0 else if j = 1 then q1 else if j = 2 then q2 else if j = 3 then q3 else if j = 4 then q4 else if j = 5 then q5 else if j = 6 then q6 else q7), rfl, trivial, by show va_P _ _ _ t.heap; rw [ht]; exact hP, hD⟩, hS.F ht⟩) hS.2.2 dX0_init_68
set_option maxHeartbeats 4000000 in
set_option maxRecDepth 100000 in
theorem c_X1_init (l : Launch) (G : zG) (x : Nat) (sz : Nat) : Met l yX1_init wsX1_init ({ frames := 1, cells := 2, slots := 0, locals := 12 } : Room) (va_Pc [.ref x] (fun U => U.heap.size = sz ∧ va_P G.1 vwCl [(x, .inr (1, [.null, .null, .int 0, .int 0]))] U.heap ∧ zK G U ∧ va_D (fun _ => True) [(x, .inr (1, [.null, .null, .int 0, .int 0]))] ∧ zO U)) (va_Qv (fun (_ : Nat × Nat) => True) (fun u t => va_P G.1 vwCl (uW G x u.1 u.2 (fun _ => 0) (fun _ => 0) σ0) t.heap ∧ va_D (iA x sz) (uW G x u.1 u.2 (fun _ => 0) (fun _ => 0) σ0)) (iA x sz)) 2 0 (iA x sz) := by
  refine Met.ofW (cc := cX1_init) (maxL := 1) (ret := none) (by decide) rfl ?_
  intro pp ee s m args below meth c s₁ B9 hml hv
  obtain ⟨rfl, hsz, hP, hK, hD0, hO⟩ := hv
  subst hsz
  have hx := B9.exec
  have hb := B9.bytes
  have hr := B9.returns
  have hts := atoms_spec (ws := wsX1_init) B9.pre
  have hown : s.vm.findClass RX1 = some m.cls := findClass_of_methodNamed B9.named
  have hlocks := B9.notSynchronized
  have hin0 : ∀ w ∈ wsX10, w ∈ wsX1_init := by decide +kernel
  have w_0 := hts (.methodLink RX1 1 objectInit) (by decide +kernel)
  have w_1 := hts (.instanceMethod objectInit) (by decide +kernel)
  have w_2 := hts (.code objectInit ⟨#[0xb1]⟩ 1 none) (by decide +kernel)
  have w_3 := hts (.classLink RX1 7 "[I") (by decide +kernel)
  have w_4 := hts (.fieldLink RX1 9 "ApologyLedgerLaw$Sim" "persons" "[[I") (by decide +kernel)
  have w_5 := hts (.fieldLink RX1 15 "ApologyLedgerLaw$Sim" "slights" "[[I") (by decide +kernel)
  have hD : va_D (iA x s.heap.size) [(x, .inr (1, [.null, .null, .int 0, .int 0]))] := hD0.weaken fun k q hk _ => Or.inl (by have := List.mem_of_getElem? hk; rw [List.mem_singleton] at this; rw [this])
  have hA : ∀ q : Nat, s.heap.size ≤ q → iA x s.heap.size q := fun q h => Or.inr h
  have hS : va_S (iA x s.heap.size) s.heap s.heap [] := va_S.rf
  have hl := lv_entry ([.ref x]) (n := 1) (Nat.le_of_ble_eq_true rfl)
  rw [lg_entry_eq]
  generalize (lg_sl ([.ref x]) ++ List.replicate (1 - (lg_sl ([.ref x])).length) Slot.unset).toArray = ls at hl ⊢
  have hl : lv_has ls 1 [(0, .ref x)] := hl
  refine lv_aload_n hx hb dX1_init_0 rfl (lv_at hl 0 rfl) ?_
  refine W.objInit hx hb hown w_0 w_1 w_2 rfl (by rw [hml]; exact hl.1) rfl dX1_init_1 (Nat.le_of_ble_eq_true rfl) (Nat.le_of_ble_eq_true rfl) ?_
  refine W.eq (g2 := F0 m 4 ls []) rfl ?_
  refine lv_aload_n hx hb dX1_init_4 rfl (lv_at hl 0 rfl) ?_
  refine lv_iconst (v := iI ((0 : Nat) : Int)) hx hb dX1_init_5 rfl ?_
  refine u_anew (N := 0) hx hb hown w_3 hO hK hP hD hS hA (by decide) (Nat.le_of_ble_eq_true rfl) (Nat.le_of_ble_eq_true rfl) dX1_init_6 (fun q0 H hP hD hS _ _ => ?_)
  have hP : va_P G.1 vwCl [(x, .inr (1, [.null, .null, .int 0, .int 0])), (q0, .inl (G.2.2.2, 0, .inr (.inr (.inr (.inr (fun _ => none))))))] H := hP
  have hD : va_D (iA x s.heap.size) [(x, .inr (1, [.null, .null, .int 0, .int 0])), (q0, .inl (G.2.2.2, 0, .inr (.inr (.inr (.inr (fun _ => none))))))] := hD
  refine u_putq hx hb hts hin0 hown hK hP hD hS 0 rfl 0 (by decide) w_4 rfl rfl (by decide +kernel) (Nat.le_of_ble_eq_true rfl) rfl dX1_init_9 (fun H locs hP hD hS => ?_)
  have hP : va_P G.1 vwCl [(x, .inr (1, [.ref q0, .null, .int 0, .int 0])), (q0, .inl (G.2.2.2, 0, .inr (.inr (.inr (.inr (fun _ => none))))))] H := hP
  have hD : va_D (iA x s.heap.size) [(x, .inr (1, [.ref q0, .null, .int 0, .int 0])), (q0, .inl (G.2.2.2, 0, .inr (.inr (.inr (.inr (fun _ => none))))))] := hD
  refine lv_aload_n hx hb dX1_init_12 rfl (lv_at hl 0 rfl) ?_
  refine lv_iconst (v := iI ((0 : Nat) : Int)) hx hb dX1_init_13 rfl ?_
  refine u_anew (N := 0) hx hb hown w_3 hO hK hP hD hS hA (by decide) (Nat.le_of_ble_eq_true rfl) (Nat.le_of_ble_eq_true rfl) dX1_init_14 (fun q1 H hP hD hS _ _ => ?_)
  have hP : va_P G.1 vwCl [(x, .inr (1, [.ref q0, .null, .int 0, .int 0])), (q0, .inl (G.2.2.2, 0, .inr (.inr (.inr (.inr (fun _ => none)))))), (q1, .inl (G.2.2.2, 0, .inr (.inr (.inr (.inr (fun _ => none))))))] H := hP
  have hD : va_D (iA x s.heap.size) [(x, .inr (1, [.ref q0, .null, .int 0, .int 0])), (q0, .inl (G.2.2.2, 0, .inr (.inr (.inr (.inr (fun _ => none)))))), (q1, .inl (G.2.2.2, 0, .inr (.inr (.inr (.inr (fun _ => none))))))] := hD
  refine u_putq hx hb hts hin0 hown hK hP hD hS 0 rfl 1 (by decide) w_5 rfl rfl (by decide +kernel) (Nat.le_of_ble_eq_true rfl) rfl dX1_init_17 (fun H locs hP hD hS => ?_)
  have hP : va_P G.1 vwCl [(x, .inr (1, [.ref q0, .ref q1, .int 0, .int 0])), (q0, .inl (G.2.2.2, 0, .inr (.inr (.inr (.inr (fun _ => none)))))), (q1, .inl (G.2.2.2, 0, .inr (.inr (.inr (.inr (fun _ => none))))))] H := hP
  have hD : va_D (iA x s.heap.size) [(x, .inr (1, [.ref q0, .ref q1, .int 0, .int 0])), (q0, .inl (G.2.2.2, 0, .inr (.inr (.inr (.inr (fun _ => none)))))), (q1, .inl (G.2.2.2, 0, .inr (.inr (.inr (.inr (fun _ => none))))))] := hD
  rw [orf_0 (r := fun _ => 0)] at hP hD
  have hP : va_P G.1 vwCl (uW G x q0 q1 (fun _ => 0) (fun _ => 0) σ0) H := hP
  have hD : va_D (iA x s.heap.size) (uW G x q0 q1 (fun _ => 0) (fun _ => 0) σ0) := hD
  exact W.vret hx hb hr (fun t ht hW => ⟨⟨(q0, q1), rfl, trivial, by show va_P _ _ _ t.heap; rw [ht]; exact hP, hD⟩, hS.F ht⟩) hS.2.2 dX1_init_20
