/-! DAYS: what one day does to a column, to all columns; what stays true. -/
theorem zs_le2 {f g : Nat → Int} : ∀ {n : Nat}, (∀ k, k < n → f k ≤ 99 * g k) → zs f n ≤ 99 * zs g n
  | 0, _ => by simp [zs]
  | n + 1, h => by
    have h1 := zs_le2 (n := n) (fun k hk => h k (by omega))
    have h2 := h n (by omega)
    rw [zs_s, zs_s]; omega
theorem mea_nan {B : Nat} {σ : zS} (hI : zI B σ) (j : Nat) (hj : j ≤ σ.1 1) (h0 : zs (fun k => if σ.2 5 k = 0 then 1 else 0) j ≠ 0) : vf_n64 (FP.ddiv (FP.i2d (iI (zs (fun k => if σ.2 5 k = 0 then σ.2 4 k else 0) j))) (FP.i2d (iI (zs (fun k => if σ.2 5 k = 0 then 1 else 0) j)))) := by
  have h1 := tot_bj hI hj
  have h2 := cnt_bj σ j
  have hn := hI.n
  have h9 : zs (fun k => if σ.2 5 k = 0 then σ.2 4 k else 0) j ≤ 99 * zs (fun k => if σ.2 5 k = 0 then 1 else 0) j := zs_le2 fun k _ => by
    have := hI.r4 k
    (try dsimp only); split <;> omega
  obtain ⟨u, hu⟩ : ∃ u : Nat, zs (fun k => if σ.2 5 k = 0 then σ.2 4 k else 0) j = (u : Int) := ⟨_, (Int.toNat_of_nonneg h1.1).symm⟩
  obtain ⟨v, hv⟩ : ∃ v : Nat, zs (fun k => if σ.2 5 k = 0 then 1 else 0) j = (v : Int) := ⟨_, (Int.toNat_of_nonneg h2.1).symm⟩
  rw [hu] at h1 h9 ⊢
  rw [hv] at h0 h2 h9 ⊢
  have key : ∀ n : Nat, 1 ≤ n → n ≤ 20 → (List.range (99 * n + 1)).all (mea_ok n) = true := by
    intro n h3 h4
    rcases (show n = 1 ∨ n = 2 ∨ n = 3 ∨ n = 4 ∨ n = 5 ∨ n = 6 ∨ n = 7 ∨ n = 8 ∨ n = 9 ∨ n = 10 ∨ n = 11 ∨ n = 12 ∨ n = 13 ∨ n = 14 ∨ n = 15 ∨ n = 16 ∨ n = 17 ∨ n = 18 ∨ n = 19 ∨ n = 20 by omega) with h | h | h | h | h | h | h | h | h | h | h | h | h | h | h | h | h | h | h | h <;> subst h
    · exact mea_1
    · exact mea_2
    · exact mea_3
    · exact mea_4
    · exact mea_5
    · exact mea_6
    · exact mea_7
    · exact mea_8
    · exact mea_9
    · exact mea_10
    · exact mea_11
    · exact mea_12
    · exact mea_13
    · exact mea_14
    · exact mea_15
    · exact mea_16
    · exact mea_17
    · exact mea_18
    · exact mea_19
    · exact mea_20
  have h3 := List.all_eq_true.mp (key v (by omega) (by omega)) u (List.mem_range.mpr (by omega))
  simp only [mea_ok, decide_eq_true_eq] at h3
  exact h3
theorem lit_n {σ : zS} {k : Nat} {d q : Int} : (lit σ k d q).1 = σ.1 := by unfold lit clo; split <;> rfl
theorem lit_ne {σ : zS} {k k2 j : Nat} {d q : Int} (h : k2 ≠ k) : (lit σ k d q).2 j k2 = σ.2 j k2 := by unfold lit clo; split <;> simp [stA, h]
theorem bea_n (σ : zS) (k : Nat) : (bea σ k).1 = σ.1 := by unfold bea clo; split <;> rfl
theorem bea_ne {σ : zS} {k k2 : Nat} (j : Nat) (h : k2 ≠ k) : (bea σ k).2 j k2 = σ.2 j k2 := by unfold bea clo; split <;> simp [stA, h]
theorem bea_lo {σ : zS} {k k2 : Nat} (j : Nat) (h : j < 4) : (bea σ k).2 j k2 = σ.2 j k2 := by
  have h4 : j ≠ 4 := by omega
  have h5 : j ≠ 5 := by omega
  have h6 : j ≠ 6 := by omega
  have h7 : j ≠ 7 := by omega
  unfold bea clo; split <;> simp [stA, h4, h5, h6, h7]
theorem bea_5 (σ : zS) (k : Nat) : (30 ≤ σ.2 7 k + 1 ∧ (bea σ k).2 5 k = 2) ∨ (¬ 30 ≤ σ.2 7 k + 1 ∧ (bea σ k).2 5 k = σ.2 5 k) := by
  by_cases h : 30 ≤ σ.2 7 k + 1
  · refine Or.inl ⟨h, ?_⟩
    unfold bea clo; rw [if_pos h]; simp [stA]
  · refine Or.inr ⟨h, ?_⟩
    unfold bea; rw [if_neg h]; simp [stA]
theorem bea_4 (σ : zS) (k : Nat) : (30 ≤ σ.2 7 k + 1 ∧ (bea σ k).2 4 k = 0) ∨ (¬ 30 ≤ σ.2 7 k + 1 ∧ (bea σ k).2 4 k = wwb (σ.2 4 k) (σ.2 6 k + 1)) := by
  by_cases h : 30 ≤ σ.2 7 k + 1
  · refine Or.inl ⟨h, ?_⟩
    unfold bea clo; rw [if_pos h]; simp [stA]
  · refine Or.inr ⟨h, ?_⟩
    unfold bea; rw [if_neg h]; simp [stA]
theorem bea_6 (σ : zS) (k : Nat) : (bea σ k).2 6 k = σ.2 6 k + 1 := by unfold bea clo; split <;> simp [stA]
theorem bea_7 (σ : zS) (k : Nat) : (bea σ k).2 7 k = σ.2 7 k + 1 := by unfold bea clo; split <;> simp [stA]
/-- a column alone decides what a day makes of it -/
theorem bea_col {σ τ : zS} {k : Nat} (h : ∀ j, τ.2 j k = σ.2 j k) (j : Nat) : (bea τ k).2 j k = (bea σ k).2 j k := by
  have e4 := h 4
  have e5 := h 5
  have e6 := h 6
  have e7 := h 7
  unfold bea clo
  rw [e7, e4, e6]
  split <;> simp [stA, h]
theorem dyf_s (σ : zS) (k : Nat) : dyf σ (k + 1) = if (dyf σ k).1.2 5 k = 0 then (bea (dyf σ k).1 k, (dyf σ k).2 + if (bea (dyf σ k).1 k).2 5 k = 2 then 1 else 0) else dyf σ k := rfl
theorem dyf_1 (σ : zS) : ∀ n : Nat, (dyf σ n).1.1 = σ.1
  | 0 => rfl
  | n + 1 => by
    rw [dyf_s]
    split
    · rw [bea_n]; exact dyf_1 σ n
    · exact dyf_1 σ n
theorem dyf_n (σ : zS) (n : Nat) : (dyf σ n).1.1 1 = σ.1 1 := by rw [dyf_1]
theorem dyf_k (σ : zS) : ∀ (n j k : Nat), n ≤ k → (dyf σ n).1.2 j k = σ.2 j k
  | 0, _, _, _ => rfl
  | n + 1, j, k, h => by
    rw [dyf_s]
    split
    · show (bea (dyf σ n).1 n).2 j k = _
      rw [bea_ne j (by omega)]; exact dyf_k σ n j k (by omega)
    · exact dyf_k σ n j k (by omega)
theorem dyf_lt (σ : zS) : ∀ (n j k : Nat), k < n → (dyf σ n).1.2 j k = if σ.2 5 k = 0 then (bea σ k).2 j k else σ.2 j k
  | 0, _, _, h => absurd h (Nat.not_lt_zero _)
  | n + 1, j, k, h => by
    rw [dyf_s]
    have e5 := dyf_k σ n 5 n (Nat.le_refl n)
    by_cases hk : k = n
    · subst hk
      by_cases h5 : σ.2 5 k = 0
      · rw [if_pos (by rw [e5]; exact h5), if_pos h5]
        exact bea_col (fun j => dyf_k σ k j k (Nat.le_refl k)) j
      · rw [if_neg (by rw [e5]; exact h5), if_neg h5]
        exact dyf_k σ k j k (Nat.le_refl k)
    · have ih := dyf_lt σ n j k (by omega)
      split
      · show (bea (dyf σ n).1 n).2 j k = _
        rw [bea_ne j hk]; exact ih
      · exact ih
theorem day1_1 (σ : zS) (i : Nat) : (day1 σ).1.1 i = if i = 2 then σ.1 2 + 1 else σ.1 i := by
  show (stS (dyf σ (σ.1 1)).1 2 _).1 i = _
  simp only [stS, dyf_1]
theorem day1_2 (σ : zS) (j k : Nat) : (day1 σ).1.2 j k = if k < σ.1 1 ∧ σ.2 5 k = 0 then (bea σ k).2 j k else σ.2 j k := by
  show (dyf σ (σ.1 1)).1.2 j k = _
  by_cases h : k < σ.1 1
  · rw [dyf_lt σ _ j k h]
    by_cases h5 : σ.2 5 k = 0
    · rw [if_pos h5, if_pos ⟨h, h5⟩]
    · rw [if_neg h5, if_neg (fun q => h5 q.2)]
  · rw [dyf_k σ _ j k (by omega), if_neg (fun q => h q.1)]
theorem day1_zI {B : Nat} {σ : zS} (hI : zI B σ) (hB : B + 1 ≤ 100000) : zI (B + 1) (day1 σ).1 := by
  have hn := hI.n
  have hb := hI.b
  have e0 : (day1 σ).1.1 0 = σ.1 0 := day1_1 σ 0
  have e1 : (day1 σ).1.1 1 = σ.1 1 := day1_1 σ 1
  have e2 : (day1 σ).1.1 2 = σ.1 2 + 1 := day1_1 σ 2
  have e3 : (day1 σ).1.1 3 = σ.1 3 := day1_1 σ 3
  have lo : ∀ j, j < 4 → ∀ k, (day1 σ).1.2 j k = σ.2 j k := fun j hj k => by
    rw [day1_2]; split
    · exact bea_lo j hj
    · rfl
  refine ⟨by omega, by omega, fun k => ?_, fun k => ?_, fun k hk => ?_, fun k => ?_, fun k hk => ?_, fun k hk => ?_⟩
  · rw [lo 0 (by omega)]; exact hI.r0 k
  · rw [lo 1 (by omega)]; exact hI.r1 k
  · rw [e1] at hk
    rw [lo 2 (by omega), lo 3 (by omega), e0]
    exact ⟨hI.r2 hk, hI.r3 hk, hI.r23 hk⟩
  · have h4 := hI.r4 k
    have h5 := hI.r5 k
    have h6 := hI.r6 k
    have h7 := hI.r7 k
    have h8 := hI.c4 k
    have h9 := hI.o7 k
    rw [day1_2, day1_2, day1_2, day1_2]
    by_cases h : k < σ.1 1 ∧ σ.2 5 k = 0
    · rw [if_pos h, if_pos h, if_pos h, if_pos h]
      have g6 := bea_6 σ k
      have g7 := bea_7 σ k
      have hw := wwb_bd (σ.2 4 k) (σ.2 6 k + 1) h4
      have h90 := h9 h.2
      have h0 := h.2
      rcases bea_4 σ k with g4 | g4 <;> rcases bea_5 σ k with g5 | g5 <;> omega
    · rw [if_neg h, if_neg h, if_neg h, if_neg h]
      refine ⟨h4, h5, ⟨h6.1, by omega⟩, h7, h8, h9⟩
  · rw [e1] at hk
    rw [day1_2, day1_2]
    by_cases h : σ.2 5 k = 0
    · rw [if_pos ⟨hk, h⟩, if_pos ⟨hk, h⟩]
      have h1 := hI.o4 hk h
      have h4 := hI.r4 k
      intro q
      rcases bea_5 σ k with g5 | g5
      · omega
      · rcases bea_4 σ k with g4 | g4
        · omega
        · rw [g4.2]; unfold wwb; split <;> omega
    · rw [if_neg (fun q => h q.2), if_neg (fun q => h q.2)]
      intro q; exact absurd q h
  · rw [e1] at hk
    rw [day1_2, day1_2, day1_2, if_neg (fun q => absurd q.1 (by omega)), if_neg (fun q => absurd q.1 (by omega)), if_neg (fun q => absurd q.1 (by omega))]
    exact hI.nw hk
theorem dyn_zI {B : Nat} {σ : zS} (hI : zI B σ) : ∀ j : Nat, B + j ≤ 100000 → zI (B + j) (dyn σ j).1
  | 0, _ => hI
  | j + 1, h => day1_zI (dyn_zI hI j (by omega)) (by omega)
