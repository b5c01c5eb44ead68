/-! SOMETHING DONE TO BOTH: what it needs. -/
abbrev zU : Type := zS × Nat × Nat × (Nat → Nat) × (Nat → Nat)
def jU (G : zG) (x : Nat) (a : Nat → Nat) (y : Nat) (u : zU) : va_W := xW G x a u.1 ++ uW G y u.2.1 u.2.2.1 u.2.2.2.1 u.2.2.2.2 u.1
abbrev wJ (G : zG) (x : Nat) (a : Nat → Nat) (y P S : Nat) (rp rs : Nat → Nat) (σ : zS) (sz : Nat) : State → Prop := fun U => U.heap.size = sz ∧ va_P G.1 vwCl (xW G x a σ ++ uW G y P S rp rs σ) U.heap ∧ zK G U ∧ va_D (fun _ => True) (xW G x a σ ++ uW G y P S rp rs σ) ∧ zO U ∧ zE (va_A (xW G x a σ ++ uW G y P S rp rs σ) sz) U U.heap
theorem preWJ {A : Nat → Prop} {G : zG} {x : Nat} {a : Nat → Nat} {y P S : Nat} {rp rs : Nat → Nat} {σ : zS} {s : State} {H : Heap} {As : List Value} (hK : zK G s) (hP : va_P G.1 vwCl (xW G x a σ ++ uW G y P S rp rs σ) H) (hD : va_D A (xW G x a σ ++ uW G y P S rp rs σ)) (hO : zO s) (hE : zE (va_A (xW G x a σ ++ uW G y P S rp rs σ) H.size) s H) : PreS s H (va_Pc As (wJ G x a y P S rp rs σ H.size)) As :=
  ⟨fun _ _ _ _ q => ⟨q.1, q.2.1, q.2.2.1, zK.call q.2.2.2.1, q.2.2.2.2.1, zO.call q.2.2.2.2.2.1, zE.call q.2.2.2.2.2.2⟩, fun U hU hW => ⟨rfl, by rw [hU], by rw [hU]; exact hP, va_K.moved hW.alike hK, hD.weaken (fun _ _ _ _ => trivial), hO.moved hW.alike, by rw [hU]; exact hE.moved hW⟩⟩
theorem preWith {G : zG} {ws : va_W} {s : State} {H : Heap} {As : List Value} (hK : zK G s) (hP : va_P G.1 vwCl ws H) (hO : zO s) : PreS s H (va_Pc As (fun U => U.heap.size = H.size ∧ va_P G.1 vwCl ws U.heap ∧ zK G U ∧ zO U)) As :=
  ⟨fun _ _ _ _ q => ⟨q.1, q.2.1, q.2.2.1, zK.call q.2.2.2.1, zO.call q.2.2.2.2⟩, fun U hU hW => ⟨rfl, by rw [hU], by rw [hU]; exact hP, va_K.moved hW.alike hK, hO.moved hW.alike⟩⟩
theorem oth (p b n : Int) (h : 0 ≤ p ∧ p < n ∧ 0 ≤ b ∧ b < n - 1) : 0 ≤ (p + 1 + b) % n ∧ (p + 1 + b) % n < n ∧ (p + 1 + b) % n ≠ p := by
  by_cases c : p + 1 + b < n
  · rw [Int.emod_eq_of_lt (by omega) c]; omega
  · have e : (p + 1 + b) % n = p + 1 + b - n := by
      rw [← Int.sub_emod_right]
      exact Int.emod_eq_of_lt (by omega) (by omega)
    rw [e]; omega
theorem pq_use {σ : zS} {i o : Nat} (h : ¬ pq σ i o = 0) : σ.2 5 i = 0 ∧ σ.2 5 o = 0 ∧ agn σ i o = 1 := by
  have h1 := agn_bd σ i o
  rw [pq_agn] at h
  split at h
  · rename_i h2; exact ⟨h2.1, h2.2, by omega⟩
  · exact absurd rfl h
theorem pq_no {σ : zS} {i o : Nat} (h : pq σ i o = 0) : σ.2 5 i ≠ 0 ∨ (σ.2 5 i = 0 ∧ σ.2 5 o ≠ 0) ∨ (σ.2 5 i = 0 ∧ σ.2 5 o = 0 ∧ agn σ i o = 0) := by
  by_cases h1 : σ.2 5 i = 0
  · by_cases h2 : σ.2 5 o = 0
    · rw [pq_agn, if_pos ⟨h1, h2⟩] at h
      exact Or.inr (Or.inr ⟨h1, h2, h⟩)
    · exact Or.inr (Or.inl ⟨h1, h2⟩)
  · exact Or.inl h1
theorem vA_in {A : Nat → Prop} {ws : va_W} {sz sz' q : Nat} (hD : va_D A ws) (hA : ∀ q, sz ≤ q → A q) (hz : sz ≤ sz') (h : va_A ws sz' q) : A q := by
  rcases h with ⟨k, e, h⟩ | h
  · exact hD.2 k (q, e) h
  · exact hA q (Nat.le_trans hz h)
theorem day_b (σ : zS) : 0 ≤ (day1 σ).2 ∧ (day1 σ).2 ≤ σ.1 1 := by
  rw [day_cnt]
  exact zs_bd1 (σ.1 1) (fun k => by (try dsimp only); split <;> omega)
theorem dyn_b {σ : zS} (h : σ.1 1 ≤ 20) : ∀ n : Nat, 0 ≤ (dyn σ n).2 ∧ (dyn σ n).2 ≤ 20 * n
  | 0 => ⟨Int.le_refl 0, Int.le_refl 0⟩
  | n + 1 => by
    have h1 := dyn_b h n
    have h2 := day_b (dyn σ n).1
    have h3 := (dyn_01 σ n).2
    show 0 ≤ (dyn σ n).2 + (day1 (dyn σ n).1).2 ∧ (dyn σ n).2 + (day1 (dyn σ n).1).2 ≤ _
    omega
