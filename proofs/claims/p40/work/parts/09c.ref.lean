/-! WORDS of the reference -/
def inn (z lo hi : Int) : Int := if lo ≤ z ∧ z ≤ hi then 1 else 0
theorem inn_or (z lo hi : Int) : (inn z lo hi = 1 ∧ lo ≤ z ∧ z ≤ hi) ∨ (inn z lo hi = 0 ∧ (z < lo ∨ hi < z)) := by unfold inn; split <;> omega
def opn (σ : zS) (k : Nat) : Int := if σ.2 5 k = 0 then 1 else 0
theorem opn_or (σ : zS) (k : Nat) : (opn σ k = 1 ∧ σ.2 5 k = 0) ∨ (opn σ k = 0 ∧ σ.2 5 k ≠ 0) := by unfold opn; split <;> omega
def scn (σ : zS) (k : Nat) (w : Int) : Int := if w + 2 * wit σ k < lea σ k then 1 else 0
theorem scn_or (σ : zS) (k : Nat) (w : Int) : (scn σ k w = 1 ∧ w + 2 * wit σ k < lea σ k) ∨ (scn σ k w = 0 ∧ ¬ w + 2 * wit σ k < lea σ k) := by unfold scn; split <;> omega
theorem pq_or (σ : zS) (i o : Nat) : pq σ i o = 0 ∨ pq σ i o = 1 := by unfold pq; split <;> omega
theorem zI.c4o {B : Nat} {σ : zS} (h : zI B σ) (k : Nat) : σ.2 5 k = 0 ∨ σ.2 4 k = 0 := by
  have h1 := h.c4 k
  by_cases h2 : σ.2 5 k = 0
  · exact Or.inl h2
  · exact Or.inr (h1 h2)
theorem lat_b0 {σ : zS} {k : Nat} (d : Int) (h4 : 0 ≤ σ.2 4 k ∧ σ.2 4 k ≤ 99) : 0 ≤ lat σ k d ∧ lat σ k d ≤ 99 := by
  have h := itg_bd ((σ.2 6 k + d) / 5 - σ.2 6 k / 5).toNat h4
  unfold lat; split <;> omega
theorem clo_1 {σ : zS} {k : Nat} {q : Int} : (clo σ k q).1 = σ.1 := rfl
theorem clo_4 {σ : zS} {k : Nat} {q : Int} : (clo σ k q).2 4 k = 0 := by simp [clo, stA]
theorem clo_5 {σ : zS} {k : Nat} {q : Int} : (clo σ k q).2 5 k = q := by simp [clo, stA]
theorem clo_o {σ : zS} {k k2 j : Nat} {q : Int} (h4 : j ≠ 4) (h5 : j ≠ 5) : (clo σ k q).2 j k2 = σ.2 j k2 := by simp [clo, stA, h4, h5]
theorem clo_ne {σ : zS} {k k2 j : Nat} {q : Int} (h : k2 ≠ k) : (clo σ k q).2 j k2 = σ.2 j k2 := by simp [clo, stA, h]
theorem clo_st {σ : zS} {k : Nat} {v q : Int} : clo (stA σ 4 k v) k q = clo σ k q := by
  refine Prod.ext rfl (funext fun j => funext fun k2 => ?_)
  by_cases hk : k2 = k
  · subst hk
    by_cases j4 : j = 4
    · subst j4; rw [clo_4, clo_4]
    · by_cases j5 : j = 5
      · subst j5; rw [clo_5, clo_5]
      · rw [clo_o j4 j5, clo_o j4 j5, stA_ne j4]
  · rw [clo_ne hk, clo_ne hk]; simp [stA, hk]
theorem lit_4 {σ : zS} {k : Nat} {d q : Int} : (lit σ k d q).2 4 k = if d < σ.2 4 k then σ.2 4 k - d else 0 := by
  unfold lit; split
  · exact stA_eq
  · exact clo_4
theorem lit_5 {σ : zS} {k : Nat} {d q : Int} : (lit σ k d q).2 5 k = if d < σ.2 4 k then σ.2 5 k else q := by
  unfold lit; split
  · rw [stA_ne (by decide)]
  · exact clo_5
theorem lit_o {σ : zS} {k k2 j : Nat} {d q : Int} (h4 : j ≠ 4) (h5 : j ≠ 5) : (lit σ k d q).2 j k2 = σ.2 j k2 := by
  unfold lit; split
  · rw [stA_ne h4]
  · exact clo_o h4 h5
/-- setting off, as the reference does it -/
theorem sof_m {σ : zS} {i o : Nat} (hne : o ≠ i) (v : Int) (hv : v = min (σ.2 4 i) (σ.2 4 o)) :
    sof σ i o = (if σ.2 4 o - v = 0 then clo (if σ.2 4 i - v = 0 then clo (stA (stA σ 4 i (σ.2 4 i - v)) 4 o (σ.2 4 o - v)) i 3 else stA (stA σ 4 i (σ.2 4 i - v)) 4 o (σ.2 4 o - v)) o 3 else (if σ.2 4 i - v = 0 then clo (stA (stA σ 4 i (σ.2 4 i - v)) 4 o (σ.2 4 o - v)) i 3 else stA (stA σ 4 i (σ.2 4 i - v)) 4 o (σ.2 4 o - v))) := by
  have hni : i ≠ o := fun q => hne q.symm
  obtain ⟨τ, hτ⟩ : ∃ τ, τ = stA (stA σ 4 i (σ.2 4 i - v)) 4 o (σ.2 4 o - v) := ⟨_, rfl⟩
  have t1 : τ.1 = σ.1 := by rw [hτ]; rfl
  have t4i : τ.2 4 i = σ.2 4 i - v := by rw [hτ, stA_nk hni, stA_eq]
  have t4o : τ.2 4 o = σ.2 4 o - v := by rw [hτ, stA_eq]
  have to : ∀ j k, j ≠ 4 → τ.2 j k = σ.2 j k := fun j k h => by rw [hτ, stA_ne h, stA_ne h]
  have tk : ∀ j k, k ≠ i → k ≠ o → τ.2 j k = σ.2 j k := fun j k h1 h2 => by rw [hτ]; simp [stA, h1, h2]
  obtain ⟨ρ, hρ⟩ : ∃ ρ, ρ = if σ.2 4 i - v = 0 then clo τ i 3 else τ := ⟨_, rfl⟩
  have r1 : ρ.1 = σ.1 := by rw [hρ]; split <;> exact t1
  have ro : ∀ j k, k ≠ i → ρ.2 j k = τ.2 j k := fun j k h => by
    rw [hρ]; split
    · exact clo_ne h
    · rfl
  have r4 : ρ.2 4 i = σ.2 4 i - v := by
    rw [hρ]; split
    · rename_i h; rw [clo_4, h]
    · exact t4i
  have r5 : ρ.2 5 i = if σ.2 4 i - v = 0 then 3 else σ.2 5 i := by
    rw [hρ]; split
    · exact clo_5
    · exact to 5 i (by decide)
  have rj : ∀ j k, j ≠ 4 → j ≠ 5 → ρ.2 j k = σ.2 j k := fun j k h4 h5 => by
    rw [hρ]; split
    · rw [clo_o h4 h5]; exact to j k h4
    · exact to j k h4
  rw [← hτ, ← hρ]
  have e4 : (lit σ i v 3).2 4 o = σ.2 4 o := lit_ne hne
  have e5 : (lit σ i v 3).2 5 o = σ.2 5 o := lit_ne hne
  unfold sof
  rw [← hv]
  refine Prod.ext ?_ (funext fun j => funext fun k => ?_)
  · rw [lit_n, lit_n]; split
    · rw [clo_1, r1]
    · exact r1.symm
  · by_cases j4 : j = 4
    · subst j4
      by_cases ho : k = o
      · subst ho
        rw [lit_4, e4]
        by_cases c : σ.2 4 k - v = 0
        · rw [if_pos c, clo_4, if_neg (by omega)]
        · rw [if_neg c, ro 4 k hne, t4o, if_pos (by omega)]
      · rw [lit_ne ho]
        have hf : (if σ.2 4 o - v = 0 then clo ρ o 3 else ρ).2 4 k = ρ.2 4 k := by
          split
          · exact clo_ne ho
          · rfl
        rw [hf]
        by_cases hi : k = i
        · subst hi
          rw [lit_4, r4]; split <;> omega
        · rw [lit_ne hi, ro 4 k hi, tk 4 k hi ho]
    · by_cases j5 : j = 5
      · subst j5
        by_cases ho : k = o
        · subst ho
          rw [lit_5, e4, e5]
          by_cases c : σ.2 4 k - v = 0
          · rw [if_pos c, clo_5, if_neg (by omega)]
          · rw [if_neg c, ro 5 k hne, to 5 k (by decide), if_pos (by omega)]
        · rw [lit_ne ho]
          have hf : (if σ.2 4 o - v = 0 then clo ρ o 3 else ρ).2 5 k = ρ.2 5 k := by
            split
            · exact clo_ne ho
            · rfl
          rw [hf]
          by_cases hi : k = i
          · subst hi
            rw [lit_5, r5]
            by_cases c : σ.2 4 k - v = 0
            · rw [if_pos c, if_neg (by omega)]
            · rw [if_neg c, if_pos (by omega)]
          · rw [lit_ne hi, ro 5 k hi, tk 5 k hi ho]
      · rw [lit_o j4 j5, lit_o j4 j5]
        split
        · rw [clo_o j4 j5, rj j k j4 j5]
        · rw [rj j k j4 j5]
theorem zI.r2x {B : Nat} {σ : zS} (h : zI B σ) (k : Nat) (hk : k < σ.1 1) : 0 ≤ σ.2 2 k ∧ σ.2 2 k < σ.1 0 := h.r2 hk
theorem zI.r3x {B : Nat} {σ : zS} (h : zI B σ) (k : Nat) (hk : k < σ.1 1) : 0 ≤ σ.2 3 k ∧ σ.2 3 k < σ.1 0 := h.r3 hk
