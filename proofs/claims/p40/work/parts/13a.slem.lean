/-! STATES that are one: what the law's own ledger writes, said as the ledger's words. -/
theorem stA_id {σ : zS} {j k : Nat} {v : Int} (h : σ.2 j k = v) : stA σ j k v = σ := by
  refine Prod.ext rfl (funext fun j2 => funext fun k2 => ?_)
  show (if j2 = j ∧ k2 = k then v else σ.2 j2 k2) = σ.2 j2 k2
  split
  · rename_i h2; rw [h2.1, h2.2, h]
  · rfl
def up4 (σ : zS) (k : Nat) (w s b q : Int) : zS := (σ.1, fun j k2 => if k2 = k then (if j = 4 then w else if j = 5 then s else if j = 6 then b else if j = 7 then q else σ.2 j k2) else σ.2 j k2)
theorem up4_b {σ : zS} {k : Nat} {b : Int} : stA σ 6 k b = up4 σ k (σ.2 4 k) (σ.2 5 k) b (σ.2 7 k) := by
  refine Prod.ext rfl (funext fun j => funext fun k2 => ?_)
  by_cases hk : k2 = k
  · subst hk
    by_cases h4 : j = 4
    · subst h4; simp [stA, up4]
    by_cases h5 : j = 5
    · subst h5; simp [stA, up4]
    by_cases h6 : j = 6
    · subst h6; simp [stA, up4]
    by_cases h7 : j = 7
    · subst h7; simp [stA, up4]
    · simp [stA, up4, h4, h5, h6, h7]
  · simp [stA, up4, hk]
theorem up4_4 {σ : zS} {k : Nat} {w s b q v : Int} : stA (up4 σ k w s b q) 4 k v = up4 σ k v s b q := by
  refine Prod.ext rfl (funext fun j => funext fun k2 => ?_)
  by_cases hk : k2 = k
  · subst hk
    by_cases h4 : j = 4
    · subst h4; simp [stA, up4]
    · simp [stA, up4, h4]
  · simp [stA, up4, hk]
theorem up4_5 {σ : zS} {k : Nat} {w s b q v : Int} : stA (up4 σ k w s b q) 5 k v = up4 σ k w v b q := by
  refine Prod.ext rfl (funext fun j => funext fun k2 => ?_)
  by_cases hk : k2 = k
  · subst hk
    by_cases h4 : j = 4
    · subst h4; simp [stA, up4]
    by_cases h5 : j = 5
    · subst h5; simp [stA, up4]
    · simp [stA, up4, h4, h5]
  · simp [stA, up4, hk]
theorem up4_7 {σ : zS} {k : Nat} {w s b q v : Int} : stA (up4 σ k w s b q) 7 k v = up4 σ k w s b v := by
  refine Prod.ext rfl (funext fun j => funext fun k2 => ?_)
  by_cases hk : k2 = k
  · subst hk
    by_cases h4 : j = 4
    · subst h4; simp [stA, up4]
    by_cases h5 : j = 5
    · subst h5; simp [stA, up4]
    by_cases h6 : j = 6
    · subst h6; simp [stA, up4]
    by_cases h7 : j = 7
    · subst h7; simp [stA, up4]
    · simp [stA, up4, h4, h5, h6, h7]
  · simp [stA, up4, hk]
theorem up4_cong {σ : zS} {k : Nat} {w s b q w' s' b' q' : Int} (hw : w = w') (hs : s = s') (hb : b = b') (hq : q = q') : up4 σ k w s b q = up4 σ k w' s' b' q' := by subst hw; subst hs; subst hb; subst hq; rfl
theorem clo_alt {σ : zS} {k : Nat} {v q : Int} : stA (stA (stA σ 4 k v) 4 k 0) 5 k q = clo σ k q := by
  refine Prod.ext rfl (funext fun j => funext fun k2 => ?_)
  by_cases hk : k2 = k
  · subst hk
    by_cases h4 : j = 4
    · subst h4; simp [stA, clo]
    by_cases h5 : j = 5
    · subst h5; simp [stA, clo]
    · simp [stA, clo, h4, h5]
  · simp [stA, clo, hk]
theorem clo_w0 {σ : zS} {k : Nat} {q : Int} (h : σ.2 4 k = 0) : clo σ k q = stA σ 5 k q := by
  unfold clo
  exact stA_id (by rw [stA_ne (by decide)]; exact h)
theorem sof_s {σ : zS} {i o : Nat} (hne : o ≠ i) (v : Int) (hv : v = min (σ.2 4 i) (σ.2 4 o)) :
    sof σ i o = (if σ.2 4 o - v = 0 then stA (if σ.2 4 i - v = 0 then stA (stA (stA σ 4 i (σ.2 4 i - v)) 4 o (σ.2 4 o - v)) 5 i 3 else stA (stA σ 4 i (σ.2 4 i - v)) 4 o (σ.2 4 o - v)) 5 o 3 else (if σ.2 4 i - v = 0 then stA (stA (stA σ 4 i (σ.2 4 i - v)) 4 o (σ.2 4 o - v)) 5 i 3 else stA (stA σ 4 i (σ.2 4 i - v)) 4 o (σ.2 4 o - v))) := by
  have hni : i ≠ o := fun q => hne q.symm
  have e1 : σ.2 4 i - v = 0 → clo (stA (stA σ 4 i (σ.2 4 i - v)) 4 o (σ.2 4 o - v)) i 3 = stA (stA (stA σ 4 i (σ.2 4 i - v)) 4 o (σ.2 4 o - v)) 5 i 3 := fun h => clo_w0 (by rw [stA_nk hni, stA_eq]; exact h)
  rw [sof_m hne v hv]
  by_cases h1 : σ.2 4 i - v = 0
  · rw [if_pos h1, if_pos h1, e1 h1]
    by_cases h2 : σ.2 4 o - v = 0
    · rw [if_pos h2, if_pos h2]
      exact clo_w0 (by rw [stA_ne (by decide), stA_eq]; exact h2)
    · rw [if_neg h2, if_neg h2]
  · rw [if_neg h1, if_neg h1]
    by_cases h2 : σ.2 4 o - v = 0
    · rw [if_pos h2, if_pos h2]
      exact clo_w0 (by rw [stA_eq]; exact h2)
    · rw [if_neg h2, if_neg h2]
theorem dyn_01 (σ : zS) : ∀ n : Nat, (dyn σ n).1.1 0 = σ.1 0 ∧ (dyn σ n).1.1 1 = σ.1 1
  | 0 => ⟨rfl, rfl⟩
  | n + 1 => by
    have h := dyn_01 σ n
    refine ⟨?_, ?_⟩
    · show (day1 (dyn σ n).1).1.1 0 = _
      rw [day1_1]; exact h.1
    · show (day1 (dyn σ n).1).1.1 1 = _
      rw [day1_1]; exact h.2
theorem dyf_01 (σ : zS) (n : Nat) : (dyf σ n).1.1 0 = σ.1 0 ∧ (dyf σ n).1.1 1 = σ.1 1 := by rw [dyf_1]; exact ⟨rfl, rfl⟩
