/-! DAYS at once, as the reference lets them go by; and that both ways agree. -/
def mpL (σ : zS) (k : Nat) (d : Int) : Int := min d (30 - σ.2 7 k)
def mpc (σ : zS) (k : Nat) (d : Int) : zS :=
  if σ.2 7 k + min d (30 - σ.2 7 k) < 30 then stA (stA (stA σ 6 k (σ.2 6 k + min d (30 - σ.2 7 k))) 7 k (σ.2 7 k + min d (30 - σ.2 7 k))) 4 k (lat σ k (min d (30 - σ.2 7 k)))
  else clo (stA (stA (stA σ 6 k (σ.2 6 k + min d (30 - σ.2 7 k))) 7 k (σ.2 7 k + min d (30 - σ.2 7 k))) 4 k (lat σ k (min d (30 - σ.2 7 k)))) k 2
def mpf (σ : zS) (d : Int) : Nat → zS × Int
  | 0 => (σ, 0)
  | k + 1 => if (mpf σ d k).1.2 5 k = 0 then (mpc (mpf σ d k).1 k d, (mpf σ d k).2 + if 30 ≤ (mpf σ d k).1.2 7 k + min d (30 - (mpf σ d k).1.2 7 k) then 1 else 0) else mpf σ d k
theorem mpf_s (σ : zS) (d : Int) (k : Nat) : mpf σ d (k + 1) = if (mpf σ d k).1.2 5 k = 0 then (mpc (mpf σ d k).1 k d, (mpf σ d k).2 + if 30 ≤ (mpf σ d k).1.2 7 k + min d (30 - (mpf σ d k).1.2 7 k) then 1 else 0) else mpf σ d k := rfl
theorem mpc_1 (σ : zS) (k : Nat) (d : Int) : (mpc σ k d).1 = σ.1 := by unfold mpc clo; split <;> rfl
theorem mpc_ne {σ : zS} {k k2 : Nat} {d : Int} (j : Nat) (h : k2 ≠ k) : (mpc σ k d).2 j k2 = σ.2 j k2 := by unfold mpc clo; split <;> simp [stA, h]
theorem lat_col {σ τ : zS} {k : Nat} (h : ∀ j, τ.2 j k = σ.2 j k) (d : Int) : lat τ k d = lat σ k d := by
  unfold lat; rw [h 4, h 5, h 6, h 7]
theorem mpc_col {σ τ : zS} {k : Nat} {d : Int} (h : ∀ j, τ.2 j k = σ.2 j k) (j : Nat) : (mpc τ k d).2 j k = (mpc σ k d).2 j k := by
  unfold mpc clo
  rw [lat_col h, h 6, h 7]
  split <;> simp [stA, h]
theorem mpf_1 (σ : zS) (d : Int) : ∀ n : Nat, (mpf σ d n).1.1 = σ.1
  | 0 => rfl
  | n + 1 => by
    rw [mpf_s]
    split
    · show (mpc _ _ _).1 = _
      rw [mpc_1]; exact mpf_1 σ d n
    · exact mpf_1 σ d n
theorem mpf_n (σ : zS) (d : Int) (n : Nat) : (mpf σ d n).1.1 1 = σ.1 1 := by rw [mpf_1]
theorem mpf_k (σ : zS) (d : Int) : ∀ (n j k : Nat), n ≤ k → (mpf σ d n).1.2 j k = σ.2 j k
  | 0, _, _, _ => rfl
  | n + 1, j, k, h => by
    rw [mpf_s]
    split
    · show (mpc (mpf σ d n).1 n d).2 j k = _
      rw [mpc_ne j (by omega)]; exact mpf_k σ d n j k (by omega)
    · exact mpf_k σ d n j k (by omega)
theorem mpf_lt (σ : zS) (d : Int) : ∀ (n j k : Nat), k < n → (mpf σ d n).1.2 j k = if σ.2 5 k = 0 then (mpc σ k d).2 j k else σ.2 j k
  | 0, _, _, h => absurd h (Nat.not_lt_zero _)
  | n + 1, j, k, h => by
    rw [mpf_s]
    have e5 := mpf_k σ d n 5 n (Nat.le_refl n)
    by_cases hk : k = n
    · subst hk
      by_cases h5 : σ.2 5 k = 0
      · rw [if_pos (by rw [e5]; exact h5), if_pos h5]
        exact mpc_col (fun j => mpf_k σ d k j k (Nat.le_refl k)) j
      · rw [if_neg (by rw [e5]; exact h5), if_neg h5]
        exact mpf_k σ d k j k (Nat.le_refl k)
    · have ih := mpf_lt σ d n j k (by omega)
      split
      · show (mpc (mpf σ d n).1 n d).2 j k = _
        rw [mpc_ne j hk]; exact ih
      · exact ih
theorem mpf_c (σ : zS) (d : Int) : ∀ n : Nat, (mpf σ d n).2 = zs (fun k => if σ.2 5 k = 0 ∧ 30 ≤ σ.2 7 k + min d (30 - σ.2 7 k) then 1 else 0) n
  | 0 => rfl
  | n + 1 => by
    have ih := mpf_c σ d n
    rw [mpf_s, zs_s, ← ih, mpf_k σ d n 5 n (Nat.le_refl n), mpf_k σ d n 7 n (Nat.le_refl n)]
    by_cases h5 : σ.2 5 n = 0
    · rw [if_pos h5]
      show (mpf σ d n).2 + _ = _
      by_cases h7 : 30 ≤ σ.2 7 n + min d (30 - σ.2 7 n)
      · rw [if_pos h7, if_pos ⟨h5, h7⟩]
      · rw [if_neg h7, if_neg (fun q => h7 q.2)]
    · rw [if_neg h5, if_neg (fun q => h5 q.1)]; omega
theorem dyf_c (σ : zS) : ∀ n : Nat, (dyf σ n).2 = zs (fun k => if σ.2 5 k = 0 ∧ 30 ≤ σ.2 7 k + 1 then 1 else 0) n
  | 0 => rfl
  | n + 1 => by
    have ih := dyf_c σ n
    have e5 := dyf_k σ n 5 n (Nat.le_refl n)
    have e7 := dyf_k σ n 7 n (Nat.le_refl n)
    rw [dyf_s, zs_s, ← ih]
    by_cases h5 : σ.2 5 n = 0
    · rw [if_pos (by rw [e5]; exact h5)]
      show (dyf σ n).2 + _ = _
      have hb := bea_5 (dyf σ n).1 n
      rw [e5, e7] at hb
      by_cases h7 : 30 ≤ σ.2 7 n + 1
      · have hc : (bea (dyf σ n).1 n).2 5 n = 2 := by omega
        rw [if_pos hc, if_pos ⟨h5, h7⟩]
      · have hc : ¬ (bea (dyf σ n).1 n).2 5 n = 2 := by omega
        rw [if_neg hc, if_neg (fun q => h7 q.2)]
    · rw [if_neg (by rw [e5]; exact h5), if_neg (fun q => h5 q.1)]; omega
/-- rows of a column behind some days -/
theorem mpc_6 (σ : zS) (k : Nat) (d : Int) : (mpc σ k d).2 6 k = σ.2 6 k + min d (30 - σ.2 7 k) := by unfold mpc clo; split <;> simp [stA]
theorem mpc_7 (σ : zS) (k : Nat) (d : Int) : (mpc σ k d).2 7 k = σ.2 7 k + min d (30 - σ.2 7 k) := by unfold mpc clo; split <;> simp [stA]
theorem mpc_5 (σ : zS) (k : Nat) (d : Int) : (mpc σ k d).2 5 k = if σ.2 7 k + min d (30 - σ.2 7 k) < 30 then σ.2 5 k else 2 := by unfold mpc clo; split <;> simp [stA]
theorem mpc_4 (σ : zS) (k : Nat) (d : Int) : (mpc σ k d).2 4 k = if σ.2 7 k + min d (30 - σ.2 7 k) < 30 then lat σ k (min d (30 - σ.2 7 k)) else 0 := by unfold mpc clo; split <;> simp [stA]
theorem mpc_o {σ : zS} {k : Nat} {d : Int} {j : Nat} (h4 : j ≠ 4) (h5 : j ≠ 5) (h6 : j ≠ 6) (h7 : j ≠ 7) : (mpc σ k d).2 j k = σ.2 j k := by
  unfold mpc clo; split <;> simp [stA, h4, h5, h6, h7]
theorem bea_o {σ : zS} {k : Nat} {j : Nat} (h4 : j ≠ 4) (h5 : j ≠ 5) (h6 : j ≠ 6) (h7 : j ≠ 7) : (bea σ k).2 j k = σ.2 j k := by
  unfold bea clo; split <;> simp [stA, h4, h5, h6, h7]
theorem mpc_step {σ : zS} {k : Nat} (n : Nat) (hs : σ.2 5 k = 0) (h7 : 0 ≤ σ.2 7 k ∧ σ.2 7 k < 30) (h6 : 0 ≤ σ.2 6 k) (j : Nat) :
    (mpc σ k ((n + 1 : Nat) : Int)).2 j k = if (mpc σ k (n : Int)).2 5 k = 0 then (bea (mpc σ k (n : Int)) k).2 j k else (mpc σ k (n : Int)).2 j k := by
  have e5 := mpc_5 σ k (n : Int)
  have e6 := mpc_6 σ k (n : Int)
  have e7 := mpc_7 σ k (n : Int)
  have e4 := mpc_4 σ k (n : Int)
  by_cases hq : σ.2 7 k + (n : Int) < 30
  · have hL : min (n : Int) (30 - σ.2 7 k) = n := by omega
    rw [hL] at e4 e5 e6 e7
    rw [if_pos hq] at e4 e5
    rw [if_pos (by rw [e5]; exact hs)]
    have hL2 : min (((n + 1 : Nat) : Int)) (30 - σ.2 7 k) = (n : Int) + 1 := by omega
    by_cases j4 : j = 4
    · subst j4
      rw [mpc_4, hL2]
      rcases bea_4 (mpc σ k (n : Int)) k with g | g
      · rw [g.2, if_neg (by omega)]
      · rw [g.2, e4, e6, if_pos (by omega)]
        have hs1 := itg_step (σ.2 4 k) (σ.2 6 k) n h6
        rw [lat, if_pos (by omega), lat, if_pos (by omega), Int.add_assoc, hs1]
        rfl
    · by_cases j5 : j = 5
      · subst j5
        rw [mpc_5, hL2]
        rcases bea_5 (mpc σ k (n : Int)) k with g | g
        · rw [g.2, if_neg (by omega)]
        · rw [g.2, e5, if_pos (by omega)]
      · by_cases j6 : j = 6
        · subst j6; rw [mpc_6, bea_6, e6, hL2]; omega
        · by_cases j7 : j = 7
          · subst j7; rw [mpc_7, bea_7, e7, hL2]; omega
          · rw [mpc_o j4 j5 j6 j7, bea_o j4 j5 j6 j7, mpc_o j4 j5 j6 j7]
  · have hL : min (n : Int) (30 - σ.2 7 k) = 30 - σ.2 7 k := by omega
    have hL2 : min (((n + 1 : Nat) : Int)) (30 - σ.2 7 k) = 30 - σ.2 7 k := by omega
    rw [hL] at e5
    rw [if_neg (by omega)] at e5
    rw [if_neg (by rw [e5]; decide)]
    unfold mpc
    rw [hL, hL2]
theorem dyn_1 (σ : zS) : ∀ (n i : Nat), (dyn σ n).1.1 i = if i = 2 then σ.1 2 + n else σ.1 i
  | 0, i => by
    show σ.1 i = _
    split
    · rename_i h; subst h; rfl
    · rfl
  | n + 1, i => by
    show (day1 (dyn σ n).1).1.1 i = _
    rw [day1_1, dyn_1 σ n 2, dyn_1 σ n i]
    by_cases h : i = 2
    · subst h; simp; omega
    · simp [h]
theorem dyn_2 {B : Nat} {σ : zS} (hI : zI B σ) : ∀ (n j k : Nat), (dyn σ n).1.2 j k = if k < σ.1 1 ∧ σ.2 5 k = 0 then (mpc σ k (n : Int)).2 j k else σ.2 j k
  | 0, j, k => by
    show σ.2 j k = _
    by_cases h : k < σ.1 1 ∧ σ.2 5 k = 0
    · rw [if_pos h]
      have h7 := hI.r7 k
      have o7 := hI.o7 k h.2
      have hL : min ((0 : Nat) : Int) (30 - σ.2 7 k) = 0 := by omega
      have e4 : lat σ k 0 = σ.2 4 k := by
        rw [lat, if_pos (by omega)]; simp [itg]
      unfold mpc
      rw [hL, if_pos (by omega), e4]
      simp only [stA]
      split
      · rename_i q; rw [q.1]
      · split
        · rename_i q; rw [q.1]; omega
        · split
          · rename_i q; rw [q.1]; omega
          · rfl
    · rw [if_neg h]
  | n + 1, j, k => by
    show (day1 (dyn σ n).1).1.2 j k = _
    have e1 : (dyn σ n).1.1 1 = σ.1 1 := by rw [dyn_1]; rfl
    rw [day1_2, e1]
    by_cases h : k < σ.1 1 ∧ σ.2 5 k = 0
    · have hc : ∀ j, (dyn σ n).1.2 j k = (mpc σ k (n : Int)).2 j k := fun j => by rw [dyn_2 hI n j k, if_pos h]
      rw [if_pos h, mpc_step n h.2 ⟨(hI.r7 k).1, hI.o7 k h.2⟩ (hI.r6 k).1 j, hc 5]
      by_cases h5 : (mpc σ k (n : Int)).2 5 k = 0
      · rw [if_pos ⟨h.1, h5⟩, if_pos h5]
        exact bea_col hc j
      · rw [if_neg (fun q => h5 q.2), if_neg h5]
        exact hc j
    · rw [dyn_2 hI n 5 k, dyn_2 hI n j k, if_neg h, if_neg h, if_neg h, if_neg h]
theorem pass_1 {B : Nat} {σ : zS} (hI : zI B σ) (d : Nat) : (dyn σ d).1 = stS (mpf σ (d : Int) (σ.1 1)).1 2 ((mpf σ (d : Int) (σ.1 1)).1.1 2 + d) := by
  refine Prod.ext ?_ ?_
  · funext i
    rw [dyn_1]
    simp only [stS, mpf_1]
  · funext j k
    rw [dyn_2 hI d j k]
    show _ = (mpf σ (d : Int) (σ.1 1)).1.2 j k
    by_cases h : k < σ.1 1
    · rw [mpf_lt σ _ _ j k h]
      by_cases h5 : σ.2 5 k = 0
      · rw [if_pos ⟨h, h5⟩, if_pos h5]
      · rw [if_neg (fun q => h5 q.2), if_neg h5]
    · rw [mpf_k σ _ _ j k (by omega), if_neg (fun q => h q.1)]
theorem pass_2 {B : Nat} {σ : zS} (hI : zI B σ) : ∀ d : Nat, (dyn σ d).2 = (mpf σ (d : Int) (σ.1 1)).2
  | 0 => by
    rw [mpf_c]
    have h : zs (fun k => if σ.2 5 k = 0 ∧ 30 ≤ σ.2 7 k + min ((0 : Nat) : Int) (30 - σ.2 7 k) then 1 else 0) (σ.1 1) = zs (fun _ => 0) (σ.1 1) := zs_cong fun k _ => by
      (try dsimp only)
      have h7 := hI.r7 k
      have o7 := hI.o7 k
      by_cases h5 : σ.2 5 k = 0
      · have := o7 h5
        rw [if_neg (by omega)]
      · rw [if_neg (fun q => h5 q.1)]
    rw [h]
    have h0 : ∀ n, zs (fun _ => 0) n = 0 := fun n => by
      induction n with
      | zero => rfl
      | succ n ih => rw [zs_s, ih]; rfl
    rw [h0]; rfl
  | d + 1 => by
    have ih := pass_2 hI d
    have e1 : (dyn σ d).1.1 1 = σ.1 1 := by rw [dyn_1]; rfl
    show (dyn σ d).2 + (dyf (dyn σ d).1 ((dyn σ d).1.1 1)).2 = _
    rw [ih, mpf_c, mpf_c, dyf_c, e1, ← zs_add]
    refine zs_cong fun k hk => ?_
    (try dsimp only)
    have h7 := hI.r7 k
    by_cases h5 : σ.2 5 k = 0
    · have o7 := hI.o7 k h5
      have q5 : (dyn σ d).1.2 5 k = if σ.2 7 k + min (d : Int) (30 - σ.2 7 k) < 30 then σ.2 5 k else 2 := by rw [dyn_2 hI d 5 k, if_pos ⟨hk, h5⟩, mpc_5]
      have q7 : (dyn σ d).1.2 7 k = σ.2 7 k + min (d : Int) (30 - σ.2 7 k) := by rw [dyn_2 hI d 7 k, if_pos ⟨hk, h5⟩, mpc_7]
      rw [q5, q7]
      by_cases c1 : σ.2 7 k + (d : Int) < 30
      · rw [if_pos (show σ.2 7 k + min (d : Int) (30 - σ.2 7 k) < 30 by omega)]
        by_cases c2 : 30 ≤ σ.2 7 k + ((d : Int) + 1)
        · rw [if_neg (show ¬ (σ.2 5 k = 0 ∧ 30 ≤ σ.2 7 k + min (d : Int) (30 - σ.2 7 k)) by omega), if_pos (show σ.2 5 k = 0 ∧ 30 ≤ σ.2 7 k + min (d : Int) (30 - σ.2 7 k) + 1 by omega), if_pos (show σ.2 5 k = 0 ∧ 30 ≤ σ.2 7 k + min ((d + 1 : Nat) : Int) (30 - σ.2 7 k) by omega)]; rfl
        · rw [if_neg (show ¬ (σ.2 5 k = 0 ∧ 30 ≤ σ.2 7 k + min (d : Int) (30 - σ.2 7 k)) by omega), if_neg (show ¬ (σ.2 5 k = 0 ∧ 30 ≤ σ.2 7 k + min (d : Int) (30 - σ.2 7 k) + 1) by omega), if_neg (show ¬ (σ.2 5 k = 0 ∧ 30 ≤ σ.2 7 k + min ((d + 1 : Nat) : Int) (30 - σ.2 7 k)) by omega)]; rfl
      · rw [if_neg (show ¬ σ.2 7 k + min (d : Int) (30 - σ.2 7 k) < 30 by omega)]
        rw [if_pos (show σ.2 5 k = 0 ∧ 30 ≤ σ.2 7 k + min (d : Int) (30 - σ.2 7 k) by omega), if_neg (show ¬ ((2 : Int) = 0 ∧ 30 ≤ σ.2 7 k + min (d : Int) (30 - σ.2 7 k) + 1) by omega), if_pos (show σ.2 5 k = 0 ∧ 30 ≤ σ.2 7 k + min ((d + 1 : Nat) : Int) (30 - σ.2 7 k) by omega)]; rfl
    · have q5 : (dyn σ d).1.2 5 k = σ.2 5 k := by rw [dyn_2 hI d 5 k, if_neg (fun q => h5 q.2)]
      rw [q5, if_neg (fun q => h5 q.1), if_neg (fun q => h5 q.1), if_neg (fun q => h5 q.1)]; rfl
theorem pq_ne {B : Nat} {σ : zS} (hI : zI B σ) {i o : Nat} (hi : i < σ.1 1) (h : pq σ i o = 1) : o ≠ i := by
  intro e
  subst e
  have h1 := hI.r23 hi
  unfold pq at h
  split at h <;> omega
theorem wbs_or (σ : zS) (k : Nat) (w : Int) : wbs σ k w = 0 ∨ wbs σ k w = 1 := by unfold wbs; split <;> omega
theorem mea_n2 {B : Nat} {σ : zS} (hI : zI B σ) (h0 : cnt σ 0 ≠ 0) : vf_n64 (FP.ddiv (FP.i2d (iI (tot σ))) (FP.i2d (iI (cnt σ 0)))) := mea_nan hI (σ.1 1) (Nat.le_refl _) h0
