/-! THE LAW'S OWN ARITHMETIC. -/
theorem arg_max (P : Nat → Prop) [DecidablePred P] (f : Nat → Int) : ∀ (n k : Nat), k < n → P k → arg P f n ≠ -1 ∧ f k ≤ f (arg P f n).toNat
  | 0, _, h, _ => absurd h (Nat.not_lt_zero _)
  | n + 1, k, hk, hP => by
    have hb := arg_bd P f n
    rw [arg_s]
    by_cases c : P n ∧ (arg P f n = -1 ∨ f (arg P f n).toNat < f n)
    · rw [if_pos c]
      refine ⟨by omega, ?_⟩
      have e : ((n : Int)).toNat = n := Int.toNat_natCast n
      rw [e]
      by_cases hkn : k = n
      · subst hkn; exact Int.le_refl _
      · have ih := arg_max P f n k (by omega) hP
        rcases c.2 with h | h
        · exact absurd h ih.1
        · omega
    · rw [if_neg c]
      by_cases hkn : k = n
      · subst hkn
        have h1 : arg P f k ≠ -1 := fun h => c ⟨hP, Or.inl h⟩
        refine ⟨h1, ?_⟩
        by_cases h2 : f (arg P f k).toNat < f k
        · exact absurd ⟨hP, Or.inr h2⟩ c
        · omega
      · exact arg_max P f n k (by omega) hP
theorem arg_non (P : Nat → Prop) [DecidablePred P] (f : Nat → Int) : ∀ n : Nat, (∀ k, k < n → ¬ P k) → arg P f n = -1
  | 0, _ => rfl
  | n + 1, h => by
    rw [arg_s, if_neg (fun c => h n (by omega) c.1)]
    exact arg_non P f n (fun k hk => h k (by omega))
theorem sor_max (σ : zS) {p : Nat} (h : p < σ.1 0) : 0 ≤ sor σ ∧ sor σ < σ.1 0 ∧ bor σ (p : Int) ≤ bor σ ((sor σ).toNat : Nat) := by
  have h1 := arg_max (fun _ => True) (fun p => bor σ p) (σ.1 0) p h trivial
  have h2 := arg_bd (fun _ => True) (fun p => bor σ p) (σ.1 0)
  have h3 : sor σ = arg (fun _ => True) (fun p => bor σ p) (σ.1 0) := rfl
  rw [← h3] at h1 h2
  exact ⟨by omega, by omega, h1.2⟩
theorem hea_max (σ : zS) {k : Nat} (h : k < σ.1 1) (h5 : σ.2 5 k = 0) : 0 ≤ hea σ ∧ hea σ < σ.1 1 ∧ σ.2 4 k ≤ σ.2 4 (hea σ).toNat := by
  have h1 := arg_max (fun k => σ.2 5 k = 0) (fun k => σ.2 4 k) (σ.1 1) k h h5
  have h2 := arg_bd (fun k => σ.2 5 k = 0) (fun k => σ.2 4 k) (σ.1 1)
  have h3 : hea σ = arg (fun k => σ.2 5 k = 0) (fun k => σ.2 4 k) (σ.1 1) := rfl
  rw [← h3] at h1 h2
  exact ⟨by omega, by omega, h1.2⟩
theorem zs_nn {f : Nat → Int} : ∀ {n : Nat}, (∀ k, k < n → 0 ≤ f k) → 0 ≤ zs f n
  | 0, _ => Int.le_refl 0
  | n + 1, h => by
    have h1 := zs_nn (n := n) (fun k hk => h k (by omega))
    have h2 := h n (by omega)
    rw [zs_s]; omega
theorem zs_pos {f : Nat → Int} : ∀ {n k : Nat}, (∀ k, k < n → 0 ≤ f k) → k < n → f k ≤ zs f n
  | 0, _, _, h => absurd h (Nat.not_lt_zero _)
  | n + 1, k, h, hk => by
    have h2 := h n (by omega)
    rw [zs_s]
    by_cases e : k = n
    · subst e
      have h1 := zs_nn (n := k) (fun k hk => h k (by omega))
      omega
    · have h1 := zs_pos (n := n) (fun k hk => h k (by omega)) (show k < n by omega)
      omega
theorem hea_cnt (σ : zS) : (hea σ < 0 ∧ cnt σ 0 = 0) ∨ (0 ≤ hea σ ∧ cnt σ 0 ≠ 0) := by
  have h2 := arg_bd (fun k => σ.2 5 k = 0) (fun k => σ.2 4 k) (σ.1 1)
  have h3 : hea σ = arg (fun k => σ.2 5 k = 0) (fun k => σ.2 4 k) (σ.1 1) := rfl
  by_cases h : ∃ k, k < σ.1 1 ∧ σ.2 5 k = 0
  · obtain ⟨k, hk, h5⟩ := h
    refine Or.inr ⟨(hea_max σ hk h5).1, ?_⟩
    have h1 : (fun k => if σ.2 5 k = 0 then (1 : Int) else 0) k ≤ cnt σ 0 := zs_pos (f := fun k => if σ.2 5 k = 0 then 1 else 0) (fun k _ => by (try dsimp only); split <;> omega) hk
    simp only [h5, if_true] at h1
    omega
  · have hn : ∀ k, k < σ.1 1 → ¬ σ.2 5 k = 0 := fun k hk h5 => h ⟨k, hk, h5⟩
    refine Or.inl ⟨?_, ?_⟩
    · rw [h3, arg_non _ _ _ hn]; decide
    · have e : cnt σ 0 = zs (fun _ => 0) (σ.1 1) := zs_cong fun k hk => if_neg (hn k hk)
      rw [e]
      generalize σ.1 1 = n
      induction n with
      | zero => rfl
      | succ n ih => rw [zs_s, ih]; rfl
theorem zs_0f (n : Nat) : zs (fun _ => 0) n = 0 := by
  induction n with
  | zero => rfl
  | succ n ih => rw [zs_s, ih]; rfl
theorem zs_one (c : Prop) [Decidable c] (g w : Int) : ∀ n : Nat, zs (fun p => if c ∧ g = (p : Int) then w else 0) n = if c ∧ 0 ≤ g ∧ g < n then w else 0
  | 0 => by
    rw [zs_0]
    rw [if_neg (by omega)]
  | n + 1 => by
    rw [zs_s, zs_one c g w n]
    by_cases hc : c
    · by_cases h1 : g = (n : Int)
      · rw [if_neg (by omega), if_pos ⟨hc, h1⟩, if_pos ⟨hc, by omega, by omega⟩]; omega
      · rw [if_neg (show ¬ (c ∧ g = (n : Int)) from fun q => h1 q.2)]
        by_cases h2 : 0 ≤ g ∧ g < (n : Int)
        · rw [if_pos ⟨hc, h2⟩, if_pos ⟨hc, by omega, by omega⟩]; omega
        · rw [if_neg (fun q => h2 q.2), if_neg (fun q => h2 ⟨q.2.1, by omega⟩)]; omega
    · rw [if_neg (fun q => hc q.1), if_neg (fun q => hc q.1), if_neg (fun q => hc q.1)]; omega
theorem zs_swap (F : Nat → Nat → Int) (n : Nat) : ∀ m : Nat, zs (fun p => zs (fun k => F p k) m) n = zs (fun k => zs (fun p => F p k) n) m
  | 0 => zs_0f n
  | m + 1 => by
    have e : zs (fun p => zs (fun k => F p k) (m + 1)) n = zs (fun p => zs (fun k => F p k) m + F p m) n := zs_cong fun p _ => rfl
    rw [e, zs_add, zs_swap F n m, zs_s]
theorem bor_sum {B : Nat} {σ : zS} (hI : zI B σ) : zs (fun p => bor σ (p : Int)) (σ.1 0) = zs (fun k => σ.2 4 k) (σ.1 1) := by
  have e : zs (fun p => bor σ (p : Int)) (σ.1 0) = zs (fun p => zs (fun k => if σ.2 5 k = 0 ∧ σ.2 3 k = (p : Int) then σ.2 4 k else 0) (σ.1 1)) (σ.1 0) := rfl
  rw [e, zs_swap]
  refine zs_cong fun k hk => ?_
  rw [zs_one]
  have h3 := hI.r3 hk
  rcases hI.c4o k with h | h
  · rw [if_pos ⟨h, h3⟩]
  · rw [h]; split <;> rfl
theorem owe_sum {B : Nat} {σ : zS} (hI : zI B σ) : zs (fun p => owe σ (p : Int)) (σ.1 0) = zs (fun k => σ.2 4 k) (σ.1 1) := by
  have e : zs (fun p => owe σ (p : Int)) (σ.1 0) = zs (fun p => zs (fun k => if σ.2 5 k = 0 ∧ σ.2 2 k = (p : Int) then σ.2 4 k else 0) (σ.1 1)) (σ.1 0) := rfl
  rw [e, zs_swap]
  refine zs_cong fun k hk => ?_
  rw [zs_one]
  have h3 := hI.r2 hk
  rcases hI.c4o k with h | h
  · rw [if_pos ⟨h, h3⟩]
  · rw [h]; split <;> rfl
theorem cnt_sum {B : Nat} {σ : zS} (hI : zI B σ) : cnt σ 0 + cnt σ 1 + cnt σ 2 + cnt σ 3 = (σ.1 1 : Int) := by
  unfold cnt
  generalize σ.1 1 = n
  induction n with
  | zero => rfl
  | succ n ih =>
    have h := hI.r5 n
    rw [zs_s, zs_s, zs_s, zs_s]
    have e : ((if σ.2 5 n = 0 then (1 : Int) else 0) + (if σ.2 5 n = 1 then 1 else 0) + (if σ.2 5 n = 2 then 1 else 0) + (if σ.2 5 n = 3 then 1 else 0)) = 1 := by
      rcases (show σ.2 5 n = 0 ∨ σ.2 5 n = 1 ∨ σ.2 5 n = 2 ∨ σ.2 5 n = 3 by omega) with h | h | h | h <;> rw [h] <;> decide
    omega
theorem zs_mono {f g : Nat → Int} : ∀ {n : Nat}, (∀ k, k < n → f k ≤ g k) → zs f n ≤ zs g n
  | 0, _ => Int.le_refl 0
  | n + 1, h => by
    have h1 := zs_mono (n := n) (fun k hk => h k (by omega))
    have h2 := h n (by omega)
    rw [zs_s, zs_s]; omega
theorem wit_inh (σ : zS) (k : Nat) : wit σ k ≤ inh σ := zs_mono fun p _ => by
  (try dsimp only)
  by_cases h : σ.2 1 p = 1
  · rw [if_pos h]; split <;> omega
  · rw [if_neg h, if_neg (fun q => h q.1)]; omega
/-- one place changed -/
theorem zs_ch {f g : Nat → Int} {i : Nat} : ∀ {n : Nat}, i < n → (∀ k, k ≠ i → g k = f k) → zs g n = zs f n + (g i - f i)
  | 0, h, _ => absurd h (Nat.not_lt_zero _)
  | n + 1, h, hk => by
    rw [zs_s, zs_s]
    by_cases e : i = n
    · subst e
      have h1 : zs g i = zs f i := zs_cong fun k hki => hk k (by omega)
      omega
    · have h1 := zs_ch (n := n) (show i < n by omega) hk
      have h2 := hk n (fun q => e q.symm)
      omega
theorem lit_btw {B : Nat} {σ : zS} {k : Nat} {v q a b : Int} (hI : zI B σ) (hk : k < σ.1 1) (h5 : σ.2 5 k = 0) (hv : v ≤ σ.2 4 k) (hq : q ≠ 0) :
    btw (lit σ k v q) a b = btw σ a b - (if σ.2 2 k = a ∧ σ.2 3 k = b then v else 0) := by
  unfold btw
  rw [lit_n]
  have e := zs_ch (f := fun k => if σ.2 5 k = 0 ∧ σ.2 2 k = a ∧ σ.2 3 k = b then σ.2 4 k else 0) (g := fun k2 => if (lit σ k v q).2 5 k2 = 0 ∧ (lit σ k v q).2 2 k2 = a ∧ (lit σ k v q).2 3 k2 = b then (lit σ k v q).2 4 k2 else 0) hk (fun k2 h => by
    (try dsimp only)
    rw [lit_ne h, lit_ne h, lit_ne h, lit_ne h])
  rw [e]
  (try dsimp only)
  rw [lit_5, lit_4, lit_o (j := 2) (by decide) (by decide), lit_o (j := 3) (by decide) (by decide)]
  by_cases c : σ.2 2 k = a ∧ σ.2 3 k = b
  · rw [if_pos c, if_pos (show σ.2 5 k = 0 ∧ σ.2 2 k = a ∧ σ.2 3 k = b from ⟨h5, c⟩)]
    by_cases c2 : v < σ.2 4 k
    · rw [if_pos c2, if_pos c2, if_pos ⟨h5, c⟩]; omega
    · rw [if_neg c2, if_neg c2, if_neg (fun z => hq z.1)]; omega
  · rw [if_neg c, if_neg (fun z => c z.2), if_neg (fun z => c z.2)]; omega
theorem sof_bal {B : Nat} {σ : zS} {i o : Nat} (hI : zI B σ) (hi : i < σ.1 1) (ho : o < σ.1 1) (h5 : σ.2 5 i = 0) (h6 : σ.2 5 o = 0) (hq : agn σ i o = 1) :
    btw (sof σ i o) (σ.2 2 i) (σ.2 3 i) - btw (sof σ i o) (σ.2 3 i) (σ.2 2 i) = btw σ (σ.2 2 i) (σ.2 3 i) - btw σ (σ.2 3 i) (σ.2 2 i) := by
  have hne := agn_ne hI hi hq
  have hag : σ.2 2 i = σ.2 3 o ∧ σ.2 2 o = σ.2 3 i := by
    unfold agn at hq
    split at hq
    · assumption
    · omega
  have h23 := hI.r23 hi
  obtain ⟨v, hv⟩ : ∃ v, v = min (σ.2 4 i) (σ.2 4 o) := ⟨_, rfl⟩
  have g4 := hI.r4 i
  have hIl : zI B (lit σ i v 3) := lit_zI hI hi (by have := hI.r4 o; omega) ⟨by decide, by decide⟩
  have l4 : (lit σ i v 3).2 4 o = σ.2 4 o := lit_ne hne
  have l5 : (lit σ i v 3).2 5 o = σ.2 5 o := lit_ne hne
  have l2 : (lit σ i v 3).2 2 o = σ.2 2 o := lit_ne hne
  have l3 : (lit σ i v 3).2 3 o = σ.2 3 o := lit_ne hne
  unfold sof
  rw [← hv]
  rw [lit_btw hIl (by rw [lit_n]; exact ho) (by rw [l5]; exact h6) (by rw [l4]; omega) (by decide), lit_btw hIl (by rw [lit_n]; exact ho) (by rw [l5]; exact h6) (by rw [l4]; omega) (by decide)]
  rw [lit_btw hI hi h5 (by omega) (by decide), lit_btw hI hi h5 (by omega) (by decide)]
  rw [l2, l3]
  rw [if_pos (show σ.2 2 i = σ.2 2 i ∧ σ.2 3 i = σ.2 3 i from ⟨rfl, rfl⟩), if_neg (show ¬ (σ.2 2 i = σ.2 3 i ∧ σ.2 3 i = σ.2 2 i) from fun z => h23 z.1)]
  rw [if_neg (show ¬ (σ.2 2 o = σ.2 2 i ∧ σ.2 3 o = σ.2 3 i) from by omega), if_pos (show σ.2 2 o = σ.2 3 i ∧ σ.2 3 o = σ.2 2 i from by omega)]
  omega
theorem sof_st {B : Nat} {σ : zS} {i o : Nat} (hI : zI B σ) (hi : i < σ.1 1) (ho : o < σ.1 1) (h5 : σ.2 5 i = 0) (h6 : σ.2 5 o = 0) (hne : o ≠ i) :
    ((sof σ i o).2 5 i = 3 ∨ (sof σ i o).2 5 o = 3) ∧ 1 ≤ min (σ.2 4 i) (σ.2 4 o) := by
  have g1 := hI.o4 hi h5
  have g2 := hI.o4 ho h6
  have l4 : ∀ v q, (lit σ i v q).2 4 o = σ.2 4 o := fun v q => lit_ne hne
  have l5 : ∀ v q, (lit σ i v q).2 5 o = σ.2 5 o := fun v q => lit_ne hne
  have hni : i ≠ o := fun h => hne h.symm
  refine ⟨?_, by omega⟩
  unfold sof
  rw [lit_ne hni, lit_5, lit_5, l4, l5]
  by_cases c : σ.2 4 i ≤ σ.2 4 o
  · left; rw [if_neg (by omega)]
  · right; rw [if_neg (by omega)]
theorem lat_dyn {B : Nat} {σ : zS} (hI : zI B σ) (n k : Nat) (hk : k < σ.1 1) : (dyn σ n).1.2 4 k = lat σ k (n : Int) := by
  have h7 := hI.r7 k
  rw [dyn_2 hI]
  by_cases h5 : σ.2 5 k = 0
  · have h8 := hI.o7 k h5
    rw [if_pos ⟨hk, h5⟩, mpc_4]
    by_cases c : σ.2 7 k + n < 30
    · rw [if_pos (by omega), show min (n : Int) (30 - σ.2 7 k) = n by omega]
    · rw [if_neg (by omega), lat, if_neg (by omega)]
  · rw [if_neg (fun q => h5 q.2), hI.c4 k h5, lat, if_neg (fun q => h5 q.1)]
theorem st_dyn {B : Nat} {σ : zS} (hI : zI B σ) (n k : Nat) (hk : k < σ.1 1) : (σ.2 5 k = 0 ∧ σ.2 7 k + n < 30 ∧ (dyn σ n).1.2 5 k = 0) ∨ (σ.2 5 k = 0 ∧ 30 ≤ σ.2 7 k + n ∧ (dyn σ n).1.2 5 k = 2) ∨ (σ.2 5 k ≠ 0 ∧ (dyn σ n).1.2 5 k = σ.2 5 k) := by
  have h7 := hI.r7 k
  rw [dyn_2 hI]
  by_cases h5 : σ.2 5 k = 0
  · have h8 := hI.o7 k h5
    rw [if_pos ⟨hk, h5⟩, mpc_5]
    by_cases c : σ.2 7 k + n < 30
    · left; rw [if_pos (by omega)]; exact ⟨h5, c, h5⟩
    · right; left; rw [if_neg (by omega)]; exact ⟨h5, by omega, rfl⟩
  · right; right
    rw [if_neg (fun q => h5 q.2)]; exact ⟨h5, rfl⟩
theorem bor_dyn {B : Nat} {σ : zS} (hI : zI B σ) (n : Nat) (hB : B + n ≤ 100000) (p : Int) : bor (dyn σ n).1 p = bth σ p (n : Int) := by
  have hn := (dyn_01 σ n).2
  have hI2 := dyn_zI hI n hB
  unfold bor bth
  rw [hn]
  refine zs_cong fun k hk => ?_
  have e3 : (dyn σ n).1.2 3 k = σ.2 3 k := by
    rw [dyn_2 hI]
    split
    · exact mpc_o (by decide) (by decide) (by decide) (by decide)
    · rfl
  rw [e3, lat_dyn hI n k hk]
  have h4 := lat_dyn hI n k hk
  rcases hI2.c4o k with h | h
  · by_cases c : σ.2 3 k = p
    · rw [if_pos ⟨h, c⟩, if_pos c]
    · rw [if_neg (fun q => c q.2), if_neg c]
  · rw [h4] at h
    rw [h]; split <;> split <;> rfl
/-- what one day more does to one slight -/
theorem day_step {B : Nat} {σ : zS} (hI : zI B σ) (k : Nat) (hk : k < σ.1 1) :
    (σ.2 5 k = 0 ∧ 30 ≤ σ.2 7 k + 1 ∧ (day1 σ).1.2 5 k = 2) ∨ (σ.2 5 k = 0 ∧ ¬ 30 ≤ σ.2 7 k + 1 ∧ (day1 σ).1.2 5 k = 0 ∧ σ.2 4 k ≤ (day1 σ).1.2 4 k) ∨ (σ.2 5 k ≠ 0 ∧ (day1 σ).1.2 5 k = σ.2 5 k) := by
  have h4 := hI.r4 k
  rw [day1_2, day1_2]
  by_cases h5 : σ.2 5 k = 0
  · rw [if_pos ⟨hk, h5⟩, if_pos ⟨hk, h5⟩]
    rcases bea_5 σ k with g5 | g5
    · left; exact ⟨h5, g5.1, g5.2⟩
    · right; left
      refine ⟨h5, g5.1, by rw [g5.2]; exact h5, ?_⟩
      rcases bea_4 σ k with g4 | g4
      · exact absurd g4.1 g5.1
      · rw [g4.2]; unfold wwb; split <;> omega
  · right; right
    rw [if_neg (fun q => h5 q.2)]; exact ⟨h5, rfl⟩
theorem day_cnt (σ : zS) : (day1 σ).2 = zs (fun k => if σ.2 5 k = 0 ∧ 30 ≤ σ.2 7 k + 1 then 1 else 0) (σ.1 1) := dyf_c σ (σ.1 1)
theorem dyn_7 {B : Nat} {σ : zS} (hI : zI B σ) (n k : Nat) (hk : k < σ.1 1) (h : (dyn σ n).1.2 5 k = 0) : (dyn σ n).1.2 7 k = σ.2 7 k + n := by
  have h7 := hI.r7 k
  rcases st_dyn hI n k hk with g | g | g
  · have h8 := hI.o7 k g.1
    rw [dyn_2 hI, if_pos ⟨hk, g.1⟩, mpc_7]; omega
  · omega
  · rw [g.2] at h; exact absurd h g.1
theorem zs_bd1 {f : Nat → Int} (n : Nat) (h : ∀ k, 0 ≤ f k ∧ f k ≤ 1) : 0 ≤ zs f n ∧ zs f n ≤ n := by
  have := zs_bd (f := f) (c := 1) (n := n) (fun k _ => h k)
  omega
