/-! THE LAW'S BODY: what its pieces need. -/
def af (g : Nat → Int) (n : Nat) : Nat → Int32 := fun i => if i < n then iI (g i) else 0
theorem af_0 {g : Nat → Int} : (fun _ : Nat => (0 : Int32)) = af g 0 := by funext i; simp [af]
theorem af_step {g : Nat → Int} {n : Nat} : upd (af g n) n (iI (g n)) = af g (n + 1) := by
  funext i
  unfold upd af
  by_cases h : i = n
  · subst h; simp
  · have h1 : (i < n + 1) ↔ (i < n) := by omega
    simp [h, h1]
theorem af_get {g : Nat → Int} {n k : Nat} (h : k < n) : af g n k = iI (g k) := by unfold af; rw [if_pos h]
theorem iI_neg (z : Int) : -(iI z) = iI (-z) := (Int32.ofInt_neg z).symm
theorem unt_or (σ : zS) (k : Nat) : (σ.2 5 k = 0 ∧ unt σ k = 30 - σ.2 7 k) ∨ (σ.2 5 k ≠ 0 ∧ unt σ k = -1) := by
  unfold unt
  by_cases h : σ.2 5 k = 0
  · left; rw [if_pos h]; exact ⟨h, rfl⟩
  · right; rw [if_neg h]; exact ⟨h, rfl⟩
theorem wan_op {σ : zS} {k : Nat} (h : σ.2 5 k = 0) : (20 < max 1 (max (σ.2 4 k) (σ.2 0 (σ.2 3 k).toNat) - 2 * wit σ k) ∧ wan σ k = -1) ∨ (max 1 (max (σ.2 4 k) (σ.2 0 (σ.2 3 k).toNat) - 2 * wit σ k) ≤ 20 ∧ wan σ k = max 1 (max (σ.2 4 k) (σ.2 0 (σ.2 3 k).toNat) - 2 * wit σ k)) := by
  unfold wan
  rw [if_pos h]
  split <;> omega
theorem apo_all {B : Nat} {σ : zS} {k : Nat} {w : Int} (hI : zI B σ) (hk : k < σ.1 1) (h5 : σ.2 5 k = 0) (hw : 1 ≤ w ∧ w ≤ 20) :
    (wbs σ k w = 1 ∧ (apo σ k w).2 4 k = min 99 (σ.2 4 k + 1) ∧ 1 ≤ (apo σ k w).2 4 k ∧ (apo σ k w).2 5 k = 0 ∧ (apo σ k w).1 3 = σ.1 3 + 1 ∧ ¬ (0 < wan σ k ∧ wan σ k ≤ w)) ∨
    (wbs σ k w = 0 ∧ (apo σ k w).2 4 k < σ.2 4 k ∧ (apo σ k w).1 3 = σ.1 3 ∧ (((apo σ k w).2 4 k = 0 ∧ (apo σ k w).2 5 k = 1 ∧ 0 < wan σ k ∧ wan σ k ≤ w) ∨ (0 < (apo σ k w).2 4 k ∧ (apo σ k w).2 5 k = 0 ∧ ¬ (0 < wan σ k ∧ wan σ k ≤ w)))) := by
  have h4 := hI.r4 k
  have ho := hI.o4 hk h5
  have hp := hI.r0 (σ.2 3 k).toNat
  have hwt := wit_bd hI k
  have hwn := wan_op h5
  by_cases c : w + 2 * wit σ k < lea σ k
  · left
    have e : apo σ k w = spk (stS σ 3 (σ.1 3 + 1)) k := if_pos c
    have e4 : (apo σ k w).2 4 k = min (σ.2 4 k + 1) 99 := by rw [e]; simp [spk, stA, stS]
    have e5 : (apo σ k w).2 5 k = σ.2 5 k := by rw [e]; simp [spk, stA, stS]
    have e3 : (apo σ k w).1 3 = σ.1 3 + 1 := by rw [e]; rfl
    have ew : wbs σ k w = 1 := if_pos ⟨h5, c⟩
    refine ⟨ew, by omega, by omega, by omega, e3, ?_⟩
    unfold lea at c
    omega
  · right
    have e : apo σ k w = lit σ k (w + 2 * wit σ k) 1 := if_neg c
    have e4 : (apo σ k w).2 4 k = if w + 2 * wit σ k < σ.2 4 k then σ.2 4 k - (w + 2 * wit σ k) else 0 := by rw [e]; exact lit_4
    have e5 : (apo σ k w).2 5 k = if w + 2 * wit σ k < σ.2 4 k then σ.2 5 k else 1 := by rw [e]; exact lit_5
    have e3 : (apo σ k w).1 3 = σ.1 3 := by rw [e, lit_n]
    have ew : wbs σ k w = 0 := if_neg (fun q => c q.2)
    unfold lea at c
    by_cases c2 : w + 2 * wit σ k < σ.2 4 k
    · rw [if_pos c2] at e4 e5
      refine ⟨ew, by omega, e3, Or.inr ⟨by omega, by omega, by omega⟩⟩
    · rw [if_neg c2] at e4 e5
      refine ⟨ew, by omega, e3, Or.inl ⟨e4, e5, by omega, by omega⟩⟩
theorem sof_lo {σ : zS} {i o j k : Nat} (h4 : j ≠ 4) (h5 : j ≠ 5) : (sof σ i o).2 j k = σ.2 j k := by
  unfold sof
  rw [lit_o h4 h5, lit_o h4 h5]
theorem dyn_lo {B : Nat} {σ : zS} (hI : zI B σ) (n : Nat) {j : Nat} (k : Nat) (hj : j < 4) : (dyn σ n).1.2 j k = σ.2 j k := by
  rw [dyn_2 hI]
  split
  · exact mpc_o (by omega) (by omega) (by omega) (by omega)
  · rfl
theorem day_dyn {B : Nat} {σ : zS} (j : Nat) (hI : zI B (dyn σ j).1) (k : Nat) (hk : k < (dyn σ j).1.1 1) :
    ((dyn σ j).1.2 5 k = 0 ∧ 30 ≤ (dyn σ j).1.2 7 k + 1 ∧ (dyn σ (j + 1)).1.2 5 k = 2) ∨ ((dyn σ j).1.2 5 k = 0 ∧ ¬ 30 ≤ (dyn σ j).1.2 7 k + 1 ∧ (dyn σ (j + 1)).1.2 5 k = 0 ∧ (dyn σ j).1.2 4 k ≤ (dyn σ (j + 1)).1.2 4 k) ∨ ((dyn σ j).1.2 5 k ≠ 0 ∧ (dyn σ (j + 1)).1.2 5 k = (dyn σ j).1.2 5 k) := day_step hI k hk
theorem dyn_7o {B : Nat} {σ : zS} (hI : zI B σ) (n k : Nat) (hk : k < σ.1 1) : (dyn σ n).1.2 5 k ≠ 0 ∨ (dyn σ n).1.2 7 k = σ.2 7 k + n := by
  by_cases h : (dyn σ n).1.2 5 k = 0
  · right; exact dyn_7 hI n k hk h
  · left; exact h
def dF (σ : zS) (d : Nat) : Nat → Int := fun i => lat σ i (d : Int)
def uF2 (σ : zS) : Nat → Int := fun i => unt σ i
def wF4 (σ : zS) : Nat → Int := fun i => σ.2 4 i
def sF5 (σ : zS) : Nat → Int := fun i => σ.2 5 i
def nF (σ : zS) : Nat → Int := fun k => if σ.2 5 k = 0 ∧ 30 ≤ σ.2 7 k + 1 then 1 else 0
theorem nF_or (σ : zS) (k : Nat) : (nF σ k = 1 ∧ σ.2 5 k = 0 ∧ 30 ≤ σ.2 7 k + 1) ∨ (nF σ k = 0 ∧ ¬ (σ.2 5 k = 0 ∧ 30 ≤ σ.2 7 k + 1)) := by
  unfold nF
  by_cases h : σ.2 5 k = 0 ∧ 30 ≤ σ.2 7 k + 1
  · left; rw [if_pos h]; exact ⟨rfl, h⟩
  · right; rw [if_neg h]; exact ⟨rfl, h⟩
theorem day_nF (σ : zS) : (day1 σ).2 = zs (nF σ) (σ.1 1) := day_cnt σ
/-- the law's standing facts -/
def lC (pg : Program) (l : Launch) (s : State) (m : MethodId) (args : Array Value) (c : Code) (G : zG) (b L : Nat) (xs : Nat → Int32) : Prop :=
  pg.tables.exec = Jvm.exec ∧ c.code = cL_law ∧ c.maxLocals = 23 ∧ s.vm.findClass RL = some m.cls ∧ (∀ w ∈ wsL_law, w.before args s = true) ∧ l.stackTraces = false ∧ zK G s ∧ zO s ∧ zE (nA s.heap.size) s s.heap ∧ zH s ∧ va_X b L xs s s.heap ∧ b < s.heap.size ∧ L ≤ 260
theorem hea_bd (σ : zS) : -1 ≤ hea σ ∧ hea σ < σ.1 1 := arg_bd (fun k => σ.2 5 k = 0) (fun k => σ.2 4 k) (σ.1 1)
