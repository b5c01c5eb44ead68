/-! each mean is as large as itself: all of them, by the kernel -/
def mec_ok (n s : Nat) : Bool := decide (FP.dcmp (FP.ddiv (FP.i2d (iI (s : Int))) (FP.i2d (iI (n : Int)))) (FP.ddiv (FP.i2d (iI (s : Int))) (FP.i2d (iI (n : Int)))) = some .eq)
theorem mec_1 : (List.range 100).all (mec_ok 1) = true := by decide +kernel
theorem mec_2 : (List.range 199).all (mec_ok 2) = true := by decide +kernel
theorem mec_3 : (List.range 298).all (mec_ok 3) = true := by decide +kernel
theorem mec_4 : (List.range 397).all (mec_ok 4) = true := by decide +kernel
theorem mec_5 : (List.range 496).all (mec_ok 5) = true := by decide +kernel
theorem mec_6 : (List.range 595).all (mec_ok 6) = true := by decide +kernel
theorem mec_7 : (List.range 694).all (mec_ok 7) = true := by decide +kernel
theorem mec_8 : (List.range 793).all (mec_ok 8) = true := by decide +kernel
theorem mec_9 : (List.range 892).all (mec_ok 9) = true := by decide +kernel
theorem mec_10 : (List.range 991).all (mec_ok 10) = true := by decide +kernel
theorem mec_11 : (List.range 1090).all (mec_ok 11) = true := by decide +kernel
theorem mec_12 : (List.range 1189).all (mec_ok 12) = true := by decide +kernel
theorem mec_13 : (List.range 1288).all (mec_ok 13) = true := by decide +kernel
theorem mec_14 : (List.range 1387).all (mec_ok 14) = true := by decide +kernel
theorem mec_15 : (List.range 1486).all (mec_ok 15) = true := by decide +kernel
theorem mec_16 : (List.range 1585).all (mec_ok 16) = true := by decide +kernel
theorem mec_17 : (List.range 1684).all (mec_ok 17) = true := by decide +kernel
theorem mec_18 : (List.range 1783).all (mec_ok 18) = true := by decide +kernel
theorem mec_19 : (List.range 1882).all (mec_ok 19) = true := by decide +kernel
theorem mec_20 : (List.range 1981).all (mec_ok 20) = true := by decide +kernel
theorem mec_eq {B : Nat} {σ : zS} (hI : zI B σ) (j : Nat) (hj : j ≤ σ.1 1) (h0 : zs (fun k => if σ.2 5 k = 0 then 1 else 0) j ≠ 0) : FP.dcmp (FP.ddiv (FP.i2d (iI (zs (fun k => if σ.2 5 k = 0 then σ.2 4 k else 0) j))) (FP.i2d (iI (zs (fun k => if σ.2 5 k = 0 then 1 else 0) j)))) (FP.ddiv (FP.i2d (iI (zs (fun k => if σ.2 5 k = 0 then σ.2 4 k else 0) j))) (FP.i2d (iI (zs (fun k => if σ.2 5 k = 0 then 1 else 0) j)))) = some .eq := by
  have h1 := tot_bj hI hj
  have h2 := cnt_bj σ j
  have hn := hI.n
  have h9 : zs (fun k => if σ.2 5 k = 0 then σ.2 4 k else 0) j ≤ 99 * zs (fun k => if σ.2 5 k = 0 then 1 else 0) j := zs_le2 fun k _ => by
    have := hI.r4 k
    (try dsimp only); split <;> omega
  obtain ⟨u, hu⟩ : ∃ u : Nat, zs (fun k => if σ.2 5 k = 0 then σ.2 4 k else 0) j = (u : Int) := ⟨_, (Int.toNat_of_nonneg h1.1).symm⟩
  obtain ⟨v, hv⟩ : ∃ v : Nat, zs (fun k => if σ.2 5 k = 0 then 1 else 0) j = (v : Int) := ⟨_, (Int.toNat_of_nonneg h2.1).symm⟩
  rw [hu] at h1 h9 ⊢
  rw [hv] at h0 h2 h9 ⊢
  have key : ∀ n : Nat, 1 ≤ n → n ≤ 20 → (List.range (99 * n + 1)).all (mec_ok n) = true := by
    intro n h3 h4
    rcases (show n = 1 ∨ n = 2 ∨ n = 3 ∨ n = 4 ∨ n = 5 ∨ n = 6 ∨ n = 7 ∨ n = 8 ∨ n = 9 ∨ n = 10 ∨ n = 11 ∨ n = 12 ∨ n = 13 ∨ n = 14 ∨ n = 15 ∨ n = 16 ∨ n = 17 ∨ n = 18 ∨ n = 19 ∨ n = 20 by omega) with h | h | h | h | h | h | h | h | h | h | h | h | h | h | h | h | h | h | h | h <;> subst h
    · exact mec_1
    · exact mec_2
    · exact mec_3
    · exact mec_4
    · exact mec_5
    · exact mec_6
    · exact mec_7
    · exact mec_8
    · exact mec_9
    · exact mec_10
    · exact mec_11
    · exact mec_12
    · exact mec_13
    · exact mec_14
    · exact mec_15
    · exact mec_16
    · exact mec_17
    · exact mec_18
    · exact mec_19
    · exact mec_20
  have h3 := List.all_eq_true.mp (key v (by omega) (by omega)) u (List.mem_range.mpr (by omega))
  simp only [mec_ok, decide_eq_true_eq] at h3
  exact h3
theorem mec_n2 {B : Nat} {σ : zS} (hI : zI B σ) (h0 : cnt σ 0 ≠ 0) : FP.dcmp (FP.ddiv (FP.i2d (iI (tot σ))) (FP.i2d (iI (cnt σ 0)))) (FP.ddiv (FP.i2d (iI (tot σ))) (FP.i2d (iI (cnt σ 0)))) = some .eq := mec_eq hI (σ.1 1) (Nat.le_refl _) h0
theorem cmp0 {x y : UInt64} (h : x = y) (n : FP.dcmp y y = some .eq) (o : CmpOp) : Op.cmpValue (FP.dcmp x y) o = iI 0 := by
  subst h
  rw [n]; rfl
