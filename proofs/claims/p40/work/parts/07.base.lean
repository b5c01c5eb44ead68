/-! THE BASE: ints as Int, the state, the worlds of both objects, rows in Int. -/
section ZA
def iI (z : Int) : Int32 := Int32.ofInt z
theorem iI_add (a b : Int) : iI a + iI b = iI (a + b) := (Int32.ofInt_add a b).symm
theorem iI_sub (a b : Int) : iI a - iI b = iI (a - b) := (Int32.ofInt_sub a b).symm
theorem iI_mul (a b : Int) : iI a * iI b = iI (a * b) := (Int32.ofInt_mul a b).symm
theorem iI_toInt {z : Int} (h : -2147483648 ≤ z ∧ z < 2147483648) : (iI z).toInt = z := Int32.toInt_ofInt_of_le (by have := h.1; omega) (by have := h.2; omega)
theorem iI_of (x : Int32) : ∃ z : Int, (-2147483648 ≤ z ∧ z < 2147483648) ∧ x = iI z := ⟨x.toInt, ⟨by have := Int32.le_toInt x; omega, by have := Int32.toInt_lt x; omega⟩, (Int32.ofInt_toInt x).symm⟩
theorem iI_lt {a b : Int} (ha : -2147483648 ≤ a ∧ a < 2147483648) (hb : -2147483648 ≤ b ∧ b < 2147483648) : iI a < iI b ↔ a < b := by
  rw [Int32.lt_iff_toInt_lt, iI_toInt ha, iI_toInt hb]
theorem iI_le {a b : Int} (ha : -2147483648 ≤ a ∧ a < 2147483648) (hb : -2147483648 ≤ b ∧ b < 2147483648) : iI a ≤ iI b ↔ a ≤ b := by
  rw [Int32.le_iff_toInt_le, iI_toInt ha, iI_toInt hb]
theorem iI_eq {a b : Int} (ha : -2147483648 ≤ a ∧ a < 2147483648) (hb : -2147483648 ≤ b ∧ b < 2147483648) : iI a = iI b ↔ a = b := by
  rw [← Int32.toInt_inj, iI_toInt ha, iI_toInt hb]
theorem iI_0 : iI 0 = 0 := rfl
theorem iI_div {a d : Int} (ha : 0 ≤ a ∧ a < 2147483648) (hd : 0 < d ∧ d < 2147483648) : iI a / iI d = iI (a / d) := by
  have h0 : a / d ≤ a := Int.ediv_le_self _ ha.1
  have h1 : 0 ≤ a / d := Int.ediv_nonneg ha.1 (by omega)
  apply Int32.toInt_inj.mp
  rw [lg_idiv_nonneg (by rw [iI_toInt (by omega)]; omega) (by rw [iI_toInt (by omega)]; omega), iI_toInt (by omega), iI_toInt (by omega), iI_toInt (by omega)]
theorem iI_rem {a d : Int} (ha : 0 ≤ a ∧ a < 2147483648) (hd : 0 < d ∧ d < 2147483648) : iI a - iI a / iI d * iI d = iI (a % d) := by
  rw [iI_div ha hd, iI_mul, iI_sub]
  exact congrArg iI (by have := Int.mul_ediv_add_emod a d; rw [Int.mul_comm] at this; omega)
theorem iI_clamp {k : Nat} (h : k < 2147483648) : (iI (k : Int)).toNatClampNeg = k := by
  have h1 : (iI (k : Int)).toInt = (k : Int) := iI_toInt (by omega)
  show (iI (k : Int)).toInt.toNat = k
  rw [h1]; rfl
theorem iI_in {k n : Nat} (h : k < n) (hn : n < 2147483648) : vp_in (iI (k : Int)) n := by
  intro hh
  rcases hh with hh | hh
  · rw [← iI_0, iI_lt (by omega) (by omega)] at hh; omega
  · rw [iI_clamp (by omega)] at hh; omega
end ZA
section ZR
variable {p : Program} {l : Launch} {e : Env} {R : Room} {s : State} {m : MethodId} {args : Array Value} {below : List Frame} {meth : Method} {c : Code} {H : Heap} {locs : List Loc} {cells slots : Nat} {Q : State → Prop}
variable {cc : ByteArray} {pc : Nat} {ls : Array Slot} {rest : List Value}
theorem z_iadd (hx : p.tables.exec = Jvm.exec) (hb : c.code = cc) {a b : Int} (hdg : decode cc pc = .ok (.iadd, 1)) (k : W p l e R s m args below meth c H locs cells slots Q (F0 m (pc + 1) ls (.int (iI (a + b)) :: rest))) : W p l e R s m args below meth c H locs cells slots Q (F0 m pc ls (.int (iI b) :: .int (iI a) :: rest)) := lv_iadd hx hb hdg (by rw [iI_add]; exact k)
theorem z_isub (hx : p.tables.exec = Jvm.exec) (hb : c.code = cc) {a b : Int} (hdg : decode cc pc = .ok (.isub, 1)) (k : W p l e R s m args below meth c H locs cells slots Q (F0 m (pc + 1) ls (.int (iI (a - b)) :: rest))) : W p l e R s m args below meth c H locs cells slots Q (F0 m pc ls (.int (iI b) :: .int (iI a) :: rest)) := lv_isub hx hb hdg (by rw [iI_sub]; exact k)
theorem z_imul (hx : p.tables.exec = Jvm.exec) (hb : c.code = cc) {a b : Int} (hdg : decode cc pc = .ok (.imul, 1)) (k : W p l e R s m args below meth c H locs cells slots Q (F0 m (pc + 1) ls (.int (iI (a * b)) :: rest))) : W p l e R s m args below meth c H locs cells slots Q (F0 m pc ls (.int (iI b) :: .int (iI a) :: rest)) := lv_imul hx hb hdg (by rw [iI_mul]; exact k)
theorem iI_ne0 {d : Int} (hd : 0 < d ∧ d < 2147483648) : ¬ iI d = 0 := by
  rw [← iI_0, iI_eq (by omega) (by omega)]; omega
theorem z_idiv (hx : p.tables.exec = Jvm.exec) (hb : c.code = cc) {a d : Int} (hdg : decode cc pc = .ok (.idiv, 1)) (ha : 0 ≤ a ∧ a < 2147483648) (hd : 0 < d ∧ d < 2147483648) (k : W p l e R s m args below meth c H locs cells slots Q (F0 m (pc + 1) ls (.int (iI (a / d)) :: rest))) : W p l e R s m args below meth c H locs cells slots Q (F0 m pc ls (.int (iI d) :: .int (iI a) :: rest)) := lv_idiv hx hb hdg (iI_ne0 hd) (by rw [iI_div ha hd]; exact k)
theorem z_irem (hx : p.tables.exec = Jvm.exec) (hb : c.code = cc) {a d : Int} (hdg : decode cc pc = .ok (.irem, 1)) (ha : 0 ≤ a ∧ a < 2147483648) (hd : 0 < d ∧ d < 2147483648) (k : W p l e R s m args below meth c H locs cells slots Q (F0 m (pc + 1) ls (.int (iI (a % d)) :: rest))) : W p l e R s m args below meth c H locs cells slots Q (F0 m pc ls (.int (iI d) :: .int (iI a) :: rest)) := lv_irem hx hb hdg (iI_ne0 hd) (by rw [iI_rem ha hd]; exact k)
theorem z_if_eq (hx : p.tables.exec = Jvm.exec) (hb : c.code = cc) {a : Int} {off : Int} {tgt : Nat} (hdg : decode cc pc = .ok (.ifCond .eq off, 3)) (ht : (pc : Int) + off = (tgt : Int)) (ha : -2147483648 ≤ a ∧ a < 2147483648) (kt : a = 0 → W p l e R s m args below meth c H locs cells slots Q (F0 m tgt ls rest)) (kf : ¬ a = 0 → W p l e R s m args below meth c H locs cells slots Q (F0 m (pc + 3) ls rest)) : W p l e R s m args below meth c H locs cells slots Q (F0 m pc ls (.int (iI a) :: rest)) := by
  have hi := (by rw [← iI_0]; exact iI_eq ha ⟨by decide, by decide⟩ : iI a = 0 ↔ a = 0)
  exact lv_if_eq hx hb hdg ht (fun h => kt (by rw [hi] at h; exact h)) (fun h => kf (by rw [hi] at h; exact h))
theorem z_if_ne (hx : p.tables.exec = Jvm.exec) (hb : c.code = cc) {a : Int} {off : Int} {tgt : Nat} (hdg : decode cc pc = .ok (.ifCond .ne off, 3)) (ht : (pc : Int) + off = (tgt : Int)) (ha : -2147483648 ≤ a ∧ a < 2147483648) (kt : ¬ a = 0 → W p l e R s m args below meth c H locs cells slots Q (F0 m tgt ls rest)) (kf : a = 0 → W p l e R s m args below meth c H locs cells slots Q (F0 m (pc + 3) ls rest)) : W p l e R s m args below meth c H locs cells slots Q (F0 m pc ls (.int (iI a) :: rest)) := by
  have hi := (by rw [← iI_0]; exact iI_eq ha ⟨by decide, by decide⟩ : iI a = 0 ↔ a = 0)
  exact lv_if_ne hx hb hdg ht (fun h => kt (by rw [hi] at h; exact h)) (fun h => kf (by rw [hi] at h; exact h))
theorem z_if_lt (hx : p.tables.exec = Jvm.exec) (hb : c.code = cc) {a : Int} {off : Int} {tgt : Nat} (hdg : decode cc pc = .ok (.ifCond .lt off, 3)) (ht : (pc : Int) + off = (tgt : Int)) (ha : -2147483648 ≤ a ∧ a < 2147483648) (kt : a < 0 → W p l e R s m args below meth c H locs cells slots Q (F0 m tgt ls rest)) (kf : 0 ≤ a → W p l e R s m args below meth c H locs cells slots Q (F0 m (pc + 3) ls rest)) : W p l e R s m args below meth c H locs cells slots Q (F0 m pc ls (.int (iI a) :: rest)) := by
  have hi := (by rw [← iI_0]; exact iI_lt ha ⟨by decide, by decide⟩ : iI a < 0 ↔ a < 0)
  exact lv_if_lt hx hb hdg ht (fun h => kt (by rw [hi] at h; exact h)) (fun h => kf (by rw [hi] at h; omega))
theorem z_if_ge (hx : p.tables.exec = Jvm.exec) (hb : c.code = cc) {a : Int} {off : Int} {tgt : Nat} (hdg : decode cc pc = .ok (.ifCond .ge off, 3)) (ht : (pc : Int) + off = (tgt : Int)) (ha : -2147483648 ≤ a ∧ a < 2147483648) (kt : 0 ≤ a → W p l e R s m args below meth c H locs cells slots Q (F0 m tgt ls rest)) (kf : a < 0 → W p l e R s m args below meth c H locs cells slots Q (F0 m (pc + 3) ls rest)) : W p l e R s m args below meth c H locs cells slots Q (F0 m pc ls (.int (iI a) :: rest)) := by
  have hi := (by rw [← iI_0]; exact iI_le ⟨by decide, by decide⟩ ha : 0 ≤ iI a ↔ 0 ≤ a)
  exact lv_if_ge hx hb hdg ht (fun h => kt (by rw [hi] at h; exact h)) (fun h => kf (by rw [hi] at h; omega))
theorem z_if_gt (hx : p.tables.exec = Jvm.exec) (hb : c.code = cc) {a : Int} {off : Int} {tgt : Nat} (hdg : decode cc pc = .ok (.ifCond .gt off, 3)) (ht : (pc : Int) + off = (tgt : Int)) (ha : -2147483648 ≤ a ∧ a < 2147483648) (kt : 0 < a → W p l e R s m args below meth c H locs cells slots Q (F0 m tgt ls rest)) (kf : a ≤ 0 → W p l e R s m args below meth c H locs cells slots Q (F0 m (pc + 3) ls rest)) : W p l e R s m args below meth c H locs cells slots Q (F0 m pc ls (.int (iI a) :: rest)) := by
  have hi := (by rw [← iI_0]; exact iI_lt ⟨by decide, by decide⟩ ha : 0 < iI a ↔ 0 < a)
  exact lv_if_gt hx hb hdg ht (fun h => kt (by rw [hi] at h; exact h)) (fun h => kf (by rw [hi] at h; omega))
theorem z_if_le (hx : p.tables.exec = Jvm.exec) (hb : c.code = cc) {a : Int} {off : Int} {tgt : Nat} (hdg : decode cc pc = .ok (.ifCond .le off, 3)) (ht : (pc : Int) + off = (tgt : Int)) (ha : -2147483648 ≤ a ∧ a < 2147483648) (kt : a ≤ 0 → W p l e R s m args below meth c H locs cells slots Q (F0 m tgt ls rest)) (kf : 0 < a → W p l e R s m args below meth c H locs cells slots Q (F0 m (pc + 3) ls rest)) : W p l e R s m args below meth c H locs cells slots Q (F0 m pc ls (.int (iI a) :: rest)) := by
  have hi := (by rw [← iI_0]; exact iI_le ha ⟨by decide, by decide⟩ : iI a ≤ 0 ↔ a ≤ 0)
  exact lv_if_le hx hb hdg ht (fun h => kt (by rw [hi] at h; exact h)) (fun h => kf (by rw [hi] at h; omega))
theorem z_icmp_eq (hx : p.tables.exec = Jvm.exec) (hb : c.code = cc) {a b : Int} {off : Int} {tgt : Nat} (hdg : decode cc pc = .ok (.if_icmp .eq off, 3)) (ht : (pc : Int) + off = (tgt : Int)) (ha : -2147483648 ≤ a ∧ a < 2147483648) (hb2 : -2147483648 ≤ b ∧ b < 2147483648) (kt : a = b → W p l e R s m args below meth c H locs cells slots Q (F0 m tgt ls rest)) (kf : ¬ a = b → W p l e R s m args below meth c H locs cells slots Q (F0 m (pc + 3) ls rest)) : W p l e R s m args below meth c H locs cells slots Q (F0 m pc ls (.int (iI b) :: .int (iI a) :: rest)) := by
  have hi := iI_eq ha hb2
  exact lv_icmp_eq hx hb hdg ht (fun h => kt (by rw [hi] at h; exact h)) (fun h => kf (by rw [hi] at h; exact h))
theorem z_icmp_ne (hx : p.tables.exec = Jvm.exec) (hb : c.code = cc) {a b : Int} {off : Int} {tgt : Nat} (hdg : decode cc pc = .ok (.if_icmp .ne off, 3)) (ht : (pc : Int) + off = (tgt : Int)) (ha : -2147483648 ≤ a ∧ a < 2147483648) (hb2 : -2147483648 ≤ b ∧ b < 2147483648) (kt : ¬ a = b → W p l e R s m args below meth c H locs cells slots Q (F0 m tgt ls rest)) (kf : a = b → W p l e R s m args below meth c H locs cells slots Q (F0 m (pc + 3) ls rest)) : W p l e R s m args below meth c H locs cells slots Q (F0 m pc ls (.int (iI b) :: .int (iI a) :: rest)) := by
  have hi := iI_eq ha hb2
  exact lv_icmp_ne hx hb hdg ht (fun h => kt (by rw [hi] at h; exact h)) (fun h => kf (by rw [hi] at h; exact h))
theorem z_icmp_lt (hx : p.tables.exec = Jvm.exec) (hb : c.code = cc) {a b : Int} {off : Int} {tgt : Nat} (hdg : decode cc pc = .ok (.if_icmp .lt off, 3)) (ht : (pc : Int) + off = (tgt : Int)) (ha : -2147483648 ≤ a ∧ a < 2147483648) (hb2 : -2147483648 ≤ b ∧ b < 2147483648) (kt : a < b → W p l e R s m args below meth c H locs cells slots Q (F0 m tgt ls rest)) (kf : b ≤ a → W p l e R s m args below meth c H locs cells slots Q (F0 m (pc + 3) ls rest)) : W p l e R s m args below meth c H locs cells slots Q (F0 m pc ls (.int (iI b) :: .int (iI a) :: rest)) := by
  have hi := iI_lt ha hb2
  exact lv_icmp_lt hx hb hdg ht (fun h => kt (by rw [hi] at h; exact h)) (fun h => kf (by rw [hi] at h; omega))
theorem z_icmp_ge (hx : p.tables.exec = Jvm.exec) (hb : c.code = cc) {a b : Int} {off : Int} {tgt : Nat} (hdg : decode cc pc = .ok (.if_icmp .ge off, 3)) (ht : (pc : Int) + off = (tgt : Int)) (ha : -2147483648 ≤ a ∧ a < 2147483648) (hb2 : -2147483648 ≤ b ∧ b < 2147483648) (kt : b ≤ a → W p l e R s m args below meth c H locs cells slots Q (F0 m tgt ls rest)) (kf : a < b → W p l e R s m args below meth c H locs cells slots Q (F0 m (pc + 3) ls rest)) : W p l e R s m args below meth c H locs cells slots Q (F0 m pc ls (.int (iI b) :: .int (iI a) :: rest)) := by
  have hi := iI_le hb2 ha
  exact lv_icmp_ge hx hb hdg ht (fun h => kt (by rw [hi] at h; exact h)) (fun h => kf (by rw [hi] at h; omega))
theorem z_icmp_gt (hx : p.tables.exec = Jvm.exec) (hb : c.code = cc) {a b : Int} {off : Int} {tgt : Nat} (hdg : decode cc pc = .ok (.if_icmp .gt off, 3)) (ht : (pc : Int) + off = (tgt : Int)) (ha : -2147483648 ≤ a ∧ a < 2147483648) (hb2 : -2147483648 ≤ b ∧ b < 2147483648) (kt : b < a → W p l e R s m args below meth c H locs cells slots Q (F0 m tgt ls rest)) (kf : a ≤ b → W p l e R s m args below meth c H locs cells slots Q (F0 m (pc + 3) ls rest)) : W p l e R s m args below meth c H locs cells slots Q (F0 m pc ls (.int (iI b) :: .int (iI a) :: rest)) := by
  have hi := iI_lt hb2 ha
  exact lv_icmp_gt hx hb hdg ht (fun h => kt (by rw [hi] at h; exact h)) (fun h => kf (by rw [hi] at h; omega))
theorem z_icmp_le (hx : p.tables.exec = Jvm.exec) (hb : c.code = cc) {a b : Int} {off : Int} {tgt : Nat} (hdg : decode cc pc = .ok (.if_icmp .le off, 3)) (ht : (pc : Int) + off = (tgt : Int)) (ha : -2147483648 ≤ a ∧ a < 2147483648) (hb2 : -2147483648 ≤ b ∧ b < 2147483648) (kt : a ≤ b → W p l e R s m args below meth c H locs cells slots Q (F0 m tgt ls rest)) (kf : b < a → W p l e R s m args below meth c H locs cells slots Q (F0 m (pc + 3) ls rest)) : W p l e R s m args below meth c H locs cells slots Q (F0 m pc ls (.int (iI b) :: .int (iI a) :: rest)) := by
  have hi := iI_le ha hb2
  exact lv_icmp_le hx hb hdg ht (fun h => kt (by rw [hi] at h; exact h)) (fun h => kf (by rw [hi] at h; omega))
end ZR
/-! the state: scalars 0 persons, 1 slights, 2 day, 3 scorned; rows 0 pride, 1 here, 2 by, 3 against, 4 weight, 5 state, 6 borne, 7 quiet -/
abbrev zS : Type := (Nat → Nat) × (Nat → Nat → Int)
def stS (σ : zS) (i v : Nat) : zS := (fun j => if j = i then v else σ.1 j, σ.2)
def stA (σ : zS) (j k : Nat) (v : Int) : zS := (σ.1, fun j2 k2 => if j2 = j ∧ k2 = k then v else σ.2 j2 k2)
abbrev zG : Type := va_G × ClassId × ClassId × ClassId
def xF (a : Nat → Nat) (σ : zS) : List Value := [.ref (a 0), .ref (a 1), .int (iI (σ.1 0 : Nat)), .ref (a 2), .ref (a 3), .ref (a 4), .ref (a 5), .ref (a 6), .ref (a 7), .int (iI (σ.1 1 : Nat)), .int (iI (σ.1 2 : Nat)), .int (iI (σ.1 3 : Nat))]
def rW (G : zG) (a : Nat → Nat) (σ : zS) : va_W := [(a 0, .inl (G.2.1, 6, .inl (fun k => iI (σ.2 0 k)))), (a 1, .inl (G.2.2.1, 6, .inl (fun k => iI (σ.2 1 k)))), (a 2, .inl (G.2.1, 20, .inl (fun k => iI (σ.2 2 k)))), (a 3, .inl (G.2.1, 20, .inl (fun k => iI (σ.2 3 k)))), (a 4, .inl (G.2.1, 20, .inl (fun k => iI (σ.2 4 k)))), (a 5, .inl (G.2.1, 20, .inl (fun k => iI (σ.2 5 k)))), (a 6, .inl (G.2.1, 20, .inl (fun k => iI (σ.2 6 k)))), (a 7, .inl (G.2.1, 20, .inl (fun k => iI (σ.2 7 k))))]
def xW (G : zG) (x : Nat) (a : Nat → Nat) (σ : zS) : va_W := (x, .inr (0, xF a σ)) :: rW G a σ
abbrev zT (G : zG) : List (ClassId × FieldType) := [(G.2.1, .int), (G.2.2.1, .boolean), (G.2.2.2, .array .int)]
abbrev zK (G : zG) (U : State) : Prop := va_K G.1 vwCl (zT G) U
/-- which cells an object's writers may change -/
def zA (x : Nat) (a : Nat → Nat) (sz : Nat) : Nat → Prop := fun q => q = x ∨ (∃ j, j < 8 ∧ q = a j) ∨ sz ≤ q
def nA (sz : Nat) : Nat → Prop := fun q => sz ≤ q
theorem stA_ne {σ : zS} {j k i : Nat} {v : Int} (h : i ≠ j) : (stA σ j k v).2 i = σ.2 i := by funext k2; simp [stA, h]
theorem stA_eq {σ : zS} {j k : Nat} {v : Int} : (stA σ j k v).2 j k = v := by simp [stA]
theorem stA_nk {σ : zS} {j k k2 : Nat} {v : Int} (h : k2 ≠ k) : (stA σ j k v).2 j k2 = σ.2 j k2 := by simp [stA, h]
theorem stA_upd {σ : zS} {j k : Nat} {v : Int} : (fun k2 => iI ((stA σ j k v).2 j k2)) = upd (fun k2 => iI (σ.2 j k2)) k (iI v) := by
  funext k2
  by_cases h : k2 = k
  · subst h; simp [stA, upd]
  · simp [stA, upd, h]
theorem xF_stA {a : Nat → Nat} {σ : zS} {j k : Nat} {v : Int} : xF a (stA σ j k v) = xF a σ := rfl
theorem rW_set0 {G : zG} {a : Nat → Nat} {σ : zS} {k : Nat} {v : Int} : (rW G a σ).set 0 (a 0, .inl (G.2.1, 6, .inl (upd (fun k2 => iI (σ.2 0 k2)) k (iI v)))) = rW G a (stA σ 0 k v) := by
  rw [← stA_upd]
  simp only [rW, stA_ne (show (1 : Nat) ≠ 0 by decide), stA_ne (show (2 : Nat) ≠ 0 by decide), stA_ne (show (3 : Nat) ≠ 0 by decide), stA_ne (show (4 : Nat) ≠ 0 by decide), stA_ne (show (5 : Nat) ≠ 0 by decide), stA_ne (show (6 : Nat) ≠ 0 by decide), stA_ne (show (7 : Nat) ≠ 0 by decide)]
  rfl
theorem xW_set0 {G : zG} {x : Nat} {a : Nat → Nat} {σ : zS} {k : Nat} {v : Int} : (xW G x a σ).set 1 (a 0, .inl (G.2.1, 6, .inl (upd (fun k2 => iI (σ.2 0 k2)) k (iI v)))) = xW G x a (stA σ 0 k v) := congrArg (fun w => (x, Sum.inr (0, xF a σ)) :: w) rW_set0
theorem rW_set1 {G : zG} {a : Nat → Nat} {σ : zS} {k : Nat} {v : Int} : (rW G a σ).set 1 (a 1, .inl (G.2.2.1, 6, .inl (upd (fun k2 => iI (σ.2 1 k2)) k (iI v)))) = rW G a (stA σ 1 k v) := by
  rw [← stA_upd]
  simp only [rW, stA_ne (show (0 : Nat) ≠ 1 by decide), stA_ne (show (2 : Nat) ≠ 1 by decide), stA_ne (show (3 : Nat) ≠ 1 by decide), stA_ne (show (4 : Nat) ≠ 1 by decide), stA_ne (show (5 : Nat) ≠ 1 by decide), stA_ne (show (6 : Nat) ≠ 1 by decide), stA_ne (show (7 : Nat) ≠ 1 by decide)]
  rfl
theorem xW_set1 {G : zG} {x : Nat} {a : Nat → Nat} {σ : zS} {k : Nat} {v : Int} : (xW G x a σ).set 2 (a 1, .inl (G.2.2.1, 6, .inl (upd (fun k2 => iI (σ.2 1 k2)) k (iI v)))) = xW G x a (stA σ 1 k v) := congrArg (fun w => (x, Sum.inr (0, xF a σ)) :: w) rW_set1
theorem rW_set2 {G : zG} {a : Nat → Nat} {σ : zS} {k : Nat} {v : Int} : (rW G a σ).set 2 (a 2, .inl (G.2.1, 20, .inl (upd (fun k2 => iI (σ.2 2 k2)) k (iI v)))) = rW G a (stA σ 2 k v) := by
  rw [← stA_upd]
  simp only [rW, stA_ne (show (0 : Nat) ≠ 2 by decide), stA_ne (show (1 : Nat) ≠ 2 by decide), stA_ne (show (3 : Nat) ≠ 2 by decide), stA_ne (show (4 : Nat) ≠ 2 by decide), stA_ne (show (5 : Nat) ≠ 2 by decide), stA_ne (show (6 : Nat) ≠ 2 by decide), stA_ne (show (7 : Nat) ≠ 2 by decide)]
  rfl
theorem xW_set2 {G : zG} {x : Nat} {a : Nat → Nat} {σ : zS} {k : Nat} {v : Int} : (xW G x a σ).set 3 (a 2, .inl (G.2.1, 20, .inl (upd (fun k2 => iI (σ.2 2 k2)) k (iI v)))) = xW G x a (stA σ 2 k v) := congrArg (fun w => (x, Sum.inr (0, xF a σ)) :: w) rW_set2
theorem rW_set3 {G : zG} {a : Nat → Nat} {σ : zS} {k : Nat} {v : Int} : (rW G a σ).set 3 (a 3, .inl (G.2.1, 20, .inl (upd (fun k2 => iI (σ.2 3 k2)) k (iI v)))) = rW G a (stA σ 3 k v) := by
  rw [← stA_upd]
  simp only [rW, stA_ne (show (0 : Nat) ≠ 3 by decide), stA_ne (show (1 : Nat) ≠ 3 by decide), stA_ne (show (2 : Nat) ≠ 3 by decide), stA_ne (show (4 : Nat) ≠ 3 by decide), stA_ne (show (5 : Nat) ≠ 3 by decide), stA_ne (show (6 : Nat) ≠ 3 by decide), stA_ne (show (7 : Nat) ≠ 3 by decide)]
  rfl
theorem xW_set3 {G : zG} {x : Nat} {a : Nat → Nat} {σ : zS} {k : Nat} {v : Int} : (xW G x a σ).set 4 (a 3, .inl (G.2.1, 20, .inl (upd (fun k2 => iI (σ.2 3 k2)) k (iI v)))) = xW G x a (stA σ 3 k v) := congrArg (fun w => (x, Sum.inr (0, xF a σ)) :: w) rW_set3
theorem rW_set4 {G : zG} {a : Nat → Nat} {σ : zS} {k : Nat} {v : Int} : (rW G a σ).set 4 (a 4, .inl (G.2.1, 20, .inl (upd (fun k2 => iI (σ.2 4 k2)) k (iI v)))) = rW G a (stA σ 4 k v) := by
  rw [← stA_upd]
  simp only [rW, stA_ne (show (0 : Nat) ≠ 4 by decide), stA_ne (show (1 : Nat) ≠ 4 by decide), stA_ne (show (2 : Nat) ≠ 4 by decide), stA_ne (show (3 : Nat) ≠ 4 by decide), stA_ne (show (5 : Nat) ≠ 4 by decide), stA_ne (show (6 : Nat) ≠ 4 by decide), stA_ne (show (7 : Nat) ≠ 4 by decide)]
  rfl
theorem xW_set4 {G : zG} {x : Nat} {a : Nat → Nat} {σ : zS} {k : Nat} {v : Int} : (xW G x a σ).set 5 (a 4, .inl (G.2.1, 20, .inl (upd (fun k2 => iI (σ.2 4 k2)) k (iI v)))) = xW G x a (stA σ 4 k v) := congrArg (fun w => (x, Sum.inr (0, xF a σ)) :: w) rW_set4
theorem rW_set5 {G : zG} {a : Nat → Nat} {σ : zS} {k : Nat} {v : Int} : (rW G a σ).set 5 (a 5, .inl (G.2.1, 20, .inl (upd (fun k2 => iI (σ.2 5 k2)) k (iI v)))) = rW G a (stA σ 5 k v) := by
  rw [← stA_upd]
  simp only [rW, stA_ne (show (0 : Nat) ≠ 5 by decide), stA_ne (show (1 : Nat) ≠ 5 by decide), stA_ne (show (2 : Nat) ≠ 5 by decide), stA_ne (show (3 : Nat) ≠ 5 by decide), stA_ne (show (4 : Nat) ≠ 5 by decide), stA_ne (show (6 : Nat) ≠ 5 by decide), stA_ne (show (7 : Nat) ≠ 5 by decide)]
  rfl
theorem xW_set5 {G : zG} {x : Nat} {a : Nat → Nat} {σ : zS} {k : Nat} {v : Int} : (xW G x a σ).set 6 (a 5, .inl (G.2.1, 20, .inl (upd (fun k2 => iI (σ.2 5 k2)) k (iI v)))) = xW G x a (stA σ 5 k v) := congrArg (fun w => (x, Sum.inr (0, xF a σ)) :: w) rW_set5
theorem rW_set6 {G : zG} {a : Nat → Nat} {σ : zS} {k : Nat} {v : Int} : (rW G a σ).set 6 (a 6, .inl (G.2.1, 20, .inl (upd (fun k2 => iI (σ.2 6 k2)) k (iI v)))) = rW G a (stA σ 6 k v) := by
  rw [← stA_upd]
  simp only [rW, stA_ne (show (0 : Nat) ≠ 6 by decide), stA_ne (show (1 : Nat) ≠ 6 by decide), stA_ne (show (2 : Nat) ≠ 6 by decide), stA_ne (show (3 : Nat) ≠ 6 by decide), stA_ne (show (4 : Nat) ≠ 6 by decide), stA_ne (show (5 : Nat) ≠ 6 by decide), stA_ne (show (7 : Nat) ≠ 6 by decide)]
  rfl
theorem xW_set6 {G : zG} {x : Nat} {a : Nat → Nat} {σ : zS} {k : Nat} {v : Int} : (xW G x a σ).set 7 (a 6, .inl (G.2.1, 20, .inl (upd (fun k2 => iI (σ.2 6 k2)) k (iI v)))) = xW G x a (stA σ 6 k v) := congrArg (fun w => (x, Sum.inr (0, xF a σ)) :: w) rW_set6
theorem rW_set7 {G : zG} {a : Nat → Nat} {σ : zS} {k : Nat} {v : Int} : (rW G a σ).set 7 (a 7, .inl (G.2.1, 20, .inl (upd (fun k2 => iI (σ.2 7 k2)) k (iI v)))) = rW G a (stA σ 7 k v) := by
  rw [← stA_upd]
  simp only [rW, stA_ne (show (0 : Nat) ≠ 7 by decide), stA_ne (show (1 : Nat) ≠ 7 by decide), stA_ne (show (2 : Nat) ≠ 7 by decide), stA_ne (show (3 : Nat) ≠ 7 by decide), stA_ne (show (4 : Nat) ≠ 7 by decide), stA_ne (show (5 : Nat) ≠ 7 by decide), stA_ne (show (6 : Nat) ≠ 7 by decide)]
  rfl
theorem xW_set7 {G : zG} {x : Nat} {a : Nat → Nat} {σ : zS} {k : Nat} {v : Int} : (xW G x a σ).set 8 (a 7, .inl (G.2.1, 20, .inl (upd (fun k2 => iI (σ.2 7 k2)) k (iI v)))) = xW G x a (stA σ 7 k v) := congrArg (fun w => (x, Sum.inr (0, xF a σ)) :: w) rW_set7
theorem xW_put2 {G : zG} {x : Nat} {a : Nat → Nat} {σ : zS} {v : Nat} : (xW G x a σ).set 0 (x, .inr (0, (xF a σ).set 2 (.int (iI (v : Nat))))) = xW G x a (stS σ 0 v) := by
  simp [xW, xF, stS, rW]
theorem xW_put9 {G : zG} {x : Nat} {a : Nat → Nat} {σ : zS} {v : Nat} : (xW G x a σ).set 0 (x, .inr (0, (xF a σ).set 9 (.int (iI (v : Nat))))) = xW G x a (stS σ 1 v) := by
  simp [xW, xF, stS, rW]
theorem xW_put10 {G : zG} {x : Nat} {a : Nat → Nat} {σ : zS} {v : Nat} : (xW G x a σ).set 0 (x, .inr (0, (xF a σ).set 10 (.int (iI (v : Nat))))) = xW G x a (stS σ 2 v) := by
  simp [xW, xF, stS, rW]
theorem xW_put11 {G : zG} {x : Nat} {a : Nat → Nat} {σ : zS} {v : Nat} : (xW G x a σ).set 0 (x, .inr (0, (xF a σ).set 11 (.int (iI (v : Nat))))) = xW G x a (stS σ 3 v) := by
  simp [xW, xF, stS, rW]
theorem va_D_addr {A : Nat → Prop} {w w' : va_W} (h : w.map (fun q => q.1) = w'.map (fun q => q.1)) (hD : va_D A w) : va_D A w' := by
  have key : ∀ (k : Nat) (q : Nat × va_E), w'[k]? = some q → ∃ q0, w[k]? = some q0 ∧ q0.1 = q.1 := by
    intro k q hk
    have h1 : (w.map (fun q => q.1))[k]? = some q.1 := by rw [h, List.getElem?_map, hk]; rfl
    rw [List.getElem?_map] at h1
    cases hw : w[k]? with
    | none => rw [hw] at h1; cases h1
    | some q0 => rw [hw] at h1; exact ⟨q0, rfl, Option.some.inj h1⟩
  refine ⟨fun i j p q hi hj hpq => ?_, fun k q hk => ?_⟩
  · obtain ⟨p0, h1, h2⟩ := key i p hi
    obtain ⟨q0, h3, h4⟩ := key j q hj
    exact hD.1 i j p0 q0 h1 h3 (by rw [h2, h4, hpq])
  · obtain ⟨q0, h1, h2⟩ := key k q hk
    rw [← h2]; exact hD.2 k q0 h1
theorem xW_D {A : Nat → Prop} {G : zG} {x : Nat} {a : Nat → Nat} {σ σ' : zS} (h : va_D A (xW G x a σ)) : va_D A (xW G x a σ') := va_D_addr (w := xW G x a σ) (w' := xW G x a σ') rfl h
theorem rW_at {G : zG} {a : Nat → Nat} {σ : zS} {q : Nat × va_E} (h : q ∈ rW G a σ) : ∃ j, j < 8 ∧ q.1 = a j := by
  simp only [rW, List.mem_cons, List.not_mem_nil, or_false] at h
  rcases h with h | h | h | h | h | h | h | h <;> subst h
  · exact ⟨0, by decide, rfl⟩
  · exact ⟨1, by decide, rfl⟩
  · exact ⟨2, by decide, rfl⟩
  · exact ⟨3, by decide, rfl⟩
  · exact ⟨4, by decide, rfl⟩
  · exact ⟨5, by decide, rfl⟩
  · exact ⟨6, by decide, rfl⟩
  · exact ⟨7, by decide, rfl⟩
theorem xW_zA {A : Nat → Prop} {G : zG} {x : Nat} {a : Nat → Nat} {σ : zS} {sz : Nat} (h : va_D A (xW G x a σ)) : va_D (zA x a sz) (xW G x a σ) := h.weaken fun k q hk _ => by
  rcases List.mem_cons.mp (List.mem_of_getElem? hk) with h | h
  · exact Or.inl (by rw [h])
  · exact Or.inr (Or.inl (rW_at h))
theorem zA_mono {x : Nat} {a : Nat → Nat} {sz sz' q : Nat} (h : sz ≤ sz') (hq : zA x a sz' q) : zA x a sz q := by
  rcases hq with h1 | h1 | h1
  · exact Or.inl h1
  · exact Or.inr (Or.inl h1)
  · exact Or.inr (Or.inr (Nat.le_trans h h1))
/-- what a reader, a writer starts from -/
abbrev pX (G : zG) (x : Nat) (a : Nat → Nat) (σ : zS) : State → Prop := fun U => va_P G.1 vwCl (xW G x a σ) U.heap ∧ zK G U
abbrev wX (G : zG) (x : Nat) (a : Nat → Nat) (σ : zS) (sz : Nat) : State → Prop := fun U => U.heap.size = sz ∧ va_P G.1 vwCl (xW G x a σ) U.heap ∧ zK G U ∧ va_D (fun _ => True) (xW G x a σ)
theorem zK.call {G : zG} {U : State} {g : JFrame} {mk : MethodId} {a : Array Value} (h : zK G U) : zK G (U.calling g mk a) := va_K.moved (u := U) (U := U.calling g mk a) (Vm.Alike.refl U.vm) h
section ZC
variable {p : Program} {l : Launch} {e : Env} {R : Room} {s : State} {m : MethodId} {args : Array Value} {below : List Frame} {meth : Method} {c : Code} {H : Heap} {locs : List Loc} {cells slots : Nat} {Q : State → Prop}
variable {cc : ByteArray} {pc : Nat} {ls : Array Slot} {rest st0 As : List Value} {G : zG} {x : Nat} {a : Nat → Nat} {t : Nat} {σ : zS} {av : Array Value}
theorem preVX (hK : zK G s) (hP : va_P G.1 vwCl (xW G x a σ) H) : PreV s H RX0 x (va_Pc (.ref x :: As) (pX G x a σ)) As :=
  ⟨fun _ _ _ _ q => ⟨q.1, q.2.1, zK.call q.2.2⟩, va_recv hK hP (ci := 0) (q0 := 0) rfl rfl, fun U hU hW => ⟨rfl, by rw [hU]; exact hP, va_K.moved hW.alike hK⟩⟩
theorem preWX {A : Nat → Prop} (hK : zK G s) (hP : va_P G.1 vwCl (xW G x a σ) H) (hD : va_D A (xW G x a σ)) : PreV s H RX0 x (va_Pc (.ref x :: As) (wX G x a σ H.size)) As :=
  ⟨fun _ _ _ _ q => ⟨q.1, q.2.1, q.2.2.1, zK.call q.2.2.2.1, q.2.2.2.2⟩, va_recv hK hP (ci := 0) (q0 := 0) rfl rfl, fun U hU hW => ⟨rfl, by rw [hU], by rw [hU]; exact hP, va_K.moved hW.alike hK, hD.weaken (fun _ _ _ _ => trivial)⟩⟩
theorem preS0 {av : List Value} : PreS s H (va_Pc av (fun _ => True)) av := ⟨fun _ _ _ _ q => q, fun _ _ _ => ⟨rfl, trivial⟩⟩
/-- a call that changes nothing -/
theorem zc_i {v : Int32} (hr : va_Run p l e R s m args below meth c H locs cells slots 0 0 (F0 m pc ls st0) rest (vp_Si (fun r => r = v) av) (fun _ => False)) (k : W p l e R s m args below meth c H locs cells slots Q (F0 m (pc + 3) ls (.int v :: rest))) : W p l e R s m args below meth c H locs cells slots Q (F0 m pc ls st0) := vp_callSi hr.run fun r h => by rw [h]; exact k
theorem zc_l {v : Int64} (hr : va_Run p l e R s m args below meth c H locs cells slots 0 0 (F0 m pc ls st0) rest (vp_Sl (fun r => r = v) av) (fun _ => False)) (k : W p l e R s m args below meth c H locs cells slots Q (F0 m (pc + 3) ls (.long v :: rest))) : W p l e R s m args below meth c H locs cells slots Q (F0 m pc ls st0) := vp_callSl hr.run fun r h => by rw [h]; exact k
theorem zc_d {v : UInt64} (hr : va_Run p l e R s m args below meth c H locs cells slots 0 0 (F0 m pc ls st0) rest (vp_Sd (fun r => r = v) av) (fun _ => False)) (k : W p l e R s m args below meth c H locs cells slots Q (F0 m (pc + 3) ls (.double v :: rest))) : W p l e R s m args below meth c H locs cells slots Q (F0 m pc ls st0) := vp_callSd hr.run fun r h => by rw [h]; exact k
theorem zc_v (hr : va_Run p l e R s m args below meth c H locs cells slots 0 0 (F0 m pc ls st0) rest (va_Sv (fun _ => True) av) (fun _ => False)) (k : W p l e R s m args below meth c H locs cells slots Q (F0 m (pc + 3) ls rest)) : W p l e R s m args below meth c H locs cells slots Q (F0 m pc ls st0) := va_csv hr.run fun _ => k
/-- a call that writes: the callee's cells, behind it w'; what else was there stays -/
theorem zc_wi {A0 A1 : Nat → Prop} {H0 : Heap} {w' : va_W} {v : Int32} (hr : va_Run p l e R s m args below meth c H locs cells slots 0 0 (F0 m pc ls st0) rest (va_Qi (fun r (_ : Unit) => r = v) (fun _ t => va_P G.1 vwCl w' t.heap) A1 av) A1) (hS : va_S A0 H0 H locs) (hA : ∀ q, A1 q → A0 q)
    (k : ∀ (H1 : Heap) (locs1 : List Loc), va_P G.1 vwCl w' H1 → va_S A0 H0 H1 locs1 → H.size ≤ H1.size → (∀ q : Nat, q < H.size → ¬ A1 q → H1[q]? = H[q]?) → W p l e R s m args below meth c H1 locs1 cells slots Q (F0 m (pc + 3) ls (.int v :: rest))) : W p l e R s m args below meth c H locs cells slots Q (F0 m pc ls st0) :=
  va_calli hr hS (fun q _ h => hA q h) hA fun r u t2 H1 locs1 ht _ hr2 hB hz hk hS1 => by
    rw [ht] at hB; rw [hr2]; exact k H1 locs1 hB hS1 hz hk
theorem zc_wv {A0 A1 : Nat → Prop} {H0 : Heap} {w' : va_W} (hr : va_Run p l e R s m args below meth c H locs cells slots 0 0 (F0 m pc ls st0) rest (va_Qv (fun (_ : Unit) => True) (fun _ t => va_P G.1 vwCl w' t.heap) A1 av) A1) (hS : va_S A0 H0 H locs) (hA : ∀ q, A1 q → A0 q)
    (k : ∀ (H1 : Heap) (locs1 : List Loc), va_P G.1 vwCl w' H1 → va_S A0 H0 H1 locs1 → H.size ≤ H1.size → (∀ q : Nat, q < H.size → ¬ A1 q → H1[q]? = H[q]?) → W p l e R s m args below meth c H1 locs1 cells slots Q (F0 m (pc + 3) ls rest)) : W p l e R s m args below meth c H locs cells slots Q (F0 m pc ls st0) :=
  va_callv hr hS (fun q _ h => hA q h) hA fun u t2 H1 locs1 ht _ _ hB hz hk hS1 => by
    rw [ht] at hB; exact k H1 locs1 hB hS1 hz hk
end ZC
section ZM
variable {p : Program} {l : Launch} {e : Env} {R : Room} {s : State} {m : MethodId} {args : Array Value} {below : List Frame} {meth : Method} {c : Code} {H : Heap} {locs : List Loc} {cells slots : Nat} {Q : State → Prop}
variable {cc : ByteArray} {pc : Nat} {ls : Array Slot} {rest : List Value} {G : zG} {D : va_G} {cl : List vw_C} {tys : List (ClassId × FieldType)} {ws ws' : va_W} {A : Nat → Prop} {H0 : Heap} {x : Nat}
theorem z_iald (hx : p.tables.exec = Jvm.exec) (hb : c.code = cc) (hK : va_K D cl tys s) (hP : va_P D cl ws H) (q0 t0 : Nat) {cA : ClassId} {n : Nat} {f : Nat → Int32} (ha : ws[q0]? = some (x, .inl (cA, n, .inl f))) (ht : tys[t0]? = some (cA, .int)) {k : Nat} (hk : k < n) (hn : n < 2147483648) {v : Int32} (hv : f k = v) (hdg : decode cc pc = .ok (.iaload, 1))
    (kk : W p l e R s m args below meth c H locs cells slots Q (F0 m (pc + 1) ls (.int v :: rest))) : W p l e R s m args below meth c H locs cells slots Q (F0 m pc ls (.int (iI (k : Int)) :: .ref x :: rest)) :=
  va_iald hx hb hK hP q0 t0 ha ht (iI_in hk hn) hdg (by rw [iI_clamp (by omega), hv]; exact kk)
theorem z_zald (hx : p.tables.exec = Jvm.exec) (hb : c.code = cc) (hK : va_K D cl tys s) (hP : va_P D cl ws H) (q0 t0 : Nat) {cA : ClassId} {n : Nat} {f : Nat → Int32} (ha : ws[q0]? = some (x, .inl (cA, n, .inl f))) (ht : tys[t0]? = some (cA, .boolean)) {k : Nat} (hk : k < n) (hn : n < 2147483648) {v : Int32} (hv : f k = v) (hdg : decode cc pc = .ok (.baload, 1))
    (kk : W p l e R s m args below meth c H locs cells slots Q (F0 m (pc + 1) ls (.int v :: rest))) : W p l e R s m args below meth c H locs cells slots Q (F0 m pc ls (.int (iI (k : Int)) :: .ref x :: rest)) :=
  va_zald hx hb hK hP q0 t0 ha ht (iI_in hk hn) hdg (by rw [iI_clamp (by omega), hv]; exact kk)
theorem z_iast (hx : p.tables.exec = Jvm.exec) (hb : c.code = cc) (hK : va_K D cl tys s) (hP : va_P D cl ws H) (hD : va_D A ws) (hS : va_S A H0 H locs) (q0 t0 : Nat) {cA : ClassId} {n : Nat} {f : Nat → Int32} (ha : ws[q0]? = some (x, .inl (cA, n, .inl f))) (ht : tys[t0]? = some (cA, .int)) {k : Nat} (hk : k < n) (hn : n < 2147483648) {v : Int32} (hset : ws.set q0 (x, .inl (cA, n, .inl (upd f k v))) = ws') (hdg : decode cc pc = .ok (.iastore, 1))
    (kk : ∀ (H1 : Heap) (locs1 : List Loc), va_P D cl ws' H1 → va_D A ws' → va_S A H0 H1 locs1 → W p l e R s m args below meth c H1 locs1 cells slots Q (F0 m (pc + 1) ls rest)) : W p l e R s m args below meth c H locs cells slots Q (F0 m pc ls (.int v :: .int (iI (k : Int)) :: .ref x :: rest)) := by
  have hc : (iI (k : Int)).toNatClampNeg = k := iI_clamp (by omega)
  refine va_iast hx hb hK hP hD hS q0 t0 ha ht (iI_in hk hn) hdg (fun H1 locs1 hP1 hD1 hS1 => ?_)
  rw [hc, hset] at hP1 hD1
  exact kk H1 locs1 hP1 hD1 hS1
theorem z_zast (hx : p.tables.exec = Jvm.exec) (hb : c.code = cc) (hK : va_K D cl tys s) (hP : va_P D cl ws H) (hD : va_D A ws) (hS : va_S A H0 H locs) (q0 t0 : Nat) {cA : ClassId} {n : Nat} {f : Nat → Int32} (ha : ws[q0]? = some (x, .inl (cA, n, .inl f))) (ht : tys[t0]? = some (cA, .boolean)) {k : Nat} (hk : k < n) (hn : n < 2147483648) {v : Int32} (hnr : vp_nar .boolean v = v) (hset : ws.set q0 (x, .inl (cA, n, .inl (upd f k v))) = ws') (hdg : decode cc pc = .ok (.bastore, 1))
    (kk : ∀ (H1 : Heap) (locs1 : List Loc), va_P D cl ws' H1 → va_D A ws' → va_S A H0 H1 locs1 → W p l e R s m args below meth c H1 locs1 cells slots Q (F0 m (pc + 1) ls rest)) : W p l e R s m args below meth c H locs cells slots Q (F0 m pc ls (.int v :: .int (iI (k : Int)) :: .ref x :: rest)) := by
  have hc : (iI (k : Int)).toNatClampNeg = k := iI_clamp (by omega)
  refine va_zast hx hb hK hP hD hS q0 t0 ha ht (iI_in hk hn) hdg (fun H1 locs1 hP1 hD1 hS1 => ?_)
  rw [hc, hnr, hset] at hP1 hD1
  exact kk H1 locs1 hP1 hD1 hS1
theorem x_get (hx : p.tables.exec = Jvm.exec) (hb : c.code = cc) {index : Nat} {Ts : List Cond} (hts : ∀ w ∈ Ts, w.before args s = true) (hin : ∀ w ∈ wsX00, w ∈ Ts) (hown : s.vm.findClass RX0 = some m.cls) (hK : zK G s) (hP : va_P G.1 vwCl ws H) (q0 : Nat) {fs : List Value} (he : ws[q0]? = some (x, .inr (0, fs))) (k : Nat) (hk : k < 12) (hlink : (Cond.fieldLink RX0 index (TX0 k).1 (TX0 k).2.1 (TX0 k).2.2.1).before args s = true) {v : Value} (hv : fs[k]? = some v) (hdg : decode cc pc = .ok (.getfield index, 3))
    (kk : W p l e R s m args below meth c H locs cells slots Q (F0 m (pc + 3) ls (v :: rest))) : W p l e R s m args below meth c H locs cells slots Q (F0 m pc ls (.ref x :: rest)) :=
  va_get (C := RX0) (T := TX0) (N := 12) (ci := 0) hx hb hts hin hown hK hP q0 he rfl k hk hlink (fun _ h => h) hv hdg kk
theorem x_put (hx : p.tables.exec = Jvm.exec) (hb : c.code = cc) {index : Nat} {Ts : List Cond} (hts : ∀ w ∈ Ts, w.before args s = true) (hin : ∀ w ∈ wsX00, w ∈ Ts) (hown : s.vm.findClass RX0 = some m.cls) (hK : zK G s) (hP : va_P G.1 vwCl ws H) (hD : va_D A ws) (hS : va_S A H0 H locs) (q0 : Nat) {fs : List Value} (he : ws[q0]? = some (x, .inr (0, fs))) (k : Nat) (hk : k < 12) (hlink : (Cond.fieldLink RX0 index (TX0 k).1 (TX0 k).2.1 (TX0 k).2.2.1).before args s = true) (hfin : (TX0 k).2.2.2 = false) (hd : parseFieldDescriptor (TX0 k).2.2.1 = some .int) (hl : k < fs.length) {v : Int32} (hset : ws.set q0 (x, .inr (0, fs.set k (.int v))) = ws') (hdg : decode cc pc = .ok (.putfield index, 3))
    (kk : ∀ (H1 : Heap) (locs1 : List Loc), va_P G.1 vwCl ws' H1 → va_D A ws' → va_S A H0 H1 locs1 → W p l e R s m args below meth c H1 locs1 cells slots Q (F0 m (pc + 3) ls rest)) : W p l e R s m args below meth c H locs cells slots Q (F0 m pc ls (.int v :: .ref x :: rest)) :=
  va_put (C := RX0) (T := TX0) (N := 12) (ci := 0) hx hb hts hin tyX0 tyX0_ok nmX0 hown hK hP hD hS q0 he rfl k hk hlink (fun _ h => h) hfin hd rfl rfl hl hdg (fun H1 locs1 hP1 hD1 hS1 => kk H1 locs1 (by rw [← hset]; exact hP1) (by rw [← hset]; exact hD1) hS1)
/-- the number on top, said otherwise -/
theorem z_re {v v' : Int32} (h : v = v') (k : W p l e R s m args below meth c H locs cells slots Q (F0 m pc ls (.int v' :: rest))) : W p l e R s m args below meth c H locs cells slots Q (F0 m pc ls (.int v :: rest)) := h ▸ k
end ZM
theorem iI_max {a b : Int} (ha : -2147483648 ≤ a ∧ a < 2147483648) (hb2 : -2147483648 ≤ b ∧ b < 2147483648) : (if iI a < iI b then iI b else iI a) = iI (max a b) := by
  by_cases h : a < b
  · rw [if_pos ((iI_lt ha hb2).mpr h)]; exact congrArg iI (by omega)
  · rw [if_neg (fun q => h ((iI_lt ha hb2).mp q))]; exact congrArg iI (by omega)
theorem iI_min {a b : Int} (ha : -2147483648 ≤ a ∧ a < 2147483648) (hb2 : -2147483648 ≤ b ∧ b < 2147483648) : (if iI b < iI a then iI b else iI a) = iI (min a b) := by
  by_cases h : b < a
  · rw [if_pos ((iI_lt hb2 ha).mpr h)]; exact congrArg iI (by omega)
  · rw [if_neg (fun q => h ((iI_lt hb2 ha).mp q))]; exact congrArg iI (by omega)
theorem z_nb {z : Int} (h : z = 0 ∨ z = 1) : narrow .boolean (.int (iI z)) = .int (iI z) := by
  rcases h with h | h <;> subst h <;> rfl
section ZX
variable {p : Program} {l : Launch} {e : Env} {R : Room} {s : State} {m : MethodId} {args : Array Value} {below : List Frame} {meth : Method} {c : Code} {H : Heap} {locs : List Loc} {cells slots : Nat} {Q : State → Prop}
variable {cc : ByteArray} {pc : Nat} {ls : Array Slot} {rest : List Value}
theorem z_max (hx : p.tables.exec = Jvm.exec) (hb : c.code = cc) (hml : c.maxLocals = ls.size) {own : String} {index : Nat} (hown : s.vm.findClass own = some m.cls) (hlink : (Cond.methodLink own index Lib.Math.max.name).before args s = true) (hstat : (Cond.static Lib.Math.max.name).before args s = true) (hini : (Cond.initialized "java/lang/Math").before args s = true) (hcode : (Cond.code Lib.Math.max.name Lib.Math.max.code 2 (some .int)).before args s = true)
    (hframes : 1 ≤ R.frames) (hlocals : (rest.map fun v => v.category).sum + 13 ≤ R.locals) (hc : cells ≤ R.cells) (hs : slots ≤ R.slots) {a b : Int} (ha : -2147483648 ≤ a ∧ a < 2147483648) (hb2 : -2147483648 ≤ b ∧ b < 2147483648) (hdg : decode cc pc = .ok (.invokestatic index, 3))
    (kk : W p l e R s m args below meth c H locs cells slots Q (F0 m (pc + 3) ls (.int (iI (max a b)) :: rest))) : W p l e R s m args below meth c H locs cells slots Q (F0 m pc ls (.int (iI b) :: .int (iI a) :: rest)) :=
  va_mmax hx hb hml hown hlink hstat hini hcode hframes hlocals hc hs hdg (by rw [iI_max ha hb2]; exact kk)
theorem z_min (hx : p.tables.exec = Jvm.exec) (hb : c.code = cc) (hml : c.maxLocals = ls.size) {own : String} {index : Nat} (hown : s.vm.findClass own = some m.cls) (hlink : (Cond.methodLink own index Lib.Math.min.name).before args s = true) (hstat : (Cond.static Lib.Math.min.name).before args s = true) (hini : (Cond.initialized "java/lang/Math").before args s = true) (hcode : (Cond.code Lib.Math.min.name Lib.Math.min.code 2 (some .int)).before args s = true)
    (hframes : 1 ≤ R.frames) (hlocals : (rest.map fun v => v.category).sum + 13 ≤ R.locals) (hc : cells ≤ R.cells) (hs : slots ≤ R.slots) {a b : Int} (ha : -2147483648 ≤ a ∧ a < 2147483648) (hb2 : -2147483648 ≤ b ∧ b < 2147483648) (hdg : decode cc pc = .ok (.invokestatic index, 3))
    (kk : W p l e R s m args below meth c H locs cells slots Q (F0 m (pc + 3) ls (.int (iI (min a b)) :: rest))) : W p l e R s m args below meth c H locs cells slots Q (F0 m pc ls (.int (iI b) :: .int (iI a) :: rest)) :=
  va_mmin hx hb hml hown hlink hstat hini hcode hframes hlocals hc hs hdg (by rw [iI_min ha hb2]; exact kk)
end ZX
