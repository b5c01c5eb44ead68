/-! THE LAW'S OWN LEDGER, kept by hand: its world, its rows of rows. -/
def uF (P S : Nat) (σ : zS) : List Value := [.ref P, .ref S, .int (iI (σ.1 2 : Nat)), .int (iI (σ.1 3 : Nat))]
def pf (σ : zS) (p : Nat) : Nat → Int32 := fun i => if i = 0 then iI (σ.2 0 p) else if i = 1 then iI (σ.2 1 p) else 0
def sf (σ : zS) (k : Nat) : Nat → Int32 := fun i => if i < 6 then iI (σ.2 (i + 2) k) else 0
def pR (G : zG) (rp : Nat → Nat) (σ : zS) (p : Nat) : Nat × va_E := (rp p, .inl (G.2.1, 2, .inl (pf σ p)))
def sR (G : zG) (rs : Nat → Nat) (σ : zS) (k : Nat) : Nat × va_E := (rs k, .inl (G.2.1, 6, .inl (sf σ k)))
def orf (n : Nat) (r : Nat → Nat) : Nat → Option Nat := fun k => if k < n then some (r k) else none
def oR (G : zG) (q n : Nat) (r : Nat → Nat) : Nat × va_E := (q, .inl (G.2.2.2, n, .inr (.inr (.inr (.inr (orf n r))))))
def uRows (G : zG) (rp rs : Nat → Nat) (σ : zS) : va_W := (List.range (σ.1 0)).map (pR G rp σ) ++ (List.range (σ.1 1)).map (sR G rs σ)
def uW (G : zG) (y P S : Nat) (rp rs : Nat → Nat) (σ : zS) : va_W := (y, .inr (1, uF P S σ)) :: oR G P (σ.1 0) rp :: oR G S (σ.1 1) rs :: uRows G rp rs σ
def uA (n m y P S : Nat) (rp rs : Nat → Nat) (sz : Nat) : Nat → Prop := fun q => q = y ∨ q = P ∨ q = S ∨ (∃ p, p < n ∧ q = rp p) ∨ (∃ k, k < m ∧ q = rs k) ∨ sz ≤ q
theorem uR_p {G : zG} {rp rs : Nat → Nat} {σ : zS} {p : Nat} (h : p < σ.1 0) : (uRows G rp rs σ)[p]? = some (pR G rp σ p) := by
  unfold uRows
  rw [List.getElem?_append_left (by simpa using h)]
  simp [h]
theorem uR_s {G : zG} {rp rs : Nat → Nat} {σ : zS} {k : Nat} (h : k < σ.1 1) : (uRows G rp rs σ)[σ.1 0 + k]? = some (sR G rs σ k) := by
  unfold uRows
  rw [List.getElem?_append_right (by simp)]
  simp [h]
theorem uW_p {G : zG} {y P S : Nat} {rp rs : Nat → Nat} {σ : zS} {p : Nat} (h : p < σ.1 0) : (uW G y P S rp rs σ)[3 + p]? = some (pR G rp σ p) := by
  rw [show 3 + p = p + 1 + 1 + 1 from by omega]
  unfold uW
  rw [List.getElem?_cons_succ, List.getElem?_cons_succ, List.getElem?_cons_succ]
  exact uR_p h
theorem uW_s {G : zG} {y P S : Nat} {rp rs : Nat → Nat} {σ : zS} {k : Nat} (h : k < σ.1 1) : (uW G y P S rp rs σ)[3 + σ.1 0 + k]? = some (sR G rs σ k) := by
  rw [show 3 + σ.1 0 + k = σ.1 0 + k + 1 + 1 + 1 from by omega]
  unfold uW
  rw [List.getElem?_cons_succ, List.getElem?_cons_succ, List.getElem?_cons_succ]
  exact uR_s h
theorem uW_len (G : zG) (y P S : Nat) (rp rs : Nat → Nat) (σ : zS) : (uW G y P S rp rs σ).length = 3 + σ.1 0 + σ.1 1 := by
  simp [uW, uRows]; omega
/-- every place of the world is one of five kinds -/
theorem uW_all {G : zG} {y P S : Nat} {rp rs : Nat → Nat} {σ : zS} {i : Nat} {q : Nat × va_E} (h : (uW G y P S rp rs σ)[i]? = some q) :
    (i = 0 ∧ q = (y, .inr (1, uF P S σ))) ∨ (i = 1 ∧ q = oR G P (σ.1 0) rp) ∨ (i = 2 ∧ q = oR G S (σ.1 1) rs) ∨ (∃ p, p < σ.1 0 ∧ i = 3 + p ∧ q = pR G rp σ p) ∨ (∃ k, k < σ.1 1 ∧ i = 3 + σ.1 0 + k ∧ q = sR G rs σ k) := by
  have hl := (List.getElem?_eq_some_iff.mp h).1
  rw [uW_len] at hl
  rcases (show i = 0 ∨ i = 1 ∨ i = 2 ∨ (3 ≤ i ∧ i < 3 + σ.1 0) ∨ (3 + σ.1 0 ≤ i) by omega) with e | e | e | e | e
  · subst e; exact Or.inl ⟨rfl, (Option.some.inj h).symm⟩
  · subst e; exact Or.inr (Or.inl ⟨rfl, (Option.some.inj h).symm⟩)
  · subst e; exact Or.inr (Or.inr (Or.inl ⟨rfl, (Option.some.inj h).symm⟩))
  · have h2 := uW_p (G := G) (y := y) (P := P) (S := S) (rp := rp) (rs := rs) (σ := σ) (p := i - 3) (by omega)
    rw [show 3 + (i - 3) = i from by omega, h] at h2
    exact Or.inr (Or.inr (Or.inr (Or.inl ⟨i - 3, by omega, by omega, Option.some.inj h2⟩)))
  · have h2 := uW_s (G := G) (y := y) (P := P) (S := S) (rp := rp) (rs := rs) (σ := σ) (k := i - 3 - σ.1 0) (by omega)
    rw [show 3 + σ.1 0 + (i - 3 - σ.1 0) = i from by omega, h] at h2
    exact Or.inr (Or.inr (Or.inr (Or.inr ⟨i - 3 - σ.1 0, by omega, by omega, Option.some.inj h2⟩)))
theorem uW_addr {G : zG} {y P S : Nat} {rp rs : Nat → Nat} {σ σ' : zS} (h0 : σ'.1 0 = σ.1 0) (h1 : σ'.1 1 = σ.1 1) : (uW G y P S rp rs σ).map (fun q => q.1) = (uW G y P S rp rs σ').map (fun q => q.1) := by
  simp only [uW, uRows, List.map_cons, List.map_append, List.map_map, h0, h1]
  rfl
theorem uW_D {A : Nat → Prop} {G : zG} {y P S : Nat} {rp rs : Nat → Nat} {σ σ' : zS} (h0 : σ'.1 0 = σ.1 0) (h1 : σ'.1 1 = σ.1 1) (h : va_D A (uW G y P S rp rs σ)) : va_D A (uW G y P S rp rs σ') := va_D_addr (uW_addr h0 h1) h
theorem uW_uA {A : Nat → Prop} {G : zG} {y P S : Nat} {rp rs : Nat → Nat} {σ : zS} {sz : Nat} (h : va_D A (uW G y P S rp rs σ)) : va_D (uA (σ.1 0) (σ.1 1) y P S rp rs sz) (uW G y P S rp rs σ) := h.weaken fun i q hk _ => by
  rcases uW_all hk with ⟨-, e⟩ | ⟨-, e⟩ | ⟨-, e⟩ | ⟨p, hp, -, e⟩ | ⟨k, hk2, -, e⟩ <;> subst e
  · exact Or.inl rfl
  · exact Or.inr (Or.inl rfl)
  · exact Or.inr (Or.inr (Or.inl rfl))
  · exact Or.inr (Or.inr (Or.inr (Or.inl ⟨p, hp, rfl⟩)))
  · exact Or.inr (Or.inr (Or.inr (Or.inr (Or.inl ⟨k, hk2, rfl⟩))))
theorem uA_mono {n m n' m' y P S : Nat} {rp rs : Nat → Nat} {sz sz' q : Nat} (hn : n' = n) (hm : m' = m) (h : sz ≤ sz') (hq : uA n' m' y P S rp rs sz' q) : uA n m y P S rp rs sz q := by
  subst hn; subst hm
  rcases hq with h1 | h1 | h1 | h1 | h1 | h1
  · exact Or.inl h1
  · exact Or.inr (Or.inl h1)
  · exact Or.inr (Or.inr (Or.inl h1))
  · exact Or.inr (Or.inr (Or.inr (Or.inl h1)))
  · exact Or.inr (Or.inr (Or.inr (Or.inr (Or.inl h1))))
  · exact Or.inr (Or.inr (Or.inr (Or.inr (Or.inr (Nat.le_trans h h1)))))
theorem stA_ko {σ : zS} {j k i k2 : Nat} {v : Int} (h : k2 ≠ k) : (stA σ j k v).2 i k2 = σ.2 i k2 := by simp [stA, h]
theorem rm_set {α : Type} {f g : Nat → α} {n p : Nat} {e : α} (he : g p = e) (hg : ∀ q, q ≠ p → g q = f q) : ((List.range n).map f).set p e = (List.range n).map g := by
  apply List.ext_getElem?
  intro i
  rw [List.getElem?_set]
  by_cases h : p = i
  · subst h
    rw [if_pos rfl]
    by_cases hl : p < n
    · simp [hl, he]
    · simp [hl]
  · rw [if_neg h]
    by_cases hl : i < n
    · simp [hl, hg i (fun q => h q.symm)]
    · simp [hl]
theorem pf_set {σ : zS} {i p : Nat} {v : Int} (hi : i < 2) : upd (pf σ p) i (iI v) = pf (stA σ i p v) p := by
  funext j
  rcases (show i = 0 ∨ i = 1 by omega) with h | h <;> subst h
  · by_cases h : j = 0
    · subst h; simp [upd, pf, stA]
    · by_cases h1 : j = 1
      · subst h1; simp [upd, pf, stA]
      · simp [upd, pf, stA, h, h1]
  · by_cases h : j = 1
    · subst h; simp [upd, pf, stA]
    · by_cases h1 : j = 0
      · subst h1; simp [upd, pf, stA]
      · simp [upd, pf, stA, h, h1]
theorem sf_set {σ : zS} {i k : Nat} {v : Int} (hi : i < 6) : upd (sf σ k) i (iI v) = sf (stA σ (i + 2) k v) k := by
  funext j
  by_cases h : j = i
  · subst h; simp [upd, sf, stA, hi]
  · have h2 : ¬ (j + 2 = i + 2) := by omega
    simp [upd, sf, stA, h]
theorem uW_setP {G : zG} {y P S : Nat} {rp rs : Nat → Nat} {σ : zS} {i p : Nat} {v : Int} (hp : p < σ.1 0) (hi : i < 2) : (uW G y P S rp rs σ).set (3 + p) (rp p, .inl (G.2.1, 2, .inl (upd (pf σ p) i (iI v)))) = uW G y P S rp rs (stA σ i p v) := by
  rw [show 3 + p = p + 1 + 1 + 1 from by omega, pf_set hi]
  unfold uW
  rw [List.set_cons_succ, List.set_cons_succ, List.set_cons_succ]
  unfold uRows
  rw [List.set_append_left _ _ (by simpa using hp), rm_set (g := pR G rp (stA σ i p v)) (show pR G rp (stA σ i p v) p = (rp p, .inl (G.2.1, 2, .inl (pf (stA σ i p v) p))) from rfl) (fun q hq => by unfold pR pf; rw [stA_ko hq, stA_ko hq])]
  have e : sR G rs (stA σ i p v) = sR G rs σ := by
    funext k
    unfold sR sf
    have e2 : (fun j : Nat => if j < 6 then iI ((stA σ i p v).2 (j + 2) k) else 0) = (fun j : Nat => if j < 6 then iI (σ.2 (j + 2) k) else 0) := by
      funext j
      rw [stA_ne (show j + 2 ≠ i by omega)]
    rw [e2]
  rw [e]
  rfl
theorem uW_setS {G : zG} {y P S : Nat} {rp rs : Nat → Nat} {σ : zS} {i k : Nat} {v : Int} (_hk : k < σ.1 1) (hi : i < 6) : (uW G y P S rp rs σ).set (3 + σ.1 0 + k) (rs k, .inl (G.2.1, 6, .inl (upd (sf σ k) i (iI v)))) = uW G y P S rp rs (stA σ (i + 2) k v) := by
  rw [show 3 + σ.1 0 + k = (σ.1 0 + k) + 1 + 1 + 1 from by omega, sf_set hi]
  unfold uW
  rw [List.set_cons_succ, List.set_cons_succ, List.set_cons_succ]
  unfold uRows
  rw [List.set_append_right _ _ (by simp), List.length_map, List.length_range, Nat.add_sub_cancel_left, rm_set (g := sR G rs (stA σ (i + 2) k v)) (show sR G rs (stA σ (i + 2) k v) k = (rs k, .inl (G.2.1, 6, .inl (sf (stA σ (i + 2) k v) k))) from rfl) (fun q hq => by
    unfold sR sf
    have e2 : (fun j : Nat => if j < 6 then iI ((stA σ (i + 2) k v).2 (j + 2) q) else 0) = (fun j : Nat => if j < 6 then iI (σ.2 (j + 2) q) else 0) := by
      funext j
      rw [stA_ko hq]
    rw [e2])]
  have e : pR G rp (stA σ (i + 2) k v) = pR G rp σ := by
    funext p
    unfold pR pf
    rw [stA_ne (show 0 ≠ i + 2 by omega), stA_ne (show 1 ≠ i + 2 by omega)]
  rw [e]
  rfl
theorem uW_put2 {G : zG} {y P S : Nat} {rp rs : Nat → Nat} {σ : zS} {v : Nat} : (uW G y P S rp rs σ).set 0 (y, .inr (1, (uF P S σ).set 2 (.int (iI (v : Nat))))) = uW G y P S rp rs (stS σ 2 v) := rfl
theorem uW_put3 {G : zG} {y P S : Nat} {rp rs : Nat → Nat} {σ : zS} {v : Nat} : (uW G y P S rp rs σ).set 0 (y, .inr (1, (uF P S σ).set 3 (.int (iI (v : Nat))))) = uW G y P S rp rs (stS σ 3 v) := rfl
/-- that an array of rows may be made -/
def zO (U : State) : Prop := (Cond.arrayOver (.array .int)).before #[] U = true
theorem zO.moved {u U : State} (hvm : u.vm.Alike U.vm) (h : zO u) : zO U := by
  obtain ⟨comp, c, k, h1, h2, h3, h4, h5⟩ := arrayOverA_spec h
  obtain ⟨k', hk', he⟩ := hvm.2.2 _ _ h3
  have hi : (U.vm.classes.findIdx? fun (x : Class) => match x.kind with | .array component _ => component == comp | _ => false) = some c := by
    rw [hvm.findIdx?_eq _ (fun _ => rfl)]
    exact h2
  have hkind : k'.kind = .array comp (.array .int) := by rw [he]; exact h4
  have f1 : U.vm.findClass (FieldType.array .int).toString = some comp := by rw [hvm.findClass]; exact h1
  have f2 : U.vm.findClass ("[" ++ (FieldType.array .int).toString) = some c := by rw [hvm.findClass]; exact h5
  unfold zO Cond.before Cond.holds
  simp only [Cond.value]
  rw [f1, Option.bind_some]
  refine (congrArg (fun o : Option Nat => (o.bind (fun c => (U.vm.classes[c]?).map fun (k : Class) => match k.kind with | .array _ ty => decide (ty = FieldType.array .int) && decide (U.vm.findClass ("[" ++ (FieldType.array .int).toString) = some c) | _ => false) == some true)) hi).trans ?_
  simp [hk', hkind, f2]
theorem zO.call {U : State} {g : JFrame} {mk : MethodId} {a : Array Value} (h : zO U) : zO (U.calling g mk a) := zO.moved (u := U) (U := U.calling g mk a) (Vm.Alike.refl U.vm) h
theorem zO_use {G : zG} {s : State} (hK : zK G s) (hO : zO s) : ∃ kA kC : Class, s.vm.classes[G.2.2.2]? = some kA ∧ kA.kind = .array G.2.1 (.array .int) ∧ s.vm.classes[G.2.1]? = some kC := by
  obtain ⟨comp, c, k, h1, h2, h3, h4, h5⟩ := arrayOverA_spec hO
  have hc : c = G.2.2.2 := zK_arr hK h5
  have hcomp : comp = G.2.1 := by
    have g1 : s.vm.findClass ("[" ++ FieldType.int.toString) = some G.2.1 := (hK.2 0 (G.2.1, .int) rfl).2
    exact Option.some.inj (h1.symm.trans g1)
  subst hc; subst hcomp
  obtain ⟨-, kC, hkC, -⟩ := (hK.2 0 (G.2.1, .int) rfl).1 0 (fun _ => .null)
  exact ⟨k, kC, h3, h4, hkC⟩
section ZU
variable {p : Program} {l : Launch} {e : Env} {R : Room} {s : State} {m : MethodId} {args : Array Value} {below : List Frame} {meth : Method} {c : Code} {H : Heap} {locs : List Loc} {cells slots : Nat} {Q : State → Prop}
variable {cc : ByteArray} {pc : Nat} {ls : Array Slot} {rest : List Value} {G : zG} {A : Nat → Prop} {ws ws' : va_W} {H0 : Heap} {a : Nat}
theorem u_aald (hx : p.tables.exec = Jvm.exec) (hb : c.code = cc) (hK : zK G s) (hP : va_P G.1 vwCl ws H) (q0 : Nat) {n : Nat} {f : Nat → Option Nat} (ha : ws[q0]? = some (a, .inl (G.2.2.2, n, .inr (.inr (.inr (.inr f)))))) {i v : Nat} (hi : i < n) (hn : n < 2147483648) (hf : f i = some v) (hdg : decode cc pc = .ok (.aaload, 1))
    (kk : W p l e R s m args below meth c H locs cells slots Q (F0 m (pc + 1) ls (.ref v :: rest))) : W p l e R s m args below meth c H locs cells slots Q (F0 m pc ls (.int (iI (i : Int)) :: .ref a :: rest)) := by
  have hc : (iI (i : Int)).toNatClampNeg = i := iI_clamp (by omega)
  have hin := iI_in hi hn
  exact W.aald (v := .ref v) (ty := .array .int) hx hb (hP q0 _ ha) ((hK.2 2 (G.2.2.2, .array .int) rfl).1 n (fun j => va_rf (f j))) rfl (fun q => by cases q) (by show ¬ (iI (i : Int) < 0 ∨ (arrV _ _ _).slots.size ≤ _); rw [arrV_size]; exact hin) (by show (arrV _ _ _).slots[_]? = _; rw [hc, arrV_read _ _ hi, hf]; rfl) rfl rfl hdg kk
theorem u_len (hx : p.tables.exec = Jvm.exec) (hb : c.code = cc) (hK : zK G s) (hP : va_P G.1 vwCl ws H) (q0 : Nat) {n : Nat} {f : Nat → Option Nat} (ha : ws[q0]? = some (a, .inl (G.2.2.2, n, .inr (.inr (.inr (.inr f)))))) (hdg : decode cc pc = .ok (.arraylength, 1))
    (kk : W p l e R s m args below meth c H locs cells slots Q (F0 m (pc + 1) ls (.int (iI (n : Int)) :: rest))) : W p l e R s m args below meth c H locs cells slots Q (F0 m pc ls (.ref a :: rest)) :=
  va_alen hx hb hK hP q0 2 ha (ty := .array .int) rfl (v := iI (n : Int)) (by show Int32.ofNat n = Int32.ofInt (n : Int); first | rfl | exact (Int32.ofInt_natCast _).symm | simp) hdg kk
theorem u_leni (hx : p.tables.exec = Jvm.exec) (hb : c.code = cc) (hK : zK G s) (hP : va_P G.1 vwCl ws H) (q0 : Nat) {n : Nat} {f : Nat → Int32} (ha : ws[q0]? = some (a, .inl (G.2.1, n, .inl f))) (hdg : decode cc pc = .ok (.arraylength, 1))
    (kk : W p l e R s m args below meth c H locs cells slots Q (F0 m (pc + 1) ls (.int (iI (n : Int)) :: rest))) : W p l e R s m args below meth c H locs cells slots Q (F0 m pc ls (.ref a :: rest)) :=
  va_alen hx hb hK hP q0 0 ha (ty := .int) rfl (v := iI (n : Int)) (by show Int32.ofNat n = Int32.ofInt (n : Int); first | rfl | exact (Int32.ofInt_natCast _).symm | simp) hdg kk
theorem u_aast (hx : p.tables.exec = Jvm.exec) (hb : c.code = cc) (hK : zK G s) (hO : zO s) (hP : va_P G.1 vwCl ws H) (hD : va_D A ws) (hS : va_S A H0 H locs) (q0 qk : Nat) {n v nv : Nat} {f : Nat → Option Nat} {fv : Nat → Int32} (ha : ws[q0]? = some (a, .inl (G.2.2.2, n, .inr (.inr (.inr (.inr f)))))) (hv : ws[qk]? = some (v, .inl (G.2.1, nv, .inl fv))) {i : Nat} (hi : i < n) (hn : n < 2147483648) {f' : Nat → Option Nat} (hf : va_up f i (some v) = f') (hdg : decode cc pc = .ok (.aastore, 1))
    (kk : ∀ (H1 : Heap) (locs1 : List Loc), va_P G.1 vwCl (ws.set q0 (a, .inl (G.2.2.2, n, .inr (.inr (.inr (.inr f')))))) H1 → va_D A (ws.set q0 (a, .inl (G.2.2.2, n, .inr (.inr (.inr (.inr f')))))) → va_S A H0 H1 locs1 → W p l e R s m args below meth c H1 locs1 cells slots Q (F0 m (pc + 1) ls rest)) : W p l e R s m args below meth c H locs cells slots Q (F0 m pc ls (.ref v :: .int (iI (i : Int)) :: .ref a :: rest)) := by
  have hc : (iI (i : Int)).toNatClampNeg = i := iI_clamp (by omega)
  have hin := iI_in hi hn
  have h0 : ¬ iI (i : Int) < 0 := fun q => hin (Or.inl q)
  obtain ⟨kA, kC, k1, k2, k3⟩ := zO_use hK hO
  refine W.aast hx hb (hP q0 _ ha) (fun q h => by cases h) (fun h => by cases h) k1 k2 rfl k3 ⟨h0, by show _ < (arrV _ _ _).slots.size; rw [arrV_size, hc]; exact hi⟩ (hP qk _ hv) (fun q h => by cases h) k3 (by show Vm.assignableAux s.vm (255 + 1) G.2.1 G.2.1 = true; rw [Vm.assignableAux]; simp only [beq_self_eq_true, Bool.true_or]) rfl rfl hdg fun H1 e z oq => ?_
  refine kk H1 _ (hP.set hD ha ?_ oq) (hD.set ha) (hS.put z oq (hD.2 q0 _ ha))
  show H1[a]? = some (vp_cell _ _)
  rw [e]
  rw [vp_cell_q, vp_cell_q, arrV_store, hc, ← hf]
  congr 2
  funext q
  by_cases hq : q = i
  · subst hq
    simp [updV, va_up, va_rf]
  · simp [updV, va_up, hq]
theorem u_anew (hx : p.tables.exec = Jvm.exec) (hb : c.code = cc) {own : String} {index : Nat} (hown : s.vm.findClass own = some m.cls) (hclink : (Cond.classLink own index (FieldType.array .int).toString).before args s = true) (hO : zO s) (hK : zK G s) (hP : va_P G.1 vwCl ws H) (hD : va_D A ws) (hS : va_S A H0 H locs) (hA : ∀ q, H0.size ≤ q → A q)
    {N : Nat} (hN : N ≤ 1000) (hcells : cells + 1 ≤ R.cells) (hslots : slots + N ≤ R.slots) (hdg : decode cc pc = .ok (.anewarray index, 3))
    (kk : ∀ (q : Nat) (H1 : Heap), va_P G.1 vwCl (ws ++ [(q, .inl (G.2.2.2, N, .inr (.inr (.inr (.inr (fun _ => none))))))]) H1 → va_D A (ws ++ [(q, .inl (G.2.2.2, N, .inr (.inr (.inr (.inr (fun _ => none))))))]) → va_S A H0 H1 locs → H1.size = H.size + 1 → q = H.size →
      W p l e R s m args below meth c H1 locs (cells + 1) (slots + N) Q (F0 m (pc + 3) ls (.ref q :: rest))) : W p l e R s m args below meth c H locs cells slots Q (F0 m pc ls (.int (iI (N : Int)) :: rest)) := by
  have hc : (iI (N : Int)).toNatClampNeg = N := iI_clamp (by omega)
  refine W.anewA hx hb hown hclink hO rfl hdg rfl (by rw [← iI_0, iI_lt (by omega) (by omega)]; omega) (by rw [hc]; omega) hcells (by rw [hc]; exact hslots) fun cA kA comp f1 f2 f3 f4 => ?_
  rw [hc]
  have hcA := zK_arr hK f1
  subst hcA
  generalize hH1 : H.push ({ cls := G.2.2.2, slots := Array.replicate N .null, vm := .none } : Cell) = H1
  have z1 : H1.size = H.size + 1 := by rw [← hH1, Array.size_push]
  have e1 : H1[H.size]? = some (arrV G.2.2.2 N (fun _ => .null)) := by rw [← hH1, Array.getElem?_push_size, ← arrV_new]
  have o1 : ∀ q : Nat, q < H.size → H1[q]? = H[q]? := fun q hq => by rw [← hH1, Array.getElem?_push, if_neg (Nat.ne_of_lt hq)]
  have hk : ∀ (k : Nat) (x : Nat × va_E), ws[k]? = some x → H1[x.1]? = H[x.1]? := fun k x hx => o1 x.1 ((hP k x hx).lt)
  refine kk H.size H1 ((hP.kept hk).app (fun k x hx => ?_)) (hD.push hP rfl (hA _ hS.1)) ⟨Nat.le_trans hS.1 (by omega), fun x h1 h2 => (o1 x (Nat.lt_of_lt_of_le h1 hS.1)).trans (hS.2.1 x h1 h2), hS.2.2⟩ z1 rfl
  have hz : k < 1 := (List.getElem?_eq_some_iff.mp hx).1
  rw [show k = 0 by omega] at hx
  cases hx
  show H1[H.size]? = some (vp_cell _ _)
  rw [vp_cell_q]
  exact e1
end ZU
section ZV
variable {p : Program} {l : Launch} {e : Env} {R : Room} {s : State} {m : MethodId} {args : Array Value} {below : List Frame} {meth : Method} {c : Code} {H : Heap} {locs : List Loc} {cells slots : Nat} {Q : State → Prop}
variable {cc : ByteArray} {pc : Nat} {ls : Array Slot} {rest st0 As : List Value} {G : zG} {A : Nat → Prop} {ws ws' : va_W} {H0 : Heap} {x y P S : Nat} {rp rs : Nat → Nat} {σ : zS} {av : Array Value}
theorem u_get (hx : p.tables.exec = Jvm.exec) (hb : c.code = cc) {own : String} {index : Nat} {Ts : List Cond} (hts : ∀ w ∈ Ts, w.before args s = true) (hin : ∀ w ∈ wsX10, w ∈ Ts) (hown : s.vm.findClass own = some m.cls) (hK : zK G s) (hP : va_P G.1 vwCl ws H) (q0 : Nat) {fs : List Value} (he : ws[q0]? = some (x, .inr (1, fs))) (k : Nat) (hk : k < 4) (hlink : (Cond.fieldLink own index RX1 (TX1 k).2.1 (TX1 k).2.2.1).before args s = true) (hk1 : (TX1 k).1 = RX1) {v : Value} (hv : fs[k]? = some v) (hdg : decode cc pc = .ok (.getfield index, 3))
    (kk : W p l e R s m args below meth c H locs cells slots Q (F0 m (pc + 3) ls (v :: rest))) : W p l e R s m args below meth c H locs cells slots Q (F0 m pc ls (.ref x :: rest)) :=
  va_get (ref := RX1) (C := RX1) (T := TX1) (N := 4) (ci := 1) hx hb hts hin hown hK hP q0 he rfl k hk hlink (fun _ h => by rw [hk1] at h; exact h) hv hdg kk
theorem u_put (hx : p.tables.exec = Jvm.exec) (hb : c.code = cc) {own : String} {index : Nat} {Ts : List Cond} (hts : ∀ w ∈ Ts, w.before args s = true) (hin : ∀ w ∈ wsX10, w ∈ Ts) (hown : s.vm.findClass own = some m.cls) (hK : zK G s) (hP : va_P G.1 vwCl ws H) (hD : va_D A ws) (hS : va_S A H0 H locs) (q0 : Nat) {fs : List Value} (he : ws[q0]? = some (x, .inr (1, fs))) (k : Nat) (hk : k < 4) (hlink : (Cond.fieldLink own index RX1 (TX1 k).2.1 (TX1 k).2.2.1).before args s = true) (hk1 : (TX1 k).1 = RX1) (hfin : (TX1 k).2.2.2 = false) (hd : parseFieldDescriptor (TX1 k).2.2.1 = some .int) (hl : k < fs.length) {v : Int32} (hset : ws.set q0 (x, .inr (1, fs.set k (.int v))) = ws') (hdg : decode cc pc = .ok (.putfield index, 3))
    (kk : ∀ (H1 : Heap) (locs1 : List Loc), va_P G.1 vwCl ws' H1 → va_D A ws' → va_S A H0 H1 locs1 → W p l e R s m args below meth c H1 locs1 cells slots Q (F0 m (pc + 3) ls rest)) : W p l e R s m args below meth c H locs cells slots Q (F0 m pc ls (.int v :: .ref x :: rest)) :=
  va_put (ref := RX1) (C := RX1) (T := TX1) (N := 4) (ci := 1) hx hb hts hin tyX1 tyX1_ok nmX1 hown hK hP hD hS q0 he rfl k hk hlink (fun _ h => by rw [hk1] at h; exact h) hfin hd rfl rfl hl hdg (fun H1 locs1 hP1 hD1 hS1 => kk H1 locs1 (by rw [← hset]; exact hP1) (by rw [← hset]; exact hD1) hS1)
theorem u_putq (hx : p.tables.exec = Jvm.exec) (hb : c.code = cc) {own : String} {index : Nat} {Ts : List Cond} (hts : ∀ w ∈ Ts, w.before args s = true) (hin : ∀ w ∈ wsX10, w ∈ Ts) (hown : s.vm.findClass own = some m.cls) (hK : zK G s) (hP : va_P G.1 vwCl ws H) (hD : va_D A ws) (hS : va_S A H0 H locs) (q0 : Nat) {fs : List Value} (he : ws[q0]? = some (x, .inr (1, fs))) (k : Nat) (hk : k < 4) (hlink : (Cond.fieldLink own index RX1 (TX1 k).2.1 (TX1 k).2.2.1).before args s = true) (hk1 : (TX1 k).1 = RX1) (hfin : (TX1 k).2.2.2 = false) (hd : parseFieldDescriptor (TX1 k).2.2.1 = some (.array (.array .int))) (hl : k < fs.length) {v : Nat} (hset : ws.set q0 (x, .inr (1, fs.set k (.ref v))) = ws') (hdg : decode cc pc = .ok (.putfield index, 3))
    (kk : ∀ (H1 : Heap) (locs1 : List Loc), va_P G.1 vwCl ws' H1 → va_D A ws' → va_S A H0 H1 locs1 → W p l e R s m args below meth c H1 locs1 cells slots Q (F0 m (pc + 3) ls rest)) : W p l e R s m args below meth c H locs cells slots Q (F0 m pc ls (.ref v :: .ref x :: rest)) :=
  va_put (ref := RX1) (C := RX1) (T := TX1) (N := 4) (ci := 1) hx hb hts hin tyX1 tyX1_ok nmX1 hown hK hP hD hS q0 he rfl k hk hlink (fun _ h => by rw [hk1] at h; exact h) hfin hd rfl rfl hl hdg (fun H1 locs1 hP1 hD1 hS1 => kk H1 locs1 (by rw [← hset]; exact hP1) (by rw [← hset]; exact hD1) hS1)
theorem u_ildS (hx : p.tables.exec = Jvm.exec) (hb : c.code = cc) (hK : zK G s) (hP : va_P G.1 vwCl (uW G y P S rp rs σ) H) {k i : Nat} (hk : k < σ.1 1) (hi : i < 6) {v : Int32} (hv : iI (σ.2 (i + 2) k) = v) (hdg : decode cc pc = .ok (.iaload, 1))
    (kk : W p l e R s m args below meth c H locs cells slots Q (F0 m (pc + 1) ls (.int v :: rest))) : W p l e R s m args below meth c H locs cells slots Q (F0 m pc ls (.int (iI (i : Int)) :: .ref (rs k) :: rest)) :=
  z_iald hx hb hK hP (3 + σ.1 0 + k) 0 (uW_s hk) rfl (k := i) hi (by decide) (by show sf σ k i = v; unfold sf; rw [if_pos hi]; exact hv) hdg kk
theorem u_ildP (hx : p.tables.exec = Jvm.exec) (hb : c.code = cc) (hK : zK G s) (hP : va_P G.1 vwCl (uW G y P S rp rs σ) H) {k i : Nat} (hk : k < σ.1 0) (hi : i < 2) {v : Int32} (hv : iI (σ.2 i k) = v) (hdg : decode cc pc = .ok (.iaload, 1))
    (kk : W p l e R s m args below meth c H locs cells slots Q (F0 m (pc + 1) ls (.int v :: rest))) : W p l e R s m args below meth c H locs cells slots Q (F0 m pc ls (.int (iI (i : Int)) :: .ref (rp k) :: rest)) :=
  z_iald hx hb hK hP (3 + k) 0 (uW_p hk) rfl (k := i) hi (by decide) (by show pf σ k i = v; unfold pf; rcases (show i = 0 ∨ i = 1 by omega) with h | h <;> subst h <;> exact hv) hdg kk
theorem u_istS (hx : p.tables.exec = Jvm.exec) (hb : c.code = cc) (hK : zK G s) (hP : va_P G.1 vwCl (uW G y P S rp rs σ) H) (hD : va_D A (uW G y P S rp rs σ)) (hS : va_S A H0 H locs) {k i j : Nat} (hj : i + 2 = j) (hk : k < σ.1 1) (hi : i < 6) {v : Int} (hdg : decode cc pc = .ok (.iastore, 1))
    (kk : ∀ (H1 : Heap) (locs1 : List Loc), va_P G.1 vwCl (uW G y P S rp rs (stA σ j k v)) H1 → va_D A (uW G y P S rp rs (stA σ j k v)) → va_S A H0 H1 locs1 → W p l e R s m args below meth c H1 locs1 cells slots Q (F0 m (pc + 1) ls rest)) : W p l e R s m args below meth c H locs cells slots Q (F0 m pc ls (.int (iI v) :: .int (iI (i : Int)) :: .ref (rs k) :: rest)) := by
  subst hj
  exact z_iast hx hb hK hP hD hS (3 + σ.1 0 + k) 0 (uW_s hk) rfl (k := i) hi (by decide) (uW_setS hk hi) hdg kk
theorem u_aalP (hx : p.tables.exec = Jvm.exec) (hb : c.code = cc) (hK : zK G s) (hP : va_P G.1 vwCl (uW G y P S rp rs σ) H) {k : Nat} (hk : k < σ.1 0) (hn : σ.1 0 < 2147483648) (hdg : decode cc pc = .ok (.aaload, 1))
    (kk : W p l e R s m args below meth c H locs cells slots Q (F0 m (pc + 1) ls (.ref (rp k) :: rest))) : W p l e R s m args below meth c H locs cells slots Q (F0 m pc ls (.int (iI (k : Int)) :: .ref P :: rest)) :=
  u_aald hx hb hK hP 1 rfl hk hn (by unfold orf; rw [if_pos hk]) hdg kk
theorem u_aalS (hx : p.tables.exec = Jvm.exec) (hb : c.code = cc) (hK : zK G s) (hP : va_P G.1 vwCl (uW G y P S rp rs σ) H) {k : Nat} (hk : k < σ.1 1) (hn : σ.1 1 < 2147483648) (hdg : decode cc pc = .ok (.aaload, 1))
    (kk : W p l e R s m args below meth c H locs cells slots Q (F0 m (pc + 1) ls (.ref (rs k) :: rest))) : W p l e R s m args below meth c H locs cells slots Q (F0 m pc ls (.int (iI (k : Int)) :: .ref S :: rest)) :=
  u_aald hx hb hK hP 2 rfl hk hn (by unfold orf; rw [if_pos hk]) hdg kk
theorem u_lenP (hx : p.tables.exec = Jvm.exec) (hb : c.code = cc) (hK : zK G s) (hP : va_P G.1 vwCl (uW G y P S rp rs σ) H) (hdg : decode cc pc = .ok (.arraylength, 1))
    (kk : W p l e R s m args below meth c H locs cells slots Q (F0 m (pc + 1) ls (.int (iI ((σ.1 0 : Nat) : Int)) :: rest))) : W p l e R s m args below meth c H locs cells slots Q (F0 m pc ls (.ref P :: rest)) :=
  u_len hx hb hK hP 1 rfl hdg kk
theorem u_lenS (hx : p.tables.exec = Jvm.exec) (hb : c.code = cc) (hK : zK G s) (hP : va_P G.1 vwCl (uW G y P S rp rs σ) H) (hdg : decode cc pc = .ok (.arraylength, 1))
    (kk : W p l e R s m args below meth c H locs cells slots Q (F0 m (pc + 1) ls (.int (iI ((σ.1 1 : Nat) : Int)) :: rest))) : W p l e R s m args below meth c H locs cells slots Q (F0 m pc ls (.ref S :: rest)) :=
  u_len hx hb hK hP 2 rfl hdg kk
abbrev pU (G : zG) (y P S : Nat) (rp rs : Nat → Nat) (σ : zS) : State → Prop := fun U => va_P G.1 vwCl (uW G y P S rp rs σ) U.heap ∧ zK G U
abbrev wU (G : zG) (y P S : Nat) (rp rs : Nat → Nat) (σ : zS) (sz : Nat) : State → Prop := fun U => U.heap.size = sz ∧ va_P G.1 vwCl (uW G y P S rp rs σ) U.heap ∧ zK G U ∧ va_D (fun _ => True) (uW G y P S rp rs σ)
theorem preVU (hK : zK G s) (hP : va_P G.1 vwCl (uW G y P S rp rs σ) H) : PreV s H RX1 y (va_Pc (.ref y :: As) (pU G y P S rp rs σ)) As :=
  ⟨fun _ _ _ _ q => ⟨q.1, q.2.1, zK.call q.2.2⟩, va_recv hK hP (ci := 1) (q0 := 0) rfl rfl, fun U hU hW => ⟨rfl, by rw [hU]; exact hP, va_K.moved hW.alike hK⟩⟩
theorem preWU {A : Nat → Prop} (hK : zK G s) (hP : va_P G.1 vwCl (uW G y P S rp rs σ) H) (hD : va_D A (uW G y P S rp rs σ)) : PreV s H RX1 y (va_Pc (.ref y :: As) (wU G y P S rp rs σ H.size)) As :=
  ⟨fun _ _ _ _ q => ⟨q.1, q.2.1, q.2.2.1, zK.call q.2.2.2.1, q.2.2.2.2⟩, va_recv hK hP (ci := 1) (q0 := 0) rfl rfl, fun U hU hW => ⟨rfl, by rw [hU], by rw [hU]; exact hP, va_K.moved hW.alike hK, hD.weaken (fun _ _ _ _ => trivial)⟩⟩
end ZV
