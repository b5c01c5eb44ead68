/-! WORLDS SIDE BY SIDE: the class, the reference, the law's row of one long. -/
def oW (G : zG) (o : Nat) (v : Int64) : Nat × va_E := (o, .inl (G.2.2.2, 1, .inr (.inl (fun _ => v))))
def lA (x : Nat) (a : Nat → Nat) (o sz : Nat) : Nat → Prop := fun q => q = o ∨ zA x a sz q
theorem rW_get (G : zG) (a : Nat → Nat) (σ : zS) {j : Nat} (hj : j < 8) : ∃ e, (rW G a σ)[j]? = some (a j, e) := by
  rcases (show j = 0 ∨ j = 1 ∨ j = 2 ∨ j = 3 ∨ j = 4 ∨ j = 5 ∨ j = 6 ∨ j = 7 by omega) with h | h | h | h | h | h | h | h <;> subst h <;> exact ⟨_, rfl⟩
theorem xW_out {A : Nat → Prop} {G : zG} {x : Nat} {a : Nat → Nat} {σ : zS} {w2 : va_W} {H : Heap} (hP : va_P G.1 vwCl (xW G x a σ ++ w2) H) (hD : va_D A (xW G x a σ ++ w2)) {k : Nat} {q : Nat × va_E} (hq : w2[k]? = some q) : q.1 < H.size ∧ ¬ zA x a H.size q.1 := by
  have hl := ((va_Pr hP) k q hq).lt
  have e2 : (xW G x a σ ++ w2)[9 + k]? = some q := by rw [List.getElem?_append_right (by show 9 ≤ _; omega)]; show w2[9 + k - 9]? = _; rw [Nat.add_sub_cancel_left]; exact hq
  refine ⟨hl, fun h => ?_⟩
  rcases h with h | ⟨j, hj, h⟩ | h
  · have := hD.1 0 (9 + k) (x, .inr (0, xF a σ)) q rfl e2 h.symm
    omega
  · obtain ⟨e, he⟩ := rW_get G a σ hj
    have e1 : (xW G x a σ ++ w2)[j + 1]? = some (a j, e) := by rw [List.getElem?_append_left (by show j + 1 < 9; omega)]; exact he
    have := hD.1 (j + 1) (9 + k) (a j, e) q e1 e2 h.symm
    omega
  · omega
theorem mW_out {A : Nat → Prop} {G : zG} {x : Nat} {a : Nat → Nat} {t : Nat} {σ : zS} {w2 : va_W} {H : Heap} (hP : va_P G.1 vwCl (mW G x a t σ ++ w2) H) (hD : va_D A (mW G x a t σ ++ w2)) {k : Nat} {q : Nat × va_E} (hq : w2[k]? = some q) : q.1 < H.size ∧ ¬ zA x a H.size q.1 := by
  have hl := ((va_Pr hP) k q hq).lt
  have e2 : (mW G x a t σ ++ w2)[9 + k]? = some q := by rw [List.getElem?_append_right (by show 9 ≤ _; omega)]; show w2[9 + k - 9]? = _; rw [Nat.add_sub_cancel_left]; exact hq
  refine ⟨hl, fun h => ?_⟩
  rcases h with h | ⟨j, hj, h⟩ | h
  · have := hD.1 0 (9 + k) (x, .inr (1, mF a t σ)) q rfl e2 h.symm
    omega
  · obtain ⟨e, he⟩ := rW_get G a σ hj
    have e1 : (mW G x a t σ ++ w2)[j + 1]? = some (a j, e) := by rw [List.getElem?_append_left (by show j + 1 < 9; omega)]; exact he
    have := hD.1 (j + 1) (9 + k) (a j, e) q e1 e2 h.symm
    omega
  · omega
theorem x_keep {A : Nat → Prop} {G : zG} {x : Nat} {a : Nat → Nat} {σ σ' : zS} {w2 : va_W} {H H1 : Heap} (hP : va_P G.1 vwCl (xW G x a σ ++ w2) H) (hD : va_D A (xW G x a σ ++ w2)) (hP1 : va_P G.1 vwCl (xW G x a σ') H1) (hk : ∀ q : Nat, q < H.size → ¬ zA x a H.size q → H1[q]? = H[q]?) : va_P G.1 vwCl (xW G x a σ' ++ w2) H1 :=
  va_P.app hP1 ((va_Pr hP).kept fun k q hq => hk q.1 (xW_out hP hD hq).1 (xW_out hP hD hq).2)
theorem m_keep {A : Nat → Prop} {G : zG} {x : Nat} {a : Nat → Nat} {t t' : Nat} {σ σ' : zS} {w2 : va_W} {H H1 : Heap} (hP : va_P G.1 vwCl (mW G x a t σ ++ w2) H) (hD : va_D A (mW G x a t σ ++ w2)) (hP1 : va_P G.1 vwCl (mW G x a t' σ') H1) (hk : ∀ q : Nat, q < H.size → ¬ zA x a H.size q → H1[q]? = H[q]?) : va_P G.1 vwCl (mW G x a t' σ' ++ w2) H1 :=
  va_P.app hP1 ((va_Pr hP).kept fun k q hq => hk q.1 (mW_out hP hD hq).1 (mW_out hP hD hq).2)
theorem x_D {A : Nat → Prop} {G : zG} {x : Nat} {a : Nat → Nat} {σ σ' : zS} {w2 w2' : va_W} (h2 : w2.map (fun q => q.1) = w2'.map (fun q => q.1)) (hD : va_D A (xW G x a σ ++ w2)) : va_D A (xW G x a σ' ++ w2') :=
  va_D_addr (w := xW G x a σ ++ w2) (w' := xW G x a σ' ++ w2') (by rw [List.map_append, List.map_append, h2]; rfl) hD
theorem m_D {A : Nat → Prop} {G : zG} {x : Nat} {a : Nat → Nat} {t t' : Nat} {σ σ' : zS} {w2 w2' : va_W} (h2 : w2.map (fun q => q.1) = w2'.map (fun q => q.1)) (hD : va_D A (mW G x a t σ ++ w2)) : va_D A (mW G x a t' σ' ++ w2') :=
  va_D_addr (w := mW G x a t σ ++ w2) (w' := mW G x a t' σ' ++ w2') (by rw [List.map_append, List.map_append, h2]; rfl) hD
theorem arr1 (c : ClassId) (f g : Nat → Int64) (h : f 0 = g 0) : vp_cell c (1, .inr (.inl f)) = vp_cell c (1, .inr (.inl g)) := by
  rw [vp_cell_l, vp_cell_l]
  unfold arrV
  congr 1
  apply Array.ext
  · simp
  · intro i h1 h2
    have h0 : i = 0 := by simp at h1; omega
    subst h0
    simp [h]
theorem o_cell {G : zG} {w1 : va_W} {o : Nat} {f : Nat → Int64} {v : Int64} {H : Heap} (hf : f 0 = v) (h : va_P G.1 vwCl (w1 ++ [(o, .inl (G.2.2.2, 1, .inr (.inl f)))]) H) : va_P G.1 vwCl (w1 ++ [oW G o v]) H := by
  refine va_P.app (va_Pl h) (fun k q hq => ?_)
  have h1 := va_Pr h
  have hk : k = 0 := by
    have := (List.getElem?_eq_some_iff.mp hq).1
    simp at this; exact this
  subst hk
  have h2 := h1 0 (o, .inl (G.2.2.2, 1, .inr (.inl f))) rfl
  cases hq
  show H[o]? = some (vp_cell _ _)
  rw [arr1 G.2.2.2 (fun _ => v) f hf.symm]
  exact h2
section ZL
variable {p : Program} {l : Launch} {e : Env} {R : Room} {s : State} {m : MethodId} {args : Array Value} {below : List Frame} {meth : Method} {c : Code} {H : Heap} {locs : List Loc} {cells slots : Nat} {Q : State → Prop}
variable {cc : ByteArray} {pc : Nat} {ls : Array Slot} {rest : List Value} {G : zG} {x o : Nat} {a : Nat → Nat} {σ : zS} {A : Nat → Prop} {H0 : Heap}
theorem z_last {v v' : Int64} (hx : p.tables.exec = Jvm.exec) (hb : c.code = cc) (hK : zK G s) (hP : va_P G.1 vwCl (xW G x a σ ++ [oW G o v]) H) (hD : va_D A (xW G x a σ ++ [oW G o v])) (hS : va_S A H0 H locs) (hdg : decode cc pc = .ok (.lastore, 1))
    (kk : ∀ (H1 : Heap) (locs1 : List Loc), va_P G.1 vwCl (xW G x a σ ++ [oW G o v']) H1 → va_D A (xW G x a σ ++ [oW G o v']) → va_S A H0 H1 locs1 → W p l e R s m args below meth c H1 locs1 cells slots Q (F0 m (pc + 1) ls rest)) :
    W p l e R s m args below meth c H locs cells slots Q (F0 m pc ls (.long v' :: .int (iI 0) :: .ref o :: rest)) :=
  va_last (n := 1) (f := fun _ => v) hx hb hK hP hD hS 9 2 rfl rfl (iI_in (k := 0) (n := 1) (by decide) (by decide)) hdg (fun H1 locs1 hP1 hD1 hS1 => by
    have hP2 : va_P G.1 vwCl (xW G x a σ ++ [(o, .inl (G.2.2.2, 1, .inr (.inl (vp_updL (fun _ => v) (iI 0).toNatClampNeg v'))))]) H1 := hP1
    exact kk H1 locs1 (o_cell (by show vp_updL (fun _ => v) 0 v' 0 = v'; simp [vp_updL]) hP2) (x_D (σ := σ) (w2 := [oW G o v]) rfl hD) hS1)
end ZL
theorem xo_lA {A : Nat → Prop} {G : zG} {x : Nat} {a : Nat → Nat} {σ : zS} {o : Nat} {v : Int64} {sz : Nat} (h : va_D A (xW G x a σ ++ [oW G o v])) : va_D (lA x a o sz) (xW G x a σ ++ [oW G o v]) := h.weaken fun k q hk _ => by
  rcases List.mem_append.mp (List.mem_of_getElem? hk) with h | h
  · rcases List.mem_cons.mp h with h | h
    · exact Or.inr (Or.inl (by rw [h]))
    · exact Or.inr (Or.inr (Or.inl (rW_at h)))
  · exact Or.inl (by rw [List.mem_singleton.mp h]; rfl)
def zN (U : State) : Prop := va_Nc zISE zIAE U ∧ va_Nc zIAE zIOE U ∧ va_Nc zISE zIOE U
theorem zN.moved {s U : State} (h : s.vm.Alike U.vm) (hN : zN s) : zN U := ⟨va_Nc.moved h hN.1, va_Nc.moved h hN.2.1, va_Nc.moved h hN.2.2⟩
abbrev wL (G : zG) (x : Nat) (a : Nat → Nat) (o : Nat) (σ : zS) (v : Int64) (sz : Nat) : State → Prop := fun U => U.heap.size = sz ∧ va_P G.1 vwCl (xW G x a σ ++ [oW G o v]) U.heap ∧ zK G U ∧ va_D (fun _ => True) (xW G x a σ ++ [oW G o v])
abbrev wF (G : zG) (x : Nat) (a : Nat → Nat) (σ : zS) (sz : Nat) : State → Prop := fun U => U.heap.size = sz ∧ va_P G.1 vwCl (xW G x a σ) U.heap ∧ zK G U ∧ zE (nA sz) U U.heap ∧ zN U
theorem preWL {A : Nat → Prop} {G : zG} {x : Nat} {a : Nat → Nat} {o : Nat} {σ : zS} {v : Int64} {s : State} {H : Heap} {As : List Value} (hK : zK G s) (hP : va_P G.1 vwCl (xW G x a σ ++ [oW G o v]) H) (hD : va_D A (xW G x a σ ++ [oW G o v])) : PreS s H (va_Pc As (wL G x a o σ v H.size)) As :=
  ⟨fun _ _ _ _ q => ⟨q.1, q.2.1, q.2.2.1, zK.call q.2.2.2.1, q.2.2.2.2⟩, fun U hU hW => ⟨rfl, by rw [hU], by rw [hU]; exact hP, va_K.moved hW.alike hK, hD.weaken (fun _ _ _ _ => trivial)⟩⟩
theorem preWF {G : zG} {x : Nat} {a : Nat → Nat} {σ : zS} {s : State} {H : Heap} {As : List Value} (hK : zK G s) (hP : va_P G.1 vwCl (xW G x a σ) H) (hE : zE (nA H.size) s H) (hN : zN s) : PreS s H (va_Pc As (wF G x a σ H.size)) As :=
  ⟨fun _ U g mk q => ⟨q.1, q.2.1, q.2.2.1, zK.call q.2.2.2.1, zE.call q.2.2.2.2.1, zN.moved (s := U) (U := U.calling g mk _) (Vm.Alike.refl U.vm) q.2.2.2.2.2⟩, fun U hU hW => ⟨rfl, by rw [hU], by rw [hU]; exact hP, va_K.moved hW.alike hK, by rw [hU]; exact hE.moved hW, hN.moved hW.alike⟩⟩
