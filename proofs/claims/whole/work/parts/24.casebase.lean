/-! THE LAW'S STEP: what holds at each round, what a round must come to. -/
def W3 (G : zG) (xa : Nat) (xr : Nat → Nat) (ma : Nat) (mr : Nat → Nat) (oa : Nat) (σ : zS) (t : Nat) (v : Int64) : va_W := xW G xa xr σ ++ (mW G ma mr t σ ++ [oW G oa v])
def V3 (G : zG) (xa : Nat) (xr : Nat → Nat) (ma : Nat) (mr : Nat → Nat) (oa : Nat) (σ σ' : zS) (t : Nat) (v : Int64) : va_W := xW G xa xr σ ++ (mW G ma mr t σ' ++ [oW G oa v])
def lC (p : Program) (l : Launch) (s : State) (m : MethodId) (args : Array Value) (c : Code) (G : zG) (b L : Nat) (xs : Nat → Int32) : Prop :=
  p.tables.exec = Jvm.exec ∧ c.code = cL_law ∧ c.maxLocals = 9 ∧ s.vm.findClass RL = some m.cls ∧ (∀ w ∈ wsL_law, w.before args s = true) ∧ l.stackTraces = false ∧ zK G s ∧ zE (nA s.heap.size) s s.heap ∧ zN s ∧ va_X b L xs s s.heap ∧ b < s.heap.size ∧ L ≤ 2048
def lP (G : zG) (s : State) (xa : Nat) (xr : Nat → Nat) (ma : Nat) (mr : Nat → Nat) (oa : Nat) (σ : zS) (t : Nat) (v : Int64) (H : Heap) (locs : List Loc) : Prop :=
  va_P G.1 vwCl (W3 G xa xr ma mr oa σ t v) H ∧ va_D (nA s.heap.size) (W3 G xa xr ma mr oa σ t v) ∧ va_S (nA s.heap.size) s.heap H locs
def lL (b xa ma oa : Nat) (ix : Nat) : List (Nat × Value) := [(4, .int (iI (ix : Int))), (0, .ref b), (1, .ref xa), (2, .ref ma), (3, .ref oa)]
def lK (p : Program) (l : Launch) (e : Env) (s : State) (m : MethodId) (args : Array Value) (below : List Frame) (meth : Method) (c : Code) (G : zG) (b xa : Nat) (xr : Nat → Nat) (ma : Nat) (mr : Nat → Nat) (oa ix cells slots : Nat) (Q : State → Prop) (σ : zS) : Prop :=
  ∀ (H : Heap) (locs : List Loc) (t : Nat) (v : Int64) (cs ss : Nat) (ls : Array Slot), lP G s xa xr ma mr oa σ t v H locs → cs ≤ cells + 32 → ss ≤ slots + 256 → lv_has ls 9 [(4, .int (iI (ix : Int))), (0, .ref b), (1, .ref xa), (2, .ref ma), (3, .ref oa)] → W p l e room_1 s m args below meth c H locs cs ss Q (F0 m 2000 ls [])
section LB
variable {G : zG} {xa ma oa : Nat} {xr mr : Nat → Nat} {σ σ' σ2 : zS} {t t' : Nat} {v v' : Int64} {H H1 H0 : Heap} {A : Nat → Prop} {locs : List Loc}
theorem b_x (hP : va_P G.1 vwCl (V3 G xa xr ma mr oa σ σ' t v) H) : va_P G.1 vwCl (xW G xa xr σ) H := va_Pl hP
theorem b_m (hP : va_P G.1 vwCl (V3 G xa xr ma mr oa σ σ' t v) H) : va_P G.1 vwCl (mW G ma mr t σ') H := va_Pl (va_Pr hP)
theorem b_o (hP : va_P G.1 vwCl (V3 G xa xr ma mr oa σ σ' t v) H) : va_P G.1 vwCl [oW G oa v] H := va_Pr (va_Pr hP)
theorem b_xo (hP : va_P G.1 vwCl (V3 G xa xr ma mr oa σ σ' t v) H) : va_P G.1 vwCl (xW G xa xr σ ++ [oW G oa v]) H := va_P.app (b_x hP) (b_o hP)
theorem d_x (hD : va_D A (V3 G xa xr ma mr oa σ σ' t v)) : va_D A (xW G xa xr σ) := va_Dl hD
theorem d_m (hD : va_D A (V3 G xa xr ma mr oa σ σ' t v)) : va_D A (mW G ma mr t σ') := va_Dl (va_Dr hD)
theorem d_xo (hD : va_D A (V3 G xa xr ma mr oa σ σ' t v)) : va_D A (xW G xa xr σ ++ [oW G oa v]) := hD.sub [0, 1, 2, 3, 4, 5, 6, 7, 8, 18] rfl rfl
theorem d_mv (hD : va_D A (V3 G xa xr ma mr oa σ σ' t v)) (s1 s2 : zS) (t1 : Nat) (v1 : Int64) : va_D A (V3 G xa xr ma mr oa s1 s2 t1 v1) :=
  va_D_addr (w := V3 G xa xr ma mr oa σ σ' t v) (w' := V3 G xa xr ma mr oa s1 s2 t1 v1) rfl hD
/-- where the x-part lies -/
theorem b_ix {q : Nat} {sz : Nat} (h : lA xa xr oa sz q) : (∃ (k : Nat) (e : va_E), (k < 9 ∨ k = 18) ∧ (V3 G xa xr ma mr oa σ σ' t v)[k]? = some (q, e)) ∨ sz ≤ q := by
  rcases h with h | h | ⟨j, hj, h⟩ | h
  · exact Or.inl ⟨18, _, Or.inr rfl, by rw [h]; rfl⟩
  · exact Or.inl ⟨0, _, Or.inl (by decide), by rw [h]; rfl⟩
  · obtain ⟨e, he⟩ := rW_get G xr σ hj
    refine Or.inl ⟨j + 1, e, Or.inl (by omega), ?_⟩
    show ((xW G xa xr σ) ++ _)[j + 1]? = _
    rw [List.getElem?_append_left (by show j + 1 < 9; omega), h]
    exact he
  · exact Or.inr h
theorem b_im {q : Nat} {sz : Nat} (h : zA ma mr sz q) : (∃ (k : Nat) (e : va_E), (9 ≤ k ∧ k < 18) ∧ (V3 G xa xr ma mr oa σ σ' t v)[k]? = some (q, e)) ∨ sz ≤ q := by
  rcases h with h | ⟨j, hj, h⟩ | h
  · exact Or.inl ⟨9, _, ⟨by decide, by decide⟩, by rw [h]; rfl⟩
  · obtain ⟨e, he⟩ := rW_get G mr σ' hj
    refine Or.inl ⟨9 + (j + 1), e, ⟨by omega, by omega⟩, ?_⟩
    show ((xW G xa xr σ) ++ (mW G ma mr t σ' ++ _))[9 + (j + 1)]? = _
    rw [List.getElem?_append_right (by show 9 ≤ _; omega)]
    show (mW G ma mr t σ' ++ _)[9 + (j + 1) - 9]? = _
    rw [Nat.add_sub_cancel_left, List.getElem?_append_left (by show j + 1 < 9; omega), h]
    exact he
  · exact Or.inr h
theorem a_x (hD : va_D (nA H0.size) (V3 G xa xr ma mr oa σ σ' t v)) (hS : va_S (nA H0.size) H0 H locs) : ∀ q, lA xa xr oa H.size q → nA H0.size q := fun q h => by
  rcases b_ix (G := G) (xr := xr) (ma := ma) (mr := mr) (σ := σ) (σ' := σ') (t := t) (v := v) h with ⟨k, e, -, h⟩ | h
  · exact hD.2 k (q, e) h
  · exact Nat.le_trans hS.1 h
theorem a_m (hD : va_D (nA H0.size) (V3 G xa xr ma mr oa σ σ' t v)) (hS : va_S (nA H0.size) H0 H locs) : ∀ q, zA ma mr H.size q → nA H0.size q := fun q h => by
  rcases b_im (G := G) (xa := xa) (xr := xr) (mr := mr) (oa := oa) (σ := σ) (σ' := σ') (t := t) (v := v) h with ⟨k, e, -, h⟩ | h
  · exact hD.2 k (q, e) h
  · exact Nat.le_trans hS.1 h
theorem g_m {k : Nat} {q : Nat × va_E} (h : (mW G ma mr t σ')[k]? = some q) : (V3 G xa xr ma mr oa σ σ' t v)[9 + k]? = some q := by
  show ((xW G xa xr σ) ++ (mW G ma mr t σ' ++ _))[9 + k]? = _
  rw [List.getElem?_append_right (by show 9 ≤ _; omega)]
  show (mW G ma mr t σ' ++ _)[9 + k - 9]? = _
  rw [Nat.add_sub_cancel_left, List.getElem?_append_left (List.getElem?_eq_some_iff.mp h).1]
  exact h
theorem g_x {k : Nat} {q : Nat × va_E} (h : (xW G xa xr σ)[k]? = some q) : (V3 G xa xr ma mr oa σ σ' t v)[k]? = some q := by
  show ((xW G xa xr σ) ++ (mW G ma mr t σ' ++ _))[k]? = _
  rw [List.getElem?_append_left (List.getElem?_eq_some_iff.mp h).1]
  exact h
theorem g_o {k : Nat} {q : Nat × va_E} (h : [oW G oa v][k]? = some q) : (V3 G xa xr ma mr oa σ σ' t v)[18]? = some q := by
  have hk : k = 0 := by
    have := (List.getElem?_eq_some_iff.mp h).1
    simp at this; exact this
  subst hk
  exact h
/-- behind a call of the class -/
theorem j_x (hP : va_P G.1 vwCl (V3 G xa xr ma mr oa σ σ' t v) H) (hD : va_D A (V3 G xa xr ma mr oa σ σ' t v)) (hP1 : va_P G.1 vwCl (xW G xa xr σ2 ++ [oW G oa v']) H1) (hk : ∀ q : Nat, q < H.size → ¬ lA xa xr oa H.size q → H1[q]? = H[q]?) : va_P G.1 vwCl (V3 G xa xr ma mr oa σ2 σ' t v') H1 := by
  refine va_P.app (va_Pl hP1) (va_P.app ((b_m hP).kept fun k q hq => hk q.1 ((b_m hP) k q hq).lt fun h => ?_) (va_Pr hP1))
  rcases b_ix (G := G) (xr := xr) (ma := ma) (mr := mr) (σ := σ) (σ' := σ') (t := t) (v := v) h with ⟨j, e, hj, h⟩ | h
  · have hl := (List.getElem?_eq_some_iff.mp hq).1
    have h9 : (mW G ma mr t σ').length = 9 := rfl
    have := hD.1 (9 + k) j q (q.1, e) (g_m hq) h rfl
    omega
  · have := ((b_m hP) k q hq).lt
    omega
/-- behind a call of the reference -/
theorem j_m (hP : va_P G.1 vwCl (V3 G xa xr ma mr oa σ σ' t v) H) (hD : va_D A (V3 G xa xr ma mr oa σ σ' t v)) (hP1 : va_P G.1 vwCl (mW G ma mr t' σ2) H1) (hk : ∀ q : Nat, q < H.size → ¬ zA ma mr H.size q → H1[q]? = H[q]?) : va_P G.1 vwCl (V3 G xa xr ma mr oa σ σ2 t' v) H1 := by
  refine va_P.app ((b_x hP).kept fun k q hq => hk q.1 ((b_x hP) k q hq).lt fun h => ?_) (va_P.app hP1 ((b_o hP).kept fun k q hq => hk q.1 ((b_o hP) k q hq).lt fun h => ?_))
  · rcases b_im (G := G) (xa := xa) (xr := xr) (mr := mr) (oa := oa) (σ := σ) (σ' := σ') (t := t) (v := v) h with ⟨j, e, hj, h⟩ | h
    · have hl := (List.getElem?_eq_some_iff.mp hq).1
      have h9 : (xW G xa xr σ).length = 9 := rfl
      have := hD.1 k j q (q.1, e) (g_x hq) h rfl
      omega
    · have := ((b_x hP) k q hq).lt
      omega
  · rcases b_im (G := G) (xa := xa) (xr := xr) (mr := mr) (oa := oa) (σ := σ) (σ' := σ') (t := t) (v := v) h with ⟨j, e, hj, h⟩ | h
    · have := hD.1 18 j q (q.1, e) (g_o hq) h rfl
      omega
    · have := ((b_o hP) k q hq).lt
      omega
/-- behind a refused call: what was there stays -/
theorem j_0 {ws : va_W} (hP : va_P G.1 vwCl ws H) (hk : ∀ q : Nat, q < H.size → H1[q]? = H[q]?) : va_P G.1 vwCl ws H1 := hP.kept fun k q hq => hk q.1 (hP k q hq).lt
theorem j_E {s : State} (hE : zE (nA s.heap.size) s s.heap) (hS : va_S (nA s.heap.size) s.heap H locs) : zE (nA H.size) s H := (hE.kept hS.2.1).narrow fun q h => Nat.le_trans hS.1 h
end LB
section LC
variable {p : Program} {l : Launch} {e : Env} {R : Room} {s : State} {m : MethodId} {args : Array Value} {below : List Frame} {meth : Method} {c : Code} {H : Heap} {locs : List Loc} {cells slots : Nat} {Q : State → Prop}
variable {cc : ByteArray} {pc : Nat} {ls : Array Slot} {rest st0 : List Value} {G : zG} {A : Nat → Prop} {H0 : Heap} {av : Array Value}
theorem z_sld (hx : p.tables.exec = Jvm.exec) (hb : c.code = cc) {b L : Nat} {xs : Nat → Int32} (hX : va_X b L xs s H0) (hbl : b < H0.size) (hS : va_S (nA H0.size) H0 H locs) (n : Nat) {q z : Int} (hq : q = (n : Int)) (hn : n < L) (hL : L ≤ 2048) (hz : xs n = iI z) (hdg : decode cc pc = .ok (.iaload, 1))
    (kk : W p l e R s m args below meth c H locs cells slots Q (F0 m (pc + 1) ls (.int (iI z) :: rest))) : W p l e R s m args below meth c H locs cells slots Q (F0 m pc ls (.int (iI q) :: .ref b :: rest)) := by
  subst hq
  refine va_sld hx hb hX hbl (fun h => by have : H0.size ≤ b := h; omega) hS (iI_in hn (by omega)) hdg ?_
  rw [iI_clamp (by omega), hz]
  exact kk
theorem zc_f {v : Int32} (hr : va_Run p l e R s m args below meth c H locs cells slots 1 6 (F0 m pc ls st0) rest (va_Qi (fun r (_ : Unit) => r = v) (fun _ _ => True) (nA H.size) av) (nA H.size)) (hS : va_S (nA H0.size) H0 H locs)
    (k : ∀ (H1 : Heap) (locs1 : List Loc), va_S (nA H0.size) H0 H1 locs1 → (∀ q : Nat, q < H.size → H1[q]? = H[q]?) → W p l e R s m args below meth c H1 locs1 (cells + 1) (slots + 6) Q (F0 m (pc + 3) ls (.int v :: rest))) : W p l e R s m args below meth c H locs cells slots Q (F0 m pc ls st0) :=
  va_calli hr hS (fun q _ h => Nat.le_trans hS.1 h) (fun q h => Nat.le_trans hS.1 h) fun r u t2 H1 locs1 _ _ hr2 _ hz hk hS1 => by
    rw [hr2]; exact k H1 locs1 hS1 (fun q hq => hk q hq (fun h => by have : H.size ≤ q := h; omega))
theorem zc_wl {A0 A1 : Nat → Prop} {w' : va_W} {v : Int64} {mc ms : Nat} (hr : va_Run p l e R s m args below meth c H locs cells slots mc ms (F0 m pc ls st0) rest (va_Ql (fun r (_ : Unit) => r = v) (fun _ t => va_P G.1 vwCl w' t.heap) A1 av) A1) (hS : va_S A0 H0 H locs) (hA : ∀ q, A1 q → A0 q)
    (k : ∀ (H1 : Heap) (locs1 : List Loc), va_P G.1 vwCl w' H1 → va_S A0 H0 H1 locs1 → H.size ≤ H1.size → (∀ q : Nat, q < H.size → ¬ A1 q → H1[q]? = H[q]?) → W p l e R s m args below meth c H1 locs1 (cells + mc) (slots + ms) Q (F0 m (pc + 3) ls (.long v :: rest))) : W p l e R s m args below meth c H locs cells slots Q (F0 m pc ls st0) :=
  va_calll hr hS (fun q _ h => hA q h) hA fun r u t2 H1 locs1 ht _ hr2 hB hz hk hS1 => by
    rw [ht] at hB; rw [hr2]; exact k H1 locs1 hB hS1 hz hk
theorem zc_wd {A0 A1 : Nat → Prop} {w' : va_W} {v : UInt64} (hr : va_Run p l e R s m args below meth c H locs cells slots 0 0 (F0 m pc ls st0) rest (va_Qd (fun r (_ : Unit) => r = v) (fun _ t => va_P G.1 vwCl w' t.heap) A1 av) A1) (hS : va_S A0 H0 H locs) (hA : ∀ q, A1 q → A0 q)
    (k : ∀ (H1 : Heap) (locs1 : List Loc), va_P G.1 vwCl w' H1 → va_S A0 H0 H1 locs1 → H.size ≤ H1.size → (∀ q : Nat, q < H.size → ¬ A1 q → H1[q]? = H[q]?) → W p l e R s m args below meth c H1 locs1 cells slots Q (F0 m (pc + 3) ls (.double v :: rest))) : W p l e R s m args below meth c H locs cells slots Q (F0 m pc ls st0) :=
  va_calld hr hS (fun q _ h => hA q h) hA fun r u t2 H1 locs1 ht _ hr2 hB hz hk hS1 => by
    rw [ht] at hB; rw [hr2]; exact k H1 locs1 hB hS1 hz hk
/-- two longs that are one, compared, and on -/
theorem z_leq (hx : p.tables.exec = Jvm.exec) (hb : c.code = cc) {a a' : Int64} (he : a = a') {off : Int} {tgt : Nat} (d0 : decode cc pc = .ok (.lcmp, 1)) (d1 : decode cc (pc + 1) = .ok (.ifCond .eq off, 3)) (ht : ((pc + 1 : Nat) : Int) + off = (tgt : Int))
    (k : W p l e R s m args below meth c H locs cells slots Q (F0 m tgt ls rest)) : W p l e R s m args below meth c H locs cells slots Q (F0 m pc ls (.long a' :: .long a :: rest)) := by
  subst he
  refine W.lcmp hx hb d0 ?_
  exact lv_if_eq hx hb d1 ht (fun _ => k) (fun h => absurd ((lg_cmp_eq a a).mpr rfl) h)
/-- the law's row of one long, read -/
theorem z_out (hx : p.tables.exec = Jvm.exec) (hb : c.code = cc) (hK : zK G s) {oa : Nat} {v : Int64} (hP : va_P G.1 vwCl [oW G oa v] H) (hdg : decode cc pc = .ok (.laload, 1))
    (k : W p l e R s m args below meth c H locs cells slots Q (F0 m (pc + 1) ls (.long v :: rest))) : W p l e R s m args below meth c H locs cells slots Q (F0 m pc ls (.int (iI 0) :: .ref oa :: rest)) :=
  va_lald (n := 1) (f := fun _ => v) hx hb hK hP 0 2 rfl rfl (iI_in (k := 0) (n := 1) (by decide) (by decide)) hdg k
end LC
/-! the state keeps what it must -/
theorem mono_zI {B B' : Nat} {σ : zS} (h : zI B σ) (h1 : B ≤ B') (h2 : B' ≤ 100000) : zI B' σ :=
  ⟨h.1, ⟨Nat.le_trans h.b.1 h1, Nat.le_trans h.b.2.1 h1, h2⟩, h.2.2.1, h.2.2.2.1, h.2.2.2.2.1, fun k => ⟨h.r4 k, h.r5 k, by have := h.r6 k; omega, h.r7 k, h.c4 k, h.o7 k⟩, h.2.2.2.2.2.2.1, h.2.2.2.2.2.2.2⟩
theorem adp_zI {B : Nat} {σ : zS} {z : Int} (h : zI B σ) (hz : 0 ≤ z ∧ z ≤ 9) (hf : σ.1 0 < 6) : zI B (adp σ z) := by
  have e0 : (adp σ z).1 0 = σ.1 0 + 1 := rfl
  have e1 : (adp σ z).1 1 = σ.1 1 := rfl
  have e2 : (adp σ z).1 2 = σ.1 2 := rfl
  have e3 : (adp σ z).1 3 = σ.1 3 := rfl
  have er : ∀ j k, j ≠ 0 → (adp σ z).2 j k = σ.2 j k := fun j k hj => by simp [adp, stS, stA, hj]
  have e00 : ∀ k, (adp σ z).2 0 k = if k = σ.1 0 then z else σ.2 0 k := fun k => by simp [adp, stS, stA]
  have hn := h.n
  refine ⟨by rw [e0, e1]; omega, by rw [e2, e3]; exact h.b, fun k => ?_, fun k => ?_, fun k hk => ?_, fun k => ?_, fun k hk => ?_, fun k hk => ?_⟩
  · rw [e00]; split
    · exact hz
    · exact h.r0 k
  · rw [er 1 k (by decide)]; exact h.r1 k
  · rw [e1] at hk
    rw [er 2 k (by decide), er 3 k (by decide), e0]
    have g2 := h.r2 hk
    have g3 := h.r3 hk
    exact ⟨by omega, by omega, h.r23 hk⟩
  · rw [er 4 k (by decide), er 5 k (by decide), er 6 k (by decide), er 7 k (by decide)]; exact h.2.2.2.2.2.1 k
  · rw [e1] at hk
    rw [er 5 k (by decide), er 4 k (by decide)]; exact h.o4 hk
  · rw [e1] at hk
    rw [er 5 k (by decide), er 6 k (by decide), er 7 k (by decide)]; exact h.nw hk
theorem row_zI {B : Nat} {σ : zS} {j k : Nat} {v : Int} (h : zI B σ) (hj : (j = 0 ∧ 0 ≤ v ∧ v ≤ 9) ∨ (j = 1 ∧ 0 ≤ v ∧ v ≤ 1)) : zI B (stA σ j k v) := by
  have er : ∀ i, 2 ≤ i → (stA σ j k v).2 i = σ.2 i := fun i hi => stA_ne (by omega)
  have ev : ∀ i q, (stA σ j k v).2 i q = σ.2 i q ∨ (i = j ∧ (stA σ j k v).2 i q = v) := fun i q => by
    by_cases hq : i = j ∧ q = k
    · exact Or.inr ⟨hq.1, by simp [stA, hq]⟩
    · exact Or.inl (by simp [stA, hq])
  refine ⟨h.1, h.2.1, fun q => ?_, fun q => ?_, fun q hq => ?_, fun q => ?_, fun q hq => ?_, fun q hq => ?_⟩
  · rcases ev 0 q with e | ⟨e, e'⟩
    · rw [e]; exact h.r0 q
    · rw [e']; omega
  · rcases ev 1 q with e | ⟨e, e'⟩
    · rw [e]; exact h.r1 q
    · rw [e']; omega
  · rw [er 2 (by decide), er 3 (by decide)]; exact h.2.2.2.2.1 q hq
  · rw [er 4 (by decide), er 5 (by decide), er 6 (by decide), er 7 (by decide)]; exact h.2.2.2.2.2.1 q
  · rw [er 5 (by decide), er 4 (by decide)]; exact h.o4 hq
  · rw [er 5 (by decide), er 6 (by decide), er 7 (by decide)]; exact h.nw hq
theorem ent_zI {B : Nat} {σ : zS} {k : Nat} (h : zI B σ) : zI B (ent σ k) := row_zI h (Or.inr ⟨rfl, by have := h.r1 k; omega, by have := h.r1 k; omega⟩)
theorem sli_zI {B : Nat} {σ : zS} {i o : Nat} {w : Int} (h : zI B σ) (hi : i < σ.1 0) (ho : o < σ.1 0) (hne : i ≠ o) (hw : 1 ≤ w ∧ w ≤ 20) (hf : σ.1 1 < 20) : zI B (sli σ i o w) := by
  have e0 : (sli σ i o w).1 0 = σ.1 0 := rfl
  have e1 : (sli σ i o w).1 1 = σ.1 1 + 1 := rfl
  have e2 : (sli σ i o w).1 2 = σ.1 2 := rfl
  have e3 : (sli σ i o w).1 3 = σ.1 3 := rfl
  have er : ∀ j k, k ≠ σ.1 1 → (sli σ i o w).2 j k = σ.2 j k := fun j k hk => by simp [sli, stS, stA, hk]
  have f2 : (sli σ i o w).2 2 (σ.1 1) = (i : Int) := by simp [sli, stS, stA]
  have f3 : (sli σ i o w).2 3 (σ.1 1) = (o : Int) := by simp [sli, stS, stA]
  have f4 : (sli σ i o w).2 4 (σ.1 1) = w := by simp [sli, stS, stA]
  have fo : ∀ j k, j ≠ 2 → j ≠ 3 → j ≠ 4 → (sli σ i o w).2 j k = σ.2 j k := fun j k a b c => by simp [sli, stS, stA, a, b, c]
  have hn := h.n
  have hw0 := h.nw (Nat.le_refl (σ.1 1))
  refine ⟨by rw [e0, e1]; omega, by rw [e2, e3]; exact h.b, fun k => ?_, fun k => ?_, fun k hk => ?_, fun k => ?_, fun k hk => ?_, fun k hk => ?_⟩
  · rw [fo 0 k (by decide) (by decide) (by decide)]; exact h.r0 k
  · rw [fo 1 k (by decide) (by decide) (by decide)]; exact h.r1 k
  · rw [e1] at hk
    rw [e0]
    by_cases hq : k = σ.1 1
    · subst hq
      rw [f2, f3]; omega
    · rw [er 2 k hq, er 3 k hq]; exact h.2.2.2.2.1 k (by omega)
  · by_cases hq : k = σ.1 1
    · subst hq
      rw [f4, fo 5 _ (by decide) (by decide) (by decide), fo 6 _ (by decide) (by decide) (by decide), fo 7 _ (by decide) (by decide) (by decide), hw0.1, hw0.2.1, hw0.2.2]
      exact ⟨by omega, by omega, by omega, by omega, fun q => absurd rfl q, fun _ => by decide⟩
    · rw [er 4 k hq, er 5 k hq, er 6 k hq, er 7 k hq]; exact h.2.2.2.2.2.1 k
  · rw [e1] at hk
    by_cases hq : k = σ.1 1
    · subst hq
      rw [f4]; intro _; exact hw.1
    · rw [er 5 k hq, er 4 k hq]; exact h.o4 (by omega)
  · rw [e1] at hk
    have hq : k ≠ σ.1 1 := by omega
    rw [er 5 k hq, er 6 k hq, er 7 k hq]; exact h.nw (by omega)
/-- one slight's row changes, and perhaps the count of the scorned -/
theorem one_zI {B B' : Nat} {σ σ' : zS} {k : Nat} (h : zI B σ) (hk : k < σ.1 1) (h0 : σ'.1 0 = σ.1 0) (h1 : σ'.1 1 = σ.1 1) (h2 : σ'.1 2 = σ.1 2) (h3 : σ'.1 3 ≤ B') (hB : B ≤ B' ∧ B' ≤ 100000)
    (hr : ∀ j, j < 4 → ∀ q, σ'.2 j q = σ.2 j q) (ho : ∀ j q, q ≠ k → σ'.2 j q = σ.2 j q) (h4 : 0 ≤ σ'.2 4 k ∧ σ'.2 4 k ≤ 99) (h5 : 0 ≤ σ'.2 5 k ∧ σ'.2 5 k ≤ 3) (h6 : σ'.2 6 k = σ.2 6 k) (h7 : 0 ≤ σ'.2 7 k ∧ σ'.2 7 k ≤ 30)
    (c4 : σ'.2 5 k ≠ 0 → σ'.2 4 k = 0) (o7 : σ'.2 5 k = 0 → σ'.2 7 k < 30) (o4 : σ'.2 5 k = 0 → 1 ≤ σ'.2 4 k) : zI B' σ' := by
  have g := mono_zI h hB.1 hB.2
  refine ⟨by rw [h0, h1]; exact h.n, by rw [h2]; exact ⟨g.b.1, h3, hB.2⟩, fun q => by rw [hr 0 (by decide)]; exact h.r0 q, fun q => by rw [hr 1 (by decide)]; exact h.r1 q, fun q hq => ?_, fun q => ?_, fun q hq => ?_, fun q hq => ?_⟩
  · rw [hr 2 (by decide), hr 3 (by decide), h0]; exact h.2.2.2.2.1 q (by rw [← h1]; exact hq)
  · by_cases e : q = k
    · subst e
      exact ⟨h4, h5, by rw [h6]; exact g.r6 q, h7, c4, o7⟩
    · rw [ho 4 q e, ho 5 q e, ho 6 q e, ho 7 q e]; exact g.2.2.2.2.2.1 q
  · by_cases e : q = k
    · subst e
      exact o4
    · rw [ho 5 q e, ho 4 q e]; exact h.o4 (by rw [← h1]; exact hq)
  · have e : q ≠ k := by omega
    rw [ho 5 q e, ho 6 q e, ho 7 q e]; exact h.nw (by rw [← h1]; exact hq)
theorem spk_zI {B B' : Nat} {σ : zS} {k : Nat} {n : Nat} (h : zI B σ) (hk : k < σ.1 1) (hs : σ.2 5 k = 0) (hn : n ≤ B') (hB : B ≤ B' ∧ B' ≤ 100000) : zI B' (spk (stS σ 3 n) k) := by
  have e4 : (spk (stS σ 3 n) k).2 4 k = min (σ.2 4 k + 1) 99 := by simp [spk, stA, stS]
  have e5 : (spk (stS σ 3 n) k).2 5 k = σ.2 5 k := by simp [spk, stA, stS]
  have e6 : (spk (stS σ 3 n) k).2 6 k = σ.2 6 k := by simp [spk, stA, stS]
  have e7 : (spk (stS σ 3 n) k).2 7 k = 0 := by simp [spk, stA, stS]
  have g := h.r4 k
  refine one_zI h hk rfl rfl rfl hn hB (fun j hj q => ?_) (fun j q hq => ?_) (by rw [e4]; omega) (by rw [e5]; omega) e6 (by rw [e7]; omega) (fun q => by rw [e5] at q; exact absurd hs q) (fun _ => by rw [e7]; decide) (fun _ => by rw [e4]; omega)
  · simp [spk, stA, stS, show j ≠ 4 by omega, show j ≠ 7 by omega]
  · simp [spk, stA, stS, hq]
theorem spk0_zI {B : Nat} {σ : zS} {k : Nat} (h : zI B σ) (hk : k < σ.1 1) (hs : σ.2 5 k = 0) : zI B (spk σ k) := by
  have e4 : (spk σ k).2 4 k = min (σ.2 4 k + 1) 99 := by simp [spk, stA]
  have e5 : (spk σ k).2 5 k = σ.2 5 k := by simp [spk, stA]
  have e6 : (spk σ k).2 6 k = σ.2 6 k := by simp [spk, stA]
  have e7 : (spk σ k).2 7 k = 0 := by simp [spk, stA]
  have g := h.r4 k
  refine one_zI h hk rfl rfl rfl h.b.2.1 ⟨Nat.le_refl B, h.b.2.2⟩ (fun j hj q => ?_) (fun j q hq => ?_) (by rw [e4]; omega) (by rw [e5]; omega) e6 (by rw [e7]; omega) (fun q => by rw [e5] at q; exact absurd hs q) (fun _ => by rw [e7]; decide) (fun _ => by rw [e4]; omega)
  · simp [spk, stA, show j ≠ 4 by omega, show j ≠ 7 by omega]
  · simp [spk, stA, hq]
theorem lit_zI {B : Nat} {σ : zS} {k : Nat} {v q : Int} (h : zI B σ) (hk : k < σ.1 1) (hv : 0 ≤ v) (hq : 1 ≤ q ∧ q ≤ 3) : zI B (lit σ k v q) := by
  have g := h.r4 k
  have g7 := h.r7 k
  unfold lit
  split
  · rename_i hlt
    have e4 : (stA σ 4 k (σ.2 4 k - v)).2 4 k = σ.2 4 k - v := stA_eq
    have eo : ∀ j, j ≠ 4 → (stA σ 4 k (σ.2 4 k - v)).2 j = σ.2 j := fun j hj => stA_ne hj
    refine one_zI h hk rfl rfl rfl h.b.2.1 ⟨Nat.le_refl B, h.b.2.2⟩ (fun j hj z => by rw [eo j (by omega)]) (fun j z hz => by simp [stA, hz]) (by rw [e4]; omega) (by rw [eo 5 (by decide)]; exact h.r5 k) (by rw [eo 6 (by decide)]) (by rw [eo 7 (by decide)]; exact g7) (fun z => ?_) (fun z => ?_) (fun z => by rw [e4]; omega)
    · rw [eo 5 (by decide)] at z
      have := h.c4 k z
      omega
    · rw [eo 5 (by decide)] at z
      rw [eo 7 (by decide)]; exact h.o7 k z
  · have e4 : (clo σ k q).2 4 k = 0 := clo_4
    have e5 : (clo σ k q).2 5 k = q := clo_5
    have eo : ∀ j z, j ≠ 4 → j ≠ 5 → (clo σ k q).2 j z = σ.2 j z := fun j z h4 h5 => clo_o h4 h5
    refine one_zI h hk rfl rfl rfl h.b.2.1 ⟨Nat.le_refl B, h.b.2.2⟩ (fun j hj z => eo j z (by omega) (by omega)) (fun j z hz => clo_ne hz) (by rw [e4]; omega) (by rw [e5]; omega) (eo 6 k (by decide) (by decide)) (by rw [eo 7 k (by decide) (by decide)]; exact g7) (fun _ => e4) (fun z => by rw [e5] at z; omega) (fun z => by rw [e5] at z; omega)
theorem wit_0 (σ : zS) (k : Nat) : 0 ≤ wit σ k := by
  unfold wit
  generalize σ.1 0 = n
  induction n with
  | zero => exact Int.le_refl 0
  | succ n ih =>
    rw [zs_s]
    split <;> omega
theorem apo_zI {B : Nat} {σ : zS} {k : Nat} {w : Int} (h : zI B σ) (hk : k < σ.1 1) (hs : σ.2 5 k = 0) (hw : 1 ≤ w ∧ w ≤ 20) (hB : B + 1 ≤ 100000) : zI (B + 1) (apo σ k w) := by
  have hw0 := wit_0 σ k
  have hb := h.b
  unfold apo
  split
  · exact spk_zI h hk hs (by omega) ⟨by omega, hB⟩
  · exact mono_zI (lit_zI h hk (by omega) ⟨by decide, by decide⟩) (by omega) hB
theorem sof_zI {B : Nat} {σ : zS} {i o : Nat} (h : zI B σ) (hi : i < σ.1 1) (ho : o < σ.1 1) : zI B (sof σ i o) := by
  have g := h.r4 i
  have g' := h.r4 o
  unfold sof
  have e1 : ∀ v q, (lit σ i v q).1 1 = σ.1 1 := fun v q => by unfold lit; split <;> rfl
  exact lit_zI (lit_zI h hi (by omega) ⟨by decide, by decide⟩) (by rw [e1]; exact ho) (by omega) ⟨by decide, by decide⟩
theorem pq_1 {σ : zS} {i o : Nat} (h4 : σ.2 5 i = 0) (h5 : σ.2 5 o = 0) (hq : agn σ i o = 1) : pq σ i o = 1 := by rw [pq_agn, if_pos ⟨h4, h5⟩]; exact hq
theorem pq_03 {σ : zS} {i o : Nat} (h5 : σ.2 5 i ≠ 0) : pq σ i o = 0 := by rw [pq_agn, if_neg (fun h => h5 h.1)]
theorem pq_04 {σ : zS} {i o : Nat} (h5 : σ.2 5 o ≠ 0) : pq σ i o = 0 := by rw [pq_agn, if_neg (fun h => h5 h.2)]
theorem pq_05 {σ : zS} {i o : Nat} (h4 : σ.2 5 i = 0) (h5 : σ.2 5 o = 0) (hq : agn σ i o = 0) : pq σ i o = 0 := by rw [pq_agn, if_pos ⟨h4, h5⟩]; exact hq
