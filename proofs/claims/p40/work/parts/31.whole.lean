section LL
variable {pg : Program} {l : Launch} {e : Env} {s : State} {m : MethodId} {args : Array Value} {below : List Frame} {meth : Method} {c : Code} {Q : State → Prop}
variable {G : zG} {b L : Nat} {xs : Nat → Int32} {x : Nat} {a : Nat → Nat} {y : Nat}
set_option maxHeartbeats 4000000 in
set_option maxRecDepth 100000 in
theorem law_loop (C : lC pg l s m args c G b L xs) (kend : ∀ (σ : zS) (P S : Nat) (rp rs : Nat → Nat) (H : Heap) (locs : List Loc) (cells slots : Nat) (ls : Array Slot), zI 4000 σ → va_P G.1 vwCl (xW G x a σ ++ uW G y P S rp rs σ ++ []) H → va_D (nA s.heap.size) (xW G x a σ ++ uW G y P S rp rs σ ++ []) → va_S (nA s.heap.size) s.heap H locs → cells ≤ 590000 → slots ≤ 7200000 → lv_has ls 23 [(0, .ref b), (1, .ref x), (2, .ref y)] → W pg l e room_1 s m args below meth c H locs cells slots Q (F0 m 1233 ls [])) :
    ∀ (r t : Nat) (σ : zS) (P S : Nat) (rp rs : Nat → Nat) (H : Heap) (locs : List Loc) (cells slots : Nat) (ls : Array Slot), 8 - t < r → t ≤ 8 → zJ (2000 + 200 * t) σ → 2 ≤ σ.1 0 → cells ≤ 200 + 40 * t → slots ≤ 2000 + 800 * t → va_P G.1 vwCl (xW G x a σ ++ uW G y P S rp rs σ ++ []) H → va_D (nA s.heap.size) (xW G x a σ ++ uW G y P S rp rs σ ++ []) → va_S (nA s.heap.size) s.heap H locs → lv_has ls 23 [(3, .int (iI (t : Int))), (0, .ref b), (1, .ref x), (2, .ref y)] → W pg l e room_1 s m args below meth c H locs cells slots Q (F0 m 22 ls []) := by
  intro r
  induction r with
  | zero => intro t σ P S rp rs H locs cells slots ls h; omega
  | succ r ih =>
    intro t σ P S rp rs H locs cells slots ls hr ht hJ h2 hc hs hP hD hS hl
    refine seg_top C hP hD hS hl ht (by omega) (by omega) (fun h8 ls hl => kend σ P S rp rs H locs cells slots ls (mono_zI hJ.1 (by omega) (by omega)) hP hD hS (by omega) (by omega) (lv_sub hl [1, 2, 3] rfl)) (fun h8 z ls hl => ?_)
    refine seg_acts C hP hD hS hl hJ (by omega) h2 ⟨rfl, by omega⟩ ⟨rfl, by omega⟩ ?_
    intro σ P S rp rs H locs c1 s1 ls hJ h2 hc1 hs1 hP hD hS hl
    refine seg_held C hP hD hS hl hJ h2 (by omega) (by omega) ?_
    intro H locs c2 s2 ls hc2 hs2 hP hD hS hl
    refine seg_apo (n := σ.1 0) (mm := σ.1 1) C hP hD hS hl hJ (by omega) rfl rfl (by omega) (by omega) ?_
    intro σ3 H locs c3 s3 ls hJ3 hn3 hm3 hc3 hs3 hP hD hS hl
    refine seg_sof C hP hD hS hl hJ3 (by omega) hn3 hm3 (by omega) (by omega) ?_
    intro σ4 H locs c4 s4 ls hJ4 hn4 hm4 hc4 hs4 hP hD hS hl
    refine seg_due C hP hD hS hl hJ4 (by omega) hn4 hm4 (by omega) (by omega) (by omega) rfl rfl ?_
    intro d p q1 q2 H locs c5 s5 ls hd hp hc5 hs5 hP hD hS hl
    refine seg_days C hP hD hS hl hJ4 (by omega) hn4 hm4 (by omega) (by omega) hd rfl rfl ?_
    intro H locs c6 s6 ls hc6 hs6 hP hD hS hl
    have hJd := dyn_zJ hJ4 d (by omega)
    have h01 := dyn_01 σ4 d
    refine seg_end C hP hD hS hl hJ4 (by omega) hn4 hm4 (by omega) (by omega) hd hp hJd.1 h01 ?_
    intro H locs c7 s7 ls hc7 hs7 hP hD hS hl
    obtain ⟨hx, hb, hml, hown, hts, hfl, hK, hO, hE, hH, hX, hbl, hL⟩ := id C
    refine lv_iinc (v := iI ((t + 1 : Nat) : Int)) (lv' := [(3, .int (iI ((t + 1 : Nat) : Int))), (0, .ref b), (1, .ref x), (2, .ref y)]) hx hb dL_law_1227 hl (k := 0) rfl ((iI_add _ _).trans (congrArg iI (by omega))) (by decide) rfl (fun ls hl => ?_)
    refine lv_goto (tgt := 22) hx hb dL_law_1230 (by decide) ?_
    exact ih (t + 1) _ P S rp rs H locs c7 s7 ls (by omega) (by omega) (mono_zJ hJd (by omega) (by omega)) (by omega) (by omega) (by omega) hP hD hS hl
end LL
theorem preIS {s : State} {H : Heap} {As : List Value} {G : zG} {x : Nat} {a : Nat → Nat} {y P S : Nat} {rp rs : Nat → Nat} {σ : zS} (hK : zK G s) (hP : va_P G.1 vwCl (xW G x a σ ++ uW G y P S rp rs σ ++ []) H) : PreV s H RX1 y (va_Pc (.ref y :: As) (fun U => va_P G.1 vwCl (xW G x a σ ++ uW G y P S rp rs σ ++ []) U.heap ∧ zK G U)) As :=
  ⟨fun _ _ _ _ q => ⟨q.1, q.2.1, zK.call q.2.2⟩, va_recv hK (va_Pr (va_Pl hP)) (ci := 1) (q0 := 0) rfl rfl, fun U hU hW => ⟨rfl, by rw [hU]; exact hP, va_K.moved hW.alike hK⟩⟩
/-! THE CLAIM OUT OF ONE WALK OF THE LAW'S BODY. Your part is whole_start (and what it stands on); all else here is the same for every law, but numbers. -/
def R_law : String := "ApologyLedgerLaw"
def lw_P (b : Addr) (xs : List Int32) (args : Array Value) (s : State) : Prop := args = #[.ref b] ∧ s.IntsAt b xs ∧ xs.length ≤ 260 ∧ (Jvm.Cond.and given_1 narrow_1).before args s = true
/-- what a walk over the start with the record d0 says of its end, said of the start itself -/
theorem lw_closed {s t : State} {o : Outcome} {d0 : Drawn} {L : List Loc} {k n : Nat} (hd0 : s.drawn.sameBut d0 lw_cs) (hv : ∃ v, o = .returned v) (hW : (s.setDrawn d0).WarmedH t.vm) (hs : (s.setDrawn d0).sameButNew ({ t with vm := s.vm } : State) L k n) : State.butDraws s t lw_cs (fun t1 => Framed s o t1 L k n) := by
  have h2 : t.drawn = d0 := congrArg State.drawn hs.1
  refine ⟨⟨hv, hW, State.sameButNew.setDrawn hs s.drawn⟩, ?_, by decide⟩
  rw [h2]
  exact hd0
def lw_Q (_ : Array Value) (s : State) (o : Outcome) (t : State) : Prop := o = .returned (some (.int 1)) ∧ State.butDraws s t lw_cs (fun t1 => Framed s o t1 [] 600130 7301080)
def lw_Z (below : List Frame) (a : Array Value) (s : State) : State → Prop := fun t => ∃ o, t.status = .running ∧ Ended t below o ∧ lw_Q a s o t
/-- the law's own end, with 1 on the stack, nothing written that was there before, its room as the claim has it; d0: the record of draws at this point (at the entry s.drawn: begin with 'refine W.base ?_' and 'have hd0 := Drawn.sameBut.refl s.drawn lw_cs') -/
theorem lw_ret {p : Program} {l : Launch} {e : Env} {s : State} {m : MethodId} {below : List Frame} {meth : Method} {c : Code} {b : Nat} {d0 : Drawn} (hd0 : s.drawn.sameBut d0 lw_cs) (hx : p.tables.exec = Jvm.exec) (hb : c.code = code) (hr : meth.sig.returnType = ret) (hlocks : meth.locks = false) {pc : Nat} {H : Heap} {ls : Array Slot} (hdg : decode code pc = .ok (.ireturn, 1)) : W p l e room_1 (s.setDrawn d0) m #[Value.ref b] below meth c H [] 600130 7301080 (lw_Z below #[Value.ref b] s) (F0 m pc ls [.int 1]) := by
  intro T hT X
  obtain ⟨fs, hret, hrun, hended, hW, hframe⟩ := X.leave (v := some (.int 1)) (hlocks := hlocks) (fun h => by rw [hr] at h; cases h)
  have hmeth' : T.vm.method? m = some meth := X.method'
  refine ⟨T.setFrames fs, ?_, .returned (some (.int 1)), hrun, hended, rfl, lw_closed hd0 ⟨_, rfl⟩ hW hframe⟩
  jvm_step X.here [X.here.top, hx, hb, hdg, hmeth', hr, ret, narrow_b1]
  (try refine ⟨rfl, ?_⟩); (try refine ⟨rfl, ?_⟩)
  first | (intro acts; rw [hret _ acts rfl rfl rfl]) | rw [hret _ _ rfl rfl rfl]
  exact Steps.refl _
/-- what holds at the law's entry: the machine, the code, the tables' words (any of lw_tbl by 'hts w (by decide +kernel)'), the script of L ints xs at the cell b, what the Statement gives of the start (any of its parts by flat_of_before) -/
def lw_At (p : Program) (s : State) (m : MethodId) (meth : Method) (c : Code) (b L : Nat) (xs : Nat → Int32) : Prop :=
  p.tables.exec = Jvm.exec ∧ c.code = code ∧ meth.sig.returnType = ret ∧ c.maxLocals = 23 ∧ s.vm.findClass R_law = some m.cls ∧ (∀ w ∈ lw_tbl, w.before #[Value.ref b] s = true) ∧ va_X b L xs s s.heap ∧ b < s.heap.size ∧ meth.locks = false ∧ (Jvm.Cond.and given_1 narrow_1).before #[Value.ref b] s = true
set_option maxHeartbeats 8000000 in
set_option maxRecDepth 100000 in
theorem whole_start {p : Program} {e : Env} {s : State} {m : MethodId} {below : List Frame} {meth : Method} {c : Code} (l : Launch) (hflags : l.flags = flags0) {b L : Nat} {xs : Nat → Int32} (hL : L ≤ 260) (C0 : lw_At p s m meth c b L xs) : W p l e room_1 s m #[Value.ref b] below meth c s.heap [] 0 0 (lw_Z below #[Value.ref b] s) (entryFrame m ([Value.ref b] : List Value).toArray 23) := by
  obtain ⟨hx, hb, hr, hml, hown, htsT, hX, hbl, hlocks, hgv⟩ := id C0
  have hts : ∀ w ∈ wsL_law, w.before #[Value.ref b] s = true := fun w h => htsT w (wsL_law_in w h)
  have hT := z_tab htsT
  obtain ⟨G, hK⟩ := start_G htsT
  obtain ⟨hO, hH⟩ := start_O htsT
  have hE := start_E htsT hgv
  have hfl : l.stackTraces = false := by unfold Launch.stackTraces; rw [hflags]; decide +kernel
  have C : lC p l s m #[Value.ref b] c G b L xs := ⟨hx, hb, hml, hown, hts, hfl, hK, hO, hE, hH, hX, hbl, hL⟩
  have hA : ∀ q : Nat, s.heap.size ≤ q → nA s.heap.size q := fun _ h => h
  have hS : va_S (nA s.heap.size) s.heap s.heap [] := va_S.rf
  have hP : va_P G.1 vwCl [] s.heap := fun k q h => by simp at h
  have hD : va_D (nA s.heap.size) [] := ⟨fun i j p q h => by simp at h, fun k q h => by simp at h⟩
  have hl := lv_entry ([.ref b]) (n := 23) (Nat.le_of_ble_eq_true rfl)
  rw [lg_entry_eq]
  generalize (lg_sl ([.ref b]) ++ List.replicate (23 - (lg_sl ([.ref b])).length) Slot.unset).toArray = ls at hl ⊢
  have hl : lv_has ls 23 [(0, .ref b)] := hl
  refine va_new (ci := 0) (fs := [.null, .null, .int 0, .null, .null, .null, .null, .null, .null, .int 0, .int 0, .int 0]) (C := RX0) (T := TX0) (N := 12) hx hb hts inlX0 tyX0 tyX0_ok hown (hT 10 (.classLink RL 29 RX0) (by decide +kernel)) (hT 11 (.instantiable RX0 12) (by decide +kernel)) (hT 1 (.initialized RX0) (by decide +kernel)) hK hP hD hS hA rfl (fun j hj => by rcases (show j = 0 ∨ j = 1 ∨ j = 2 ∨ j = 3 ∨ j = 4 ∨ j = 5 ∨ j = 6 ∨ j = 7 ∨ j = 8 ∨ j = 9 ∨ j = 10 ∨ j = 11 by omega) with rfl | rfl | rfl | rfl | rfl | rfl | rfl | rfl | rfl | rfl | rfl | rfl <;> rfl) (Nat.le_of_ble_eq_true rfl) (Nat.le_of_ble_eq_true rfl) dL_law_0 (fun xa H hP hD hS => ?_)
  have hP : va_P G.1 vwCl [(xa, .inr (0, [.null, .null, .int 0, .null, .null, .null, .null, .null, .null, .int 0, .int 0, .int 0]))] H := hP
  have hD : va_D (nA s.heap.size) [(xa, .inr (0, [.null, .null, .int 0, .null, .null, .null, .null, .null, .null, .int 0, .int 0, .int 0]))] := hD
  have hxa : s.heap.size ≤ xa := hD.2 0 _ rfl
  have hF : ∀ q, iA xa H.size q → nA s.heap.size q := fun q h => h.elim (fun h => by rw [h]; exact hxa) (fun h => Nat.le_trans hS.1 h)
  refine lv_dup hx hb dL_law_3 rfl ?_
  refine va_callv (va_runI (As := []) (rest := [.ref xa]) ⟨hx, hb, hml, hown, hts⟩ (c_X0_init l G xa H.size) (cwI 0 hts gL_law_X0_init rfl rfl rfl (hT 1 (.initialized RX0) (by decide +kernel)) (hT 12 (.methodLink RL 83 yX0_init) (by decide +kernel)) (hT 13 (.instanceMethod yX0_init) (by decide +kernel)) rfl (by decide +kernel) ⟨Nat.le_of_ble_eq_true rfl, Nat.le_of_ble_eq_true rfl⟩) ⟨fun _ _ _ _ q => ⟨q.1, q.2.1, q.2.2.1, zK.call q.2.2.2.1, q.2.2.2.2⟩, fun U hU hW => ⟨rfl, by rw [hU], by rw [hU]; exact hP, va_K.moved hW.alike hK, hD.weaken (fun _ _ _ _ => trivial)⟩⟩ rfl rfl hl.1 rfl (lv_room (Nat.le_of_ble_eq_true rfl)) dL_law_4 ⟨Nat.le_of_ble_eq_true rfl, Nat.le_of_ble_eq_true rfl⟩) hS (fun q _ h => hF q h) hF (fun xr t H1 locs ht _ _ hB _ _ hS => ?_)
  obtain ⟨hP, hD⟩ := hB
  rw [ht] at hP
  have hD := hD.weaken (fun k q _ h => hF q.1 h)
  refine lv_astore_n (lv' := [(1, .ref xa), (0, .ref b)]) hx hb dL_law_7 rfl hl (by decide) rfl (fun ls hl => ?_)
  refine lv_aload_n hx hb dL_law_8 rfl (lv_at hl 0 rfl) ?_
  refine lv_aload_n hx hb dL_law_9 rfl (lv_at hl 1 rfl) ?_
  have hbz : ∀ q, zA xa xr H1.size q → nA s.heap.size q := jA_x (w2 := []) (w3 := []) (by rw [List.append_nil, List.append_nil]; exact hD) hA hS.1
  have hnb : ¬ nA s.heap.size b := fun h => by have h9 : s.heap.size ≤ b := h; omega
  refine va_callr (va_runS (As := [.ref xa, .ref b]) (rest := []) ⟨hx, hb, hml, hown, hts⟩ (c_L_build l hfl G xa xr b L xs hL H1.size) (va_cwS 2 hts gL_law_L_build rfl rfl rfl (by decide +kernel) ⟨Nat.le_of_ble_eq_true rfl, Nat.le_of_ble_eq_true rfl⟩) (preWB hK hP hD hO ((hE.kept hS.2.1).narrow hbz) (hX.kept (hS.2.1 b hbl hnb)) (fun h => hnb (hbz b h)) hH) rfl rfl hl.1 rfl (lv_room (Nat.le_of_ble_eq_true rfl)) dL_law_10 ⟨Nat.le_of_ble_eq_true rfl, Nat.le_of_ble_eq_true rfl⟩) hS (fun q _ h => hbz q h) hbz (fun u y t H2 locs2 ht2 _ hu hB _ _ hS2 => ?_)
  obtain ⟨hP2, hD2⟩ := hB
  rw [ht2] at hP2
  obtain ⟨σ, P, S, rp, rs⟩ := u
  have hJ : zJ 2000 σ := hu.1
  have h2 : 2 ≤ σ.1 0 := hu.2
  have hP : va_P G.1 vwCl (xW G xa xr σ ++ uW G y P S rp rs σ ++ []) H2 := by rw [List.append_nil]; exact hP2
  have hD : va_D (nA s.heap.size) (xW G xa xr σ ++ uW G y P S rp rs σ ++ []) := by rw [List.append_nil]; exact hD2.weaken (fun k q _ h => hbz q.1 h)
  refine lv_astore_n (lv' := [(2, .ref y), (1, .ref xa), (0, .ref b)]) hx hb dL_law_13 rfl hl (by decide) rfl (fun ls hl => ?_)
  refine lv_aload_n hx hb dL_law_14 rfl (lv_at hl 0 rfl) ?_
  refine lv_ifnonnull (tgt := 20) hx hb dL_law_15 (by decide) ?_
  refine lv_iconst (v := iI ((0 : Nat) : Int)) hx hb dL_law_20 rfl ?_
  refine lv_istore_n (lv' := [(3, .int (iI ((0 : Nat) : Int))), (2, .ref y), (1, .ref xa), (0, .ref b)]) hx hb dL_law_21 rfl hl (by decide) rfl (fun ls hl => ?_)
  refine law_loop (x := xa) (a := xr) (y := y) C ?_ 9 0 σ P S rp rs H2 locs2 _ _ ls (by omega) (by omega) (mono_zJ hJ (by omega) (by omega)) h2 (Nat.le_of_ble_eq_true rfl) (Nat.le_of_ble_eq_true rfl) hP hD hS2 (lv_sub hl [0, 3, 2, 1] rfl)
  intro σ P S rp rs H locs cells slots ls hI hP hD hS hc hs hl
  refine lv_aload_n hx hb dL_law_1233 rfl (lv_at hl 2 rfl) ?_
  refine lv_aload_n hx hb dL_law_1234 rfl (lv_at hl 1 rfl) ?_
  refine zc_i (va_runV (As := [.ref xa]) (rest := []) ⟨hx, hb, hml, hown, hts⟩ (c_X1_isSame l G xa xr y P S rp rs 4000 σ hI) (cwV 1 hts gL_law_X1_isSame rfl rfl rfl (by decide +kernel) ⟨Nat.le_of_ble_eq_true rfl, Nat.le_of_ble_eq_true rfl⟩) (preIS hK hP) rfl rfl hl.1 rfl (lv_room (Nat.le_of_ble_eq_true rfl)) dL_law_1235 ⟨by show cells + 0 ≤ 600130; omega, by show slots + 0 ≤ 7301080; omega⟩) ?_
  refine z_re (v' := 1) rfl ?_
  refine va_forget hS.2.2 ?_
  refine W.widen (k := 600130) (n := 7301080) (by omega) (by omega) ?_
  exact W.base (lw_ret (Drawn.sameBut.refl s.drawn lw_cs) hx hb hr hlocks dL_law_1238)
set_option maxHeartbeats 4000000 in
theorem lw_walk (l : Launch) (hflags : l.flags = flags0) (b : Addr) (xs : List Int32) : MetFree l x (headSpec (Jvm.Cond.code x code maxLocals ret :: tables_1) room_1) (lw_P b xs) (fun _ _ _ _ _ => True) lw_Q := by
  refine MetFree.of_bodyS (code := code) (maxLocals := maxLocals) (ret := ret) (by decide) ?_ ?_
  · intro args s m h hn
    obtain ⟨meth, c, h1, h2, h3, h4, h5, h6, -, -⟩ := Cond.code_spec hn (atoms_spec (ws := Jvm.Cond.code x code maxLocals ret :: tables_1) h _ List.mem_cons_self)
    exact ⟨meth, c, h1, h2, h3, h4, h5, h6⟩
  · intro p e s m args below meth c s₁ B hml0 hP _
    obtain ⟨rfl, hx, hbd, hgv⟩ := hP
    obtain ⟨scr, harrAt, hlist, hof, hsmall⟩ := hx
    obtain ⟨hcb, hkn, -, -⟩ := State.arrayAt?_spec harrAt
    have hown : s.vm.findClass R_law = some m.cls := findClass_of_methodNamed B.named
    have hts0 : ∀ c ∈ (Jvm.Cond.code x code maxLocals ret :: tables_1), c.before #[Value.ref b] s = true := atoms_spec (ws := Jvm.Cond.code x code maxLocals ret :: tables_1) B.pre
    have hts : ∀ w ∈ lw_tbl, w.before #[Value.ref b] s = true := k2_hts_sels lw_privs (fun w hw => hts0 w (List.mem_cons_of_mem _ hw)) lw_privs_ok
    have hml : c.maxLocals = 23 := B.maxLocals_eq (hts0 _ List.mem_cons_self)
    have X₀ : Stand p l e room_1 s m #[Value.ref b] below meth c s₁ [] 0 0 := Stand.of_body B
    have hh0 : s₁.heap = s.heap := by rw [B.state]; rfl
    have hsz : scr.slots.size = xs.length := by rw [← Array.length_toList, hlist, List.length_map]
    have hval : ∀ j : Nat, j < xs.length → scr.slots[j]? = some (.int (xs.getD j 0)) := fun j hj => by
      rw [← Array.getElem?_toList, hlist]
      simp [hj]
    have hbl : b < s.heap.size := (Array.getElem?_eq_some_iff.mp hcb).1
    have hX : va_X b xs.length (fun j => xs.getD j 0) s s.heap := ⟨scr, hcb, hof, hkn, hsz, hval⟩
    have K : W p l e room_1 s m #[Value.ref b] below meth c s₁.heap [] 0 0 (lw_Z below #[Value.ref b] s) (entryFrame m ([Value.ref b] : List Value).toArray 23) := by
      rw [hh0]
      exact whole_start l hflags hbd ⟨B.exec, B.bytes, B.returns, hml, hown, hts, hX, hbl, B.notSynchronized, hgv⟩
    obtain ⟨t, a1, o, b1, b2, b3⟩ := K s₁ rfl X₀
    exact ⟨t, o, a1, b1, b2, b3⟩
theorem lw_pre_spec {args : Array Value} {s : State} (h : (Jvm.Cond.and given_1 narrow_1).before args s = true) (hr : rest_1_c.before args s = true) : ∃ (b : Addr) (xs : List Int32), lw_P b xs args s := by
  have hs := flat_of_before _ h
  have hq := flat_of_before _ hr
  have hc : (Cond.count 1).before args s = true := hs _ (by decide +kernel)
  have harr : (Cond.arrayOf (.arg 0) .int).before args s = true := hs _ (by decide +kernel)
  have hle : (Cond.le (.length (.arg 0)) (.int 260)).before args s = true := hs _ (by decide +kernel)
  have hlen : (Cond.isInt (.length (.arg 0))).before args s = true := hq _ (by decide +kernel)
  have hall : (Cond.all (.arg 0) (.isInt (.elem (.arg 0) (.index 0)))).before args s = true := hq _ (by decide +kernel)
  obtain ⟨b, xs, hb, hx⟩ := State.ints_of_pre rfl harr hlen hall
  have hsm : xs.length < 2 ^ 31 := hx.choose_spec.2.2.2
  have hev : (Term.length (.arg 0)).eval args s none [] s = some (.int xs.length.toInt32) := hx.length_eval hb
  have hv := Cond.le_ints hev (show (Term.int 260).eval args s none [] s = some (.int 260) from rfl)
  have hd : xs.length.toInt32 ≤ 260 := by
    simpa [Cond.before, Cond.holds, hv] using hle
  have hN : xs.length ≤ 260 := (Int32.ofNat_le_ofNat hsm (by decide)).mp (show Int32.ofNat xs.length ≤ Int32.ofNat 260 from hd)
  exact ⟨b, xs, Cond.one_arg hc (show args[0]? = some (.ref b) from hb), hx, hN, h⟩
theorem lw_comes (l : Launch) (hflags : l.flags = flags0) : Comes l x (Jvm.Cond.code x code maxLocals ret :: tables_1) room_1 (fun tb e args s => Calls_1 tb e args s ∧ rest_1 tb e args s ∧ Pre_1 tb e args s)
    (fun _ _ args s o t => lw_Q args s o t) := by
  intro p e ha hc hk s m args below hf hfit hheap happ hpre
  obtain ⟨b, xs, hP⟩ := lw_pre_spec hpre.2.2 hpre.2.1
  obtain ⟨k, o, h1, h2, h3, hQ⟩ := lw_walk l hflags b xs p e ha hc hk s m args below hf ((Spec.applies_iff_loose hf).mp happ).1 hP trivial
  exact ⟨k, o, h1, h2, h3, hQ⟩
theorem lw_frame {s t : State} {o : Outcome} {args : Array Value} (h : State.butDraws s t lw_cs (fun t1 => Framed s o t1 [] 600130 7301080)) :
    State.butDraws s t [Jvm.Choice.named "NaN.bits"] (fun t1 => Framed s o t1 (fieldLocs frame_1_writes args s ++ arrayLocs frame_1_arrays args s ++ staticLocs frame_1_statics s) 600130 7301080) := h
theorem lw_limb (L : Cond) (hL : ∀ (args : Array Value) (s t : State), L.after args s (.returned (some (.int 1))) t = true) :
    ArmFor flags0 classFile x code maxLocals ret World_1 tables_1 room_1 Calls_1 rest_1 Pre_1
      (fun tb e a s o t => postC L tb e a s o t ∧ State.butDraws s t [Jvm.Choice.named "NaN.bits"] (fun t1 => Framed s o t1 (fieldLocs frame_1_writes a s ++ arrayLocs frame_1_arrays a s ++ staticLocs frame_1_statics s) 600130 7301080)) := by
  intro l hflags _ _ p e ha hc hk s m args below hf hfit hheap happ hpre
  obtain ⟨k, o, h1, h2, h3, rfl, hF⟩ := lw_comes l hflags p e ha hc hk s m args below hf hfit hheap happ hpre
  exact ⟨k, _, h1, h2, h3, hL args s _, lw_frame hF⟩
theorem i_vc : Claimed_1_1 ∧ Claimed_1_2 := ⟨lw_limb limb_1_1 (fun args s t => by simp [limb_1_1, Cond.after, Cond.holds, Cond.value]), lw_limb limb_1_2 (fun args s t => Cond.after_iff.mpr (by
  first | (rw [show limb_1_2 = Cond.eq .result (.int 1) from rfl, Cond.eq_ints (x := 1) (y := 1) rfl rfl]; simp; done) | (simp [limb_1_2, Cond.value, Term.eval]; done)))⟩
