/-! WHAT A THROW NEEDS, and methods that always throw from here. -/
abbrev zXN : List String := ["java/lang/RuntimeException", "java/lang/Exception"]
abbrev zIAE : String := "java/lang/IllegalArgumentException"
abbrev zISE : String := "java/lang/IllegalStateException"
abbrev zIOE : String := "java/lang/IndexOutOfBoundsException"
def zB : List Cond := [.castable zIAE zIAE, .castable zISE zISE, .castable zIOE zIOE, .declares ⟨"java/lang/RuntimeException", "<init>", "(Ljava/lang/String;)V"⟩, .declares ⟨"java/lang/Exception", "<init>", "(Ljava/lang/String;)V"⟩, .declares ⟨"java/lang/Throwable", "<init>", "(Ljava/lang/String;)V"⟩]
def zStr : List (Nat × String) := [(119, "the state is not 0 to 3"), (145, "there is no such person"), (148, "there is no such slight"), (153, "the slight is not open"), (155, "the pride is not 0 to 9"), (157, "the words are not 1 to 20"), (159, "the days are not 1 to 60"), (45, "there is no room for another person"), (55, "nobody slights himself"), (58, "the weight is not 1 to 20"), (63, "there is no room for another slight"), (96, "the slights are not of two persons against each other")]
theorem zB_on : ∀ w ∈ zB, w.onTables = true := by
  intro w h
  simp only [zB, List.mem_cons, List.not_mem_nil, or_false] at h
  rcases h with h | h | h | h | h | h <;> subst h <;> rfl
theorem zB_IAE : ∀ w ∈ (vx_atS RX0 57 zIAE zXN).filter (fun w => !goodWord w), w ∈ zB := by decide +kernel
theorem zB_ISE : ∀ w ∈ (vx_atS RX0 47 zISE zXN).filter (fun w => !goodWord w), w ∈ zB := by decide +kernel
theorem zB_IOE : ∀ w ∈ (vx_atS RX0 147 zIOE zXN).filter (fun w => !goodWord w), w ∈ zB := by decide +kernel
theorem zO_IAE : ∀ w ∈ Cond.classLink RX0 53 zIAE :: Cond.initialized zIAE :: vx_atS RX0 57 zIAE zXN, vx_ot w = true := by decide +kernel
theorem zO_ISE : ∀ w ∈ Cond.classLink RX0 43 zISE :: Cond.initialized zISE :: vx_atS RX0 47 zISE zXN, vx_ot w = true := by decide +kernel
theorem zO_IOE : ∀ w ∈ Cond.classLink RX0 143 zIOE :: Cond.initialized zIOE :: vx_atS RX0 147 zIOE zXN, vx_ot w = true := by decide +kernel
def zE (A : Nat → Prop) (U : State) (H : Heap) : Prop := vx_Zq Bundle.tN "UNASSIGNED_STACK" Bundle.steD A U H ∧ vx_Zq Bundle.tN "SUPPRESSED_SENTINEL" Bundle.listD A U H ∧ (∀ w ∈ zB, w.before #[] U = true) ∧ ∀ q ∈ zStr, ∃ sa, vk_R RX0 q.1 q.2 sa U
theorem zE.moved {A : Nat → Prop} {s U : State} {H : Heap} (hW : s.WarmedH U.vm) (h : zE A s H) : zE A U H := by
  obtain ⟨h1, h2, h3, h4⟩ := h
  refine ⟨h1.moved hW.alike, h2.moved hW.alike, fun w hw => ?_, fun q hq => ?_⟩
  · have h5 := h3 w hw
    simp only [zB, List.mem_cons, List.not_mem_nil, or_false] at hw
    rcases hw with h | h | h | h | h | h <;> subst h <;> first | exact va_Nw.warmC hW h5 | exact va_Nw.warmD hW h5
  · obtain ⟨sa, h5⟩ := h4 q hq
    exact ⟨sa, h5.warm hW⟩
theorem zE.call {A : Nat → Prop} {U : State} {H : Heap} {g : JFrame} {mk : MethodId} {a : Array Value} (h : zE A U H) : zE A (U.calling g mk a) H := by
  obtain ⟨h1, h2, h3, h4⟩ := h
  refine ⟨vx_Zq.moved (u := U) (U := U.calling g mk a) (Vm.Alike.refl U.vm) h1, vx_Zq.moved (u := U) (U := U.calling g mk a) (Vm.Alike.refl U.vm) h2, fun w hw => va_tabs (zB_on w hw) (u := U) (U := U.calling g mk a) rfl (h3 w hw), fun q hq => ?_⟩
  obtain ⟨sa, h5⟩ := h4 q hq
  exact ⟨sa, vk_R.same (u := U) (U := U.calling g mk a) rfl h5⟩
theorem zE.kept {A : Nat → Prop} {U : State} {H H1 : Heap} (h : zE A U H) (hq : ∀ a : Nat, a < H.size → ¬ A a → H1[a]? = H[a]?) : zE A U H1 := ⟨h.1.kept hq, h.2.1.kept hq, h.2.2.1, h.2.2.2⟩
theorem zE.narrow {A B : Nat → Prop} {U : State} {H : Heap} (h : zE A U H) (hAB : ∀ q, B q → A q) : zE B U H := ⟨h.1.narrow hAB, h.2.1.narrow hAB, h.2.2.1, h.2.2.2⟩
abbrev pT (G : zG) (x : Nat) (a : Nat → Nat) (σ : zS) (sz : Nat) : State → Prop := fun U => U.heap.size = sz ∧ va_P G.1 vwCl (xW G x a σ) U.heap ∧ zK G U ∧ zE (nA sz) U U.heap
abbrev pTS (sz : Nat) : State → Prop := fun U => U.heap.size = sz ∧ zE (nA sz) U U.heap
abbrev XT (cls : String) (sz : Nat) : String → State → State → Prop := vx_X (fun _ : Unit => True) (fun E _ _ => E = cls) (nA sz)
abbrev QvT (sz : Nat) : Array Value → State → Outcome → State → Prop := va_Qv (fun (_ : Unit) => False) (fun _ _ => True) (nA sz)
abbrev QiT (sz : Nat) : Array Value → State → Outcome → State → Prop := va_Qi (fun (_ : Int32) (_ : Unit) => False) (fun _ _ => True) (nA sz)
section ZT
variable {p : Program} {l : Launch} {e : Env} {R : Room} {s : State} {m : MethodId} {args : Array Value} {below : List Frame} {meth : Method} {c : Code} {H : Heap} {locs : List Loc} {cells slots : Nat} {Q : State → Prop}
variable {cc : ByteArray} {pc : Nat} {ls : Array Slot} {rest st0 As : List Value} {G : zG} {x : Nat} {a : Nat → Nat} {σ : zS} {av : Array Value}
theorem preTX (hK : zK G s) (hP : va_P G.1 vwCl (xW G x a σ) H) (hE : zE (nA H.size) s H) : PreV s H RX0 x (va_Pc (.ref x :: As) (pT G x a σ H.size)) As :=
  ⟨fun _ _ _ _ q => ⟨q.1, q.2.1, q.2.2.1, zK.call q.2.2.2.1, zE.call q.2.2.2.2⟩, va_recv hK hP (ci := 0) (q0 := 0) rfl rfl, fun U hU hW => ⟨rfl, by rw [hU], by rw [hU]; exact hP, va_K.moved hW.alike hK, by rw [hU]; exact hE.moved hW⟩⟩
theorem preTS (hE : zE (nA H.size) s H) : PreS s H (va_Pc As (pTS H.size)) As :=
  ⟨fun _ _ _ _ q => ⟨q.1, q.2.1, zE.call q.2.2⟩, fun U hU hW => ⟨rfl, by rw [hU], by rw [hU]; exact hE.moved hW⟩⟩
theorem zt_new {Qc : Array Value → State → Outcome → State → Prop} {Ts : List Cond} {cls text : String} {ik is ic : Nat} (hx : p.tables.exec = Jvm.exec) (hb : c.code = cc) (hfl : l.stackTraces = false) (hown : s.vm.findClass RX0 = some m.cls) (hts : ∀ w ∈ Ts, w.before args s = true) (hcl : Cond.classLink RX0 ik cls ∈ Ts) (hini : Cond.initialized cls ∈ Ts)
    (hgd : ∀ w ∈ (vx_atS RX0 ic cls zXN).filter goodWord, w ∈ Ts) (hbad : ∀ w ∈ (vx_atS RX0 ic cls zXN).filter (fun w => !goodWord w), w ∈ zB) (hfit : Bundle.fit cls = true) (hgood : ∀ w ∈ Cond.classLink RX0 ik cls :: Cond.initialized cls :: vx_atS RX0 ic cls zXN, vx_ot w = true)
    (hE : zE (nA s.heap.size) s s.heap) (hstr : (is, text) ∈ zStr) (hsize : ls.size = c.maxLocals)
    (d0 : decode cc pc = .ok (.new ik, 3)) (d3 : decode cc (pc + 3) = .ok (.dup, 1)) (d4 : decode cc (pc + 4) = .ok (.ldc is, 2)) (d6 : decode cc (pc + 6) = .ok (.invokespecial ic, 3)) (d9 : decode cc (pc + 9) = .ok (.athrow, 1))
    (hout : ∀ x ∈ c.exceptionTable.toList, False) (hRf : 5 < R.frames) (hRl : (rest.map fun v => v.category).sum + 82 ≤ R.locals) (hRc : 1 ≤ R.cells) (hRs : 6 ≤ R.slots) (hlocks : meth.locks = false) :
    W p l e R s m args below meth c s.heap [] 0 0 (vx_MQ below Qc (XT cls s.heap.size) args s 1 6 (nA s.heap.size)) (F0 m pc ls rest) := by
  obtain ⟨hU, hN, hB, hS⟩ := hE
  obtain ⟨sa, hsa⟩ := hS _ hstr
  exact vx_throwS hx hb hfl hown hfit (by decide +kernel) (hts _ hcl) (hts _ hini) hsa (vx_hat (fun w h => hts w (hgd w h)) hbad (fun w hw => va_tabs (zB_on w hw) rfl (hB w hw))) hgood hU hN va_S.rf hsize d0 d3 d4 d6 d9 (fun x hx => (hout x hx).elim) hRf hRl (by omega) (by omega) hlocks
    (fun t _ h1 h2 => ⟨(), trivial, rfl, h1, fun q hq _ => h2 q hq⟩) (fun z hz => by cases hz) (by omega) (by omega)
theorem zt_pass {Qc : Array Value → State → Outcome → State → Prop} {cls : String} (hr : vx_Run p l e R s m args below meth c s.heap [] 0 0 1 6 (F0 m pc ls st0) rest (QvT s.heap.size av) (XT cls s.heap.size) (nA s.heap.size)) (hout : ∀ x ∈ c.exceptionTable.toList, False) (hlocks : meth.locks = false) :
    W p l e R s m args below meth c s.heap [] 0 0 (vx_MQ below Qc (XT cls s.heap.size) args s 1 6 (nA s.heap.size)) (F0 m pc ls st0) :=
  vx_callv hr va_S.rf (fun q _ h => h) (fun q h => h) (fun q _ h => h) (fun E ce q9 u t H1 locs1 _ _ _ hE hz hk hS1 hce hcv hcl => by
    subst hE
    exact vx_out (fun x hx => (hout x hx).elim) hlocks hce hcv hcl (fun t2 ht2 _ => ⟨(), trivial, rfl, by rw [ht2]; exact hz, fun q hq hn => by rw [ht2]; exact hk q hq hn⟩) hS1.2.2 (Nat.le_refl _) (Nat.le_refl _)) (fun u t H1 locs1 _ _ hf => hf.elim)
end ZT
