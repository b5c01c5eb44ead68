section
-- ===== PART A: goes FIRST, ahead of the names: the tables' words, and 'selects' of the private methods out of them =====
/-- a private method of a class that the tables say can be made, by its rows of tables_1 -/
def lw_okq (q : MethodName × Nat) : Prop := (q.1.cls ≠ "java/lang/invoke/MethodHandle" ∧ q.1.cls ≠ "java/lang/invoke/VarHandle") ∧ Cond.instantiable q.1.cls q.2 ∈ tables_1 ∧ Cond.privateMethod q.1 ∈ tables_1 ∧ Cond.instanceMethod q.1 ∈ tables_1
theorem lw_p0 : lw_okq (⟨"ApologyLedger", "requirePerson", "(I)V"⟩, 12) := ⟨⟨by decide +kernel, by decide +kernel⟩, List.mem_of_getElem? (i := 11) (by decide +kernel), List.mem_of_getElem? (i := 86) (by decide +kernel), List.mem_of_getElem? (i := 87) (by decide +kernel)⟩
theorem lw_p1 : lw_okq (⟨"java/lang/Throwable", "fillInStackTrace", "(I)Ljava/lang/Throwable;"⟩, 6) := ⟨⟨by decide +kernel, by decide +kernel⟩, List.mem_of_getElem? (i := 128) (by decide +kernel), List.mem_of_getElem? (i := 126) (by decide +kernel), List.mem_of_getElem? (i := 127) (by decide +kernel)⟩
theorem lw_p2 : lw_okq (⟨"ApologyLedger", "areAgainstEachOther", "(II)Z"⟩, 12) := ⟨⟨by decide +kernel, by decide +kernel⟩, List.mem_of_getElem? (i := 11) (by decide +kernel), List.mem_of_getElem? (i := 166) (by decide +kernel), List.mem_of_getElem? (i := 167) (by decide +kernel)⟩
theorem lw_p3 : lw_okq (⟨"ApologyLedger", "requireSlight", "(I)V"⟩, 12) := ⟨⟨by decide +kernel, by decide +kernel⟩, List.mem_of_getElem? (i := 11) (by decide +kernel), List.mem_of_getElem? (i := 174) (by decide +kernel), List.mem_of_getElem? (i := 175) (by decide +kernel)⟩
theorem lw_p4 : lw_okq (⟨"ApologyLedger", "digestOfTheWhole", "(J)J"⟩, 12) := ⟨⟨by decide +kernel, by decide +kernel⟩, List.mem_of_getElem? (i := 11) (by decide +kernel), List.mem_of_getElem? (i := 192) (by decide +kernel), List.mem_of_getElem? (i := 193) (by decide +kernel)⟩
theorem lw_p5 : lw_okq (⟨"ApologyLedger", "digestOfPerson", "(JI)J"⟩, 12) := ⟨⟨by decide +kernel, by decide +kernel⟩, List.mem_of_getElem? (i := 11) (by decide +kernel), List.mem_of_getElem? (i := 228) (by decide +kernel), List.mem_of_getElem? (i := 229) (by decide +kernel)⟩
theorem lw_p6 : lw_okq (⟨"ApologyLedger", "digestOfSlight", "(JI)J"⟩, 12) := ⟨⟨by decide +kernel, by decide +kernel⟩, List.mem_of_getElem? (i := 11) (by decide +kernel), List.mem_of_getElem? (i := 269) (by decide +kernel), List.mem_of_getElem? (i := 270) (by decide +kernel)⟩
theorem lw_p7 : lw_okq (⟨"ApologyLedger", "leastWorthHeard", "(I)I"⟩, 12) := ⟨⟨by decide +kernel, by decide +kernel⟩, List.mem_of_getElem? (i := 11) (by decide +kernel), List.mem_of_getElem? (i := 297) (by decide +kernel), List.mem_of_getElem? (i := 298) (by decide +kernel)⟩
theorem lw_p8 : lw_okq (⟨"ApologyLedger", "worthOf", "(II)I"⟩, 12) := ⟨⟨by decide +kernel, by decide +kernel⟩, List.mem_of_getElem? (i := 11) (by decide +kernel), List.mem_of_getElem? (i := 301) (by decide +kernel), List.mem_of_getElem? (i := 302) (by decide +kernel)⟩
theorem lw_p9 : lw_okq (⟨"ApologyLedger", "requireOpen", "(I)V"⟩, 12) := ⟨⟨by decide +kernel, by decide +kernel⟩, List.mem_of_getElem? (i := 11) (by decide +kernel), List.mem_of_getElem? (i := 363) (by decide +kernel), List.mem_of_getElem? (i := 364) (by decide +kernel)⟩
theorem lw_p10 : lw_okq (⟨"ApologyLedger", "speakOf", "(I)V"⟩, 12) := ⟨⟨by decide +kernel, by decide +kernel⟩, List.mem_of_getElem? (i := 11) (by decide +kernel), List.mem_of_getElem? (i := 368) (by decide +kernel), List.mem_of_getElem? (i := 369) (by decide +kernel)⟩
theorem lw_p11 : lw_okq (⟨"ApologyLedger", "lighten", "(III)V"⟩, 12) := ⟨⟨by decide +kernel, by decide +kernel⟩, List.mem_of_getElem? (i := 11) (by decide +kernel), List.mem_of_getElem? (i := 383) (by decide +kernel), List.mem_of_getElem? (i := 384) (by decide +kernel)⟩
theorem lw_p12 : lw_okq (⟨"ApologyLedger", "close", "(II)V"⟩, 12) := ⟨⟨by decide +kernel, by decide +kernel⟩, List.mem_of_getElem? (i := 11) (by decide +kernel), List.mem_of_getElem? (i := 387) (by decide +kernel), List.mem_of_getElem? (i := 388) (by decide +kernel)⟩
theorem lw_p13 : lw_okq (⟨"ApologyLedger", "passOneDay", "()I"⟩, 12) := ⟨⟨by decide +kernel, by decide +kernel⟩, List.mem_of_getElem? (i := 11) (by decide +kernel), List.mem_of_getElem? (i := 413) (by decide +kernel), List.mem_of_getElem? (i := 414) (by decide +kernel)⟩
theorem lw_p14 : lw_okq (⟨"ApologyLedger", "bearOneDay", "(I)V"⟩, 12) := ⟨⟨by decide +kernel, by decide +kernel⟩, List.mem_of_getElem? (i := 11) (by decide +kernel), List.mem_of_getElem? (i := 417) (by decide +kernel), List.mem_of_getElem? (i := 418) (by decide +kernel)⟩
theorem lw_p15 : lw_okq (⟨"ApologyLedger", "weightBetween", "(II)I"⟩, 12) := ⟨⟨by decide +kernel, by decide +kernel⟩, List.mem_of_getElem? (i := 11) (by decide +kernel), List.mem_of_getElem? (i := 444) (by decide +kernel), List.mem_of_getElem? (i := 445) (by decide +kernel)⟩
def lw_privs_1 : List (MethodName × Nat) := [(⟨"ApologyLedger", "requirePerson", "(I)V"⟩, 12), (⟨"java/lang/Throwable", "fillInStackTrace", "(I)Ljava/lang/Throwable;"⟩, 6), (⟨"ApologyLedger", "areAgainstEachOther", "(II)Z"⟩, 12), (⟨"ApologyLedger", "requireSlight", "(I)V"⟩, 12), (⟨"ApologyLedger", "digestOfTheWhole", "(J)J"⟩, 12), (⟨"ApologyLedger", "digestOfPerson", "(JI)J"⟩, 12), (⟨"ApologyLedger", "digestOfSlight", "(JI)J"⟩, 12), (⟨"ApologyLedger", "leastWorthHeard", "(I)I"⟩, 12), (⟨"ApologyLedger", "worthOf", "(II)I"⟩, 12), (⟨"ApologyLedger", "requireOpen", "(I)V"⟩, 12), (⟨"ApologyLedger", "speakOf", "(I)V"⟩, 12), (⟨"ApologyLedger", "lighten", "(III)V"⟩, 12), (⟨"ApologyLedger", "close", "(II)V"⟩, 12), (⟨"ApologyLedger", "passOneDay", "()I"⟩, 12), (⟨"ApologyLedger", "bearOneDay", "(I)V"⟩, 12), (⟨"ApologyLedger", "weightBetween", "(II)I"⟩, 12)]
theorem lw_r1 : ∀ q ∈ lw_privs_1, lw_okq q := List.forall_mem_cons.mpr ⟨lw_p0, List.forall_mem_cons.mpr ⟨lw_p1, List.forall_mem_cons.mpr ⟨lw_p2, List.forall_mem_cons.mpr ⟨lw_p3, List.forall_mem_cons.mpr ⟨lw_p4, List.forall_mem_cons.mpr ⟨lw_p5, List.forall_mem_cons.mpr ⟨lw_p6, List.forall_mem_cons.mpr ⟨lw_p7, List.forall_mem_cons.mpr ⟨lw_p8, List.forall_mem_cons.mpr ⟨lw_p9, List.forall_mem_cons.mpr ⟨lw_p10, List.forall_mem_cons.mpr ⟨lw_p11, List.forall_mem_cons.mpr ⟨lw_p12, List.forall_mem_cons.mpr ⟨lw_p13, List.forall_mem_cons.mpr ⟨lw_p14, List.forall_mem_cons.mpr ⟨lw_p15, fun _ h => absurd h List.not_mem_nil⟩⟩⟩⟩⟩⟩⟩⟩⟩⟩⟩⟩⟩⟩⟩⟩
theorem lw_p16 : lw_okq (⟨"ApologyLedgerModel", "no", "(I)I"⟩, 13) := ⟨⟨by decide +kernel, by decide +kernel⟩, List.mem_of_getElem? (i := 507) (by decide +kernel), List.mem_of_getElem? (i := 564) (by decide +kernel), List.mem_of_getElem? (i := 565) (by decide +kernel)⟩
theorem lw_p17 : lw_okq (⟨"ApologyLedgerModel", "isPerson", "(I)Z"⟩, 13) := ⟨⟨by decide +kernel, by decide +kernel⟩, List.mem_of_getElem? (i := 507) (by decide +kernel), List.mem_of_getElem? (i := 572) (by decide +kernel), List.mem_of_getElem? (i := 573) (by decide +kernel)⟩
theorem lw_p18 : lw_okq (⟨"ApologyLedgerModel", "isNot", "(I)Z"⟩, 13) := ⟨⟨by decide +kernel, by decide +kernel⟩, List.mem_of_getElem? (i := 507) (by decide +kernel), List.mem_of_getElem? (i := 576) (by decide +kernel), List.mem_of_getElem? (i := 577) (by decide +kernel)⟩
theorem lw_p19 : lw_okq (⟨"ApologyLedgerModel", "isSlight", "(I)Z"⟩, 13) := ⟨⟨by decide +kernel, by decide +kernel⟩, List.mem_of_getElem? (i := 507) (by decide +kernel), List.mem_of_getElem? (i := 588) (by decide +kernel), List.mem_of_getElem? (i := 589) (by decide +kernel)⟩
theorem lw_p20 : lw_okq (⟨"ApologyLedgerModel", "isOpen", "(I)Z"⟩, 13) := ⟨⟨by decide +kernel, by decide +kernel⟩, List.mem_of_getElem? (i := 507) (by decide +kernel), List.mem_of_getElem? (i := 592) (by decide +kernel), List.mem_of_getElem? (i := 593) (by decide +kernel)⟩
theorem lw_p21 : lw_okq (⟨"ApologyLedgerModel", "speak", "(I)V"⟩, 13) := ⟨⟨by decide +kernel, by decide +kernel⟩, List.mem_of_getElem? (i := 507) (by decide +kernel), List.mem_of_getElem? (i := 596) (by decide +kernel), List.mem_of_getElem? (i := 597) (by decide +kernel)⟩
theorem lw_p22 : lw_okq (⟨"ApologyLedgerModel", "isScorned", "(II)Z"⟩, 13) := ⟨⟨by decide +kernel, by decide +kernel⟩, List.mem_of_getElem? (i := 507) (by decide +kernel), List.mem_of_getElem? (i := 605) (by decide +kernel), List.mem_of_getElem? (i := 606) (by decide +kernel)⟩
theorem lw_p23 : lw_okq (⟨"ApologyLedgerModel", "witnesses", "(I)I"⟩, 13) := ⟨⟨by decide +kernel, by decide +kernel⟩, List.mem_of_getElem? (i := 507) (by decide +kernel), List.mem_of_getElem? (i := 609) (by decide +kernel), List.mem_of_getElem? (i := 610) (by decide +kernel)⟩
theorem lw_p24 : lw_okq (⟨"ApologyLedgerModel", "close", "(II)V"⟩, 13) := ⟨⟨by decide +kernel, by decide +kernel⟩, List.mem_of_getElem? (i := 507) (by decide +kernel), List.mem_of_getElem? (i := 613) (by decide +kernel), List.mem_of_getElem? (i := 614) (by decide +kernel)⟩
theorem lw_p25 : lw_okq (⟨"ApologyLedgerModel", "areOpposite", "(II)Z"⟩, 13) := ⟨⟨by decide +kernel, by decide +kernel⟩, List.mem_of_getElem? (i := 507) (by decide +kernel), List.mem_of_getElem? (i := 621) (by decide +kernel), List.mem_of_getElem? (i := 622) (by decide +kernel)⟩
theorem lw_p26 : lw_okq (⟨"ApologyLedgerModel", "later", "(II)I"⟩, 13) := ⟨⟨by decide +kernel, by decide +kernel⟩, List.mem_of_getElem? (i := 507) (by decide +kernel), List.mem_of_getElem? (i := 633) (by decide +kernel), List.mem_of_getElem? (i := 634) (by decide +kernel)⟩
theorem lw_p27 : lw_okq (⟨"ApologyLedgerModel", "ok", "(I)I"⟩, 13) := ⟨⟨by decide +kernel, by decide +kernel⟩, List.mem_of_getElem? (i := 507) (by decide +kernel), List.mem_of_getElem? (i := 645) (by decide +kernel), List.mem_of_getElem? (i := 646) (by decide +kernel)⟩
theorem lw_p28 : lw_okq (⟨"ApologyLedgerModel", "here", "()I"⟩, 13) := ⟨⟨by decide +kernel, by decide +kernel⟩, List.mem_of_getElem? (i := 507) (by decide +kernel), List.mem_of_getElem? (i := 661) (by decide +kernel), List.mem_of_getElem? (i := 662) (by decide +kernel)⟩
theorem lw_p29 : lw_okq (⟨"ApologyLedgerModel", "done", "(II)I"⟩, 13) := ⟨⟨by decide +kernel, by decide +kernel⟩, List.mem_of_getElem? (i := 507) (by decide +kernel), List.mem_of_getElem? (i := 681) (by decide +kernel), List.mem_of_getElem? (i := 682) (by decide +kernel)⟩
theorem lw_p30 : lw_okq (⟨"ApologyLedgerModel", "sore", "()I"⟩, 13) := ⟨⟨by decide +kernel, by decide +kernel⟩, List.mem_of_getElem? (i := 507) (by decide +kernel), List.mem_of_getElem? (i := 697) (by decide +kernel), List.mem_of_getElem? (i := 698) (by decide +kernel)⟩
theorem lw_p31 : lw_okq (⟨"ApologyLedgerModel", "of", "(I[I)I"⟩, 13) := ⟨⟨by decide +kernel, by decide +kernel⟩, List.mem_of_getElem? (i := 507) (by decide +kernel), List.mem_of_getElem? (i := 705) (by decide +kernel), List.mem_of_getElem? (i := 706) (by decide +kernel)⟩
def lw_privs_2 : List (MethodName × Nat) := [(⟨"ApologyLedgerModel", "no", "(I)I"⟩, 13), (⟨"ApologyLedgerModel", "isPerson", "(I)Z"⟩, 13), (⟨"ApologyLedgerModel", "isNot", "(I)Z"⟩, 13), (⟨"ApologyLedgerModel", "isSlight", "(I)Z"⟩, 13), (⟨"ApologyLedgerModel", "isOpen", "(I)Z"⟩, 13), (⟨"ApologyLedgerModel", "speak", "(I)V"⟩, 13), (⟨"ApologyLedgerModel", "isScorned", "(II)Z"⟩, 13), (⟨"ApologyLedgerModel", "witnesses", "(I)I"⟩, 13), (⟨"ApologyLedgerModel", "close", "(II)V"⟩, 13), (⟨"ApologyLedgerModel", "areOpposite", "(II)Z"⟩, 13), (⟨"ApologyLedgerModel", "later", "(II)I"⟩, 13), (⟨"ApologyLedgerModel", "ok", "(I)I"⟩, 13), (⟨"ApologyLedgerModel", "here", "()I"⟩, 13), (⟨"ApologyLedgerModel", "done", "(II)I"⟩, 13), (⟨"ApologyLedgerModel", "sore", "()I"⟩, 13), (⟨"ApologyLedgerModel", "of", "(I[I)I"⟩, 13)]
theorem lw_r2 : ∀ q ∈ lw_privs_2, lw_okq q := List.forall_mem_cons.mpr ⟨lw_p16, List.forall_mem_cons.mpr ⟨lw_p17, List.forall_mem_cons.mpr ⟨lw_p18, List.forall_mem_cons.mpr ⟨lw_p19, List.forall_mem_cons.mpr ⟨lw_p20, List.forall_mem_cons.mpr ⟨lw_p21, List.forall_mem_cons.mpr ⟨lw_p22, List.forall_mem_cons.mpr ⟨lw_p23, List.forall_mem_cons.mpr ⟨lw_p24, List.forall_mem_cons.mpr ⟨lw_p25, List.forall_mem_cons.mpr ⟨lw_p26, List.forall_mem_cons.mpr ⟨lw_p27, List.forall_mem_cons.mpr ⟨lw_p28, List.forall_mem_cons.mpr ⟨lw_p29, List.forall_mem_cons.mpr ⟨lw_p30, List.forall_mem_cons.mpr ⟨lw_p31, fun _ h => absurd h List.not_mem_nil⟩⟩⟩⟩⟩⟩⟩⟩⟩⟩⟩⟩⟩⟩⟩⟩
theorem lw_p32 : lw_okq (⟨"ApologyLedgerModel", "count", "(I)I"⟩, 13) := ⟨⟨by decide +kernel, by decide +kernel⟩, List.mem_of_getElem? (i := 507) (by decide +kernel), List.mem_of_getElem? (i := 737) (by decide +kernel), List.mem_of_getElem? (i := 738) (by decide +kernel)⟩
theorem lw_p33 : lw_okq (⟨"ApologyLedgerModel", "heavy", "()I"⟩, 13) := ⟨⟨by decide +kernel, by decide +kernel⟩, List.mem_of_getElem? (i := 507) (by decide +kernel), List.mem_of_getElem? (i := 745) (by decide +kernel), List.mem_of_getElem? (i := 746) (by decide +kernel)⟩
theorem lw_p34 : lw_okq (⟨"ApologyLedgerModel", "pairs", "()I"⟩, 13) := ⟨⟨by decide +kernel, by decide +kernel⟩, List.mem_of_getElem? (i := 507) (by decide +kernel), List.mem_of_getElem? (i := 753) (by decide +kernel), List.mem_of_getElem? (i := 754) (by decide +kernel)⟩
theorem lw_p35 : lw_okq (⟨"ApologyLedgerModel", "wanted", "(I)I"⟩, 13) := ⟨⟨by decide +kernel, by decide +kernel⟩, List.mem_of_getElem? (i := 507) (by decide +kernel), List.mem_of_getElem? (i := 761) (by decide +kernel), List.mem_of_getElem? (i := 762) (by decide +kernel)⟩
theorem lw_p36 : lw_okq (⟨"ApologyLedgerModel", "until", "(I)I"⟩, 13) := ⟨⟨by decide +kernel, by decide +kernel⟩, List.mem_of_getElem? (i := 507) (by decide +kernel), List.mem_of_getElem? (i := 777) (by decide +kernel), List.mem_of_getElem? (i := 778) (by decide +kernel)⟩
theorem lw_p37 : lw_okq (⟨"ApologyLedgerModel", "borneThen", "(II)I"⟩, 13) := ⟨⟨by decide +kernel, by decide +kernel⟩, List.mem_of_getElem? (i := 507) (by decide +kernel), List.mem_of_getElem? (i := 785) (by decide +kernel), List.mem_of_getElem? (i := 786) (by decide +kernel)⟩
theorem lw_p38 : lw_okq (⟨"ApologyLedgerModel", "worst", "(I)I"⟩, 13) := ⟨⟨by decide +kernel, by decide +kernel⟩, List.mem_of_getElem? (i := 507) (by decide +kernel), List.mem_of_getElem? (i := 793) (by decide +kernel), List.mem_of_getElem? (i := 794) (by decide +kernel)⟩
def lw_privs_3 : List (MethodName × Nat) := [(⟨"ApologyLedgerModel", "count", "(I)I"⟩, 13), (⟨"ApologyLedgerModel", "heavy", "()I"⟩, 13), (⟨"ApologyLedgerModel", "pairs", "()I"⟩, 13), (⟨"ApologyLedgerModel", "wanted", "(I)I"⟩, 13), (⟨"ApologyLedgerModel", "until", "(I)I"⟩, 13), (⟨"ApologyLedgerModel", "borneThen", "(II)I"⟩, 13), (⟨"ApologyLedgerModel", "worst", "(I)I"⟩, 13)]
theorem lw_r3 : ∀ q ∈ lw_privs_3, lw_okq q := List.forall_mem_cons.mpr ⟨lw_p32, List.forall_mem_cons.mpr ⟨lw_p33, List.forall_mem_cons.mpr ⟨lw_p34, List.forall_mem_cons.mpr ⟨lw_p35, List.forall_mem_cons.mpr ⟨lw_p36, List.forall_mem_cons.mpr ⟨lw_p37, List.forall_mem_cons.mpr ⟨lw_p38, fun _ h => absurd h List.not_mem_nil⟩⟩⟩⟩⟩⟩⟩
def lw_privs : List (MethodName × Nat) := lw_privs_1 ++ (lw_privs_2 ++ (lw_privs_3))
def lw_tbl : List Cond := k2_sels lw_privs ++ tables_1
theorem lw_privs_ok : ∀ q ∈ lw_privs, lw_okq q := by
  show ∀ q ∈ lw_privs_1 ++ (lw_privs_2 ++ (lw_privs_3)), lw_okq q
  exact List.forall_mem_append.mpr ⟨lw_r1, List.forall_mem_append.mpr ⟨lw_r2, lw_r3⟩⟩
/-- the streams that the claim lets the run draw from -/
abbrev lw_cs : List Choice := [Jvm.Choice.named "NaN.bits"]
theorem lw_bits : nanBits ∈ lw_cs := by first | decide | exact List.mem_cons_self | simp [lw_cs, nanBits]
-- ===== end of PART A; then your names; then what follows =====
end
section
/-! ===== BEGIN words of one list among another's, by their places ===== -/
theorem goodIn_r {big : List Cond} (ws : List Cond) (ps : List Nat) (hp : ws = ps.filterMap (fun i => big[i]?)) (h : ws.all goodWord = true) : GoodIn big ws := by
  intro w hw
  have h1 := List.all_eq_true.mp h w hw
  rw [hp] at hw
  obtain ⟨i, -, hi⟩ := List.mem_filterMap.mp hw
  have hm : w ∈ big := by first | exact List.mem_of_getElem? hi | exact List.getElem?_mem hi
  exact ⟨hm, good_of_word h1⟩
theorem goodIn_app {big a b : List Cond} (ha : GoodIn big a) (hb : GoodIn big b) : GoodIn big (a ++ b) := fun w h => (List.mem_append.mp h).elim (ha w) (hb w)
theorem goodIn_ca {big a b : List Cond} {c : Cond} (ha : GoodIn big (c :: a)) (hb : GoodIn big b) : GoodIn big (c :: (a ++ b)) := fun w h => (List.mem_cons.mp h).elim (fun e => ha w (List.mem_cons.mpr (Or.inl e))) (fun h => (List.mem_append.mp h).elim (fun h => ha w (List.mem_cons.mpr (Or.inr h))) (hb w))
theorem goodIn_sub {big ws : List Cond} (hm : ∀ w ∈ ws, w ∈ big) (h : ws.all goodWord = true) : GoodIn big ws := fun w hw => ⟨hm w hw, good_of_word (List.all_eq_true.mp h w hw)⟩
/-! ===== END ===== -/

/-! ===== BEGIN exceptions that leave a method, and their catching by the caller (launches without stack traces) ===== -/
section VXA
/-! The laws vx_back, vx_callV, vx_callS, vx_callSW, vx_throw0, vx_throwS follow proofs of the library, with one case more: JvmDerived/Free/Laws.lean (Back.of_free), Shelf42/LK1.lean (callV, callS), Shelf/KitTraced.lean (throwNew0V, throwNewS). -/
/-- where a method has thrown q: the class by its name, the cell, what was written, the world -/
def vx_T (XC : String → State → State → Prop) (st : State) (q : Addr) (t : State) (mc ms : Nat) (free : Addr → Prop) : Prop :=
  ∃ (E : String) (ce : Cell) (L : List Loc), XC E st t ∧ t.heap[q]? = some ce ∧ ce.vm = .none ∧ st.vm.findClass E = some ce.cls ∧ st.WarmedH t.vm ∧ st.sameButNew ({ t with vm := st.vm } : State) L mc ms ∧ ∀ z ∈ L, free z.base
def vx_Q (Qc : Array Value → State → Outcome → State → Prop) (XC : String → State → State → Prop) (mc ms : Nat) (free : Addr → Prop) : Array Value → State → Outcome → State → Prop := fun a st o t =>
  (Qc a st o t ∧ ∃ L, FrameEnd st o t L mc ms ∧ ∀ q ∈ L, free q.base) ∨ ∃ q, o = .threw q ∧ vx_T XC st q t mc ms free
/-- a callee that returns or throws -/
def vx_Met (l : Launch) (y : MethodName) (ws : List Cond) (rm : Room) (Pc : Array Value → State → Prop) (Qc : Array Value → State → Outcome → State → Prop) (XC : String → State → State → Prop) (mc ms : Nat) (free : Addr → Prop) : Prop :=
  MetFree l y (headSpec ws rm) Pc (fun _ _ _ _ _ => True) (vx_Q Qc XC mc ms free)
def vx_Post (XC : String → State → State → Prop) (mc ms : Nat) (free : Addr → Prop) : Pt → Array Value → Addr → Pt → Prop := fun A a q B =>
  ∃ (g : JFrame) (mk : MethodId) (t : State) (L : List Loc) (E : String) (ce : Cell), B.U.heap = t.heap ∧ B.U.vm = t.vm ∧ XC E (A.U.calling g mk a) t ∧ t.heap[q]? = some ce ∧ ce.vm = .none ∧ A.U.vm.findClass E = some ce.cls ∧ B.locs = A.locs ++ L ∧ (∀ z ∈ L, free z.base) ∧ B.cells = A.cells + mc ∧ B.slots = A.slots + ms
def vx_Back (l : Launch) (R : Room) (p : Program) (e : Env) (below : List Frame) (s : State) (sargs : Array Value) (y : MethodName) (len W9 : Nat)
    (Pre : Pt → Array Value → Prop) (Post : Pt → Array Value → Option Value → Pt → Prop) (PostX : Pt → Array Value → Addr → Pt → Prop) : Prop :=
  ∀ (m : MethodId) (meth : Method) (c : Code) (A : Pt) (g : JFrame) (ig : Instr) (mk : MethodId) (a : Array Value),
    Stand p l e R s m sargs below meth c A.U A.locs A.cells A.slots → g.method = m → g.locals.size = c.maxLocals → decode c.code g.pc = .ok (ig, len) →
    2 * g.monitorRoom + (g.stack.map fun v => v.category).sum ≤ W9 → A.U.methodNamed? y = some mk → Pre A a →
    (∃ (v : Option Value) (B : Pt), Stand p l e R s m sargs below meth c B.U B.locs B.cells B.slots ∧ Post A a v B ∧
      Steps p.tables e below (doInvoke e (A.U.setTop g) [] mk a).1 (B.U.setTop { g with pc := g.pc + len, stack := v.toList ++ g.stack })) ∨
    (∃ (q : Addr) (B : Pt), Stand p l e R s m sargs below meth c B.U B.locs B.cells B.slots ∧ PostX A a q B ∧
      Steps p.tables e below (doInvoke e (A.U.setTop g) [] mk a).1 ((B.U.setTop g).pushFrame (.throwing q)))
section Payer
variable {l : Launch} {R : Room} {p : Program} {e : Env} {below : List Frame} {s : State} {sargs : Array Value} {y : MethodName} {len W9 : Nat}
theorem vx_back {ws : List Cond} {rm : Room} {Pc : Array Value → State → Prop} {Qc : Array Value → State → Outcome → State → Prop} {XC : String → State → State → Prop} {mc ms : Nat} {free : Addr → Prop} {bytes : ByteArray} {maxL : Nat} {ret : Option FieldType}
    (hM : vx_Met l y ws rm Pc Qc XC mc ms free) (hblind : FrameBlind Pc) (hrc : rm.cells = mc) (hrs : rm.slots = ms)
    (hframes : rm.frames + 1 ≤ R.frames) (hlocals : W9 + (maxL + 11) + rm.locals ≤ R.locals)
    (hws : ∀ w ∈ ws, ∀ a' U, s.WarmedH U.vm → w.before a' U = true) (hcode : Cond.code y bytes maxL ret ∈ ws) (hinit : ∀ a' U, s.WarmedH U.vm → (Cond.initialized y.cls).before a' U = true) :
    vx_Back l R p e below s sargs y len W9 (PreOf R mc ms Pc) (PostOf Qc mc ms free) (vx_Post XC mc ms free) := by
  intro m meth c A g ig mk a X hg hsize hdg hW hn hp
  have h1 : (headSpec ws rm).pre.before a A.U = true := atoms_intro fun w hw => hws w hw _ _ X.warmed
  have h2 : (Cond.code y bytes maxL ret).before a A.U = true := hws _ hcode _ _ X.warmed
  have h3 : (Cond.initialized y.cls).before a A.U = true := hinit _ _ X.warmed
  have h4 : A.cells + (headSpec ws rm).room.cells ≤ R.cells := by rw [show (headSpec ws rm).room.cells = mc from hrc]; exact hp.1
  have h5 : A.slots + (headSpec ws rm).room.slots ≤ R.slots := by rw [show (headSpec ws rm).room.slots = ms from hrs]; exact hp.2.1
  have hPc : Pc a (A.U.calling g mk a) := hblind _ _ _ _ hp.2.2
  obtain ⟨U, Ls, c0, s0⟩ := A
  dsimp only [Pt.U, Pt.locs, Pt.cells, Pt.slots] at h1 h2 h3 h4 h5 X hn hPc ⊢
  obtain ⟨methY, cY, hmY, hcY, -, hlY, -, -, -, -⟩ := Cond.code_spec hn h2
  obtain ⟨kY, hkY, -⟩ := className_of_methodNamed hn
  have hinitY : kY.init = .initialized := Cond.initialized_spec (findClass_of_methodNamed hn) hkY h3
  have h : At U g.method c below := by rw [hg]; exact X.here
  have hlocals9 : W9 + (maxL + 11) + (headSpec ws rm).room.locals ≤ R.locals := hlocals
  have happ : (headSpec ws rm).appliesLoose y e.platform (U.calling g mk a) = true :=
    Spec.appliesLoose_calling (g := g) h hdg hn hkY hinitY
      (X.room_calling (g := g) (R' := (headSpec ws rm).room) hsize hmY hcY hframes (by rw [hlY]; omega) h4 h5) h1
  obtain ⟨mid, hmid⟩ := h.above
  have hfr : (U.setTop g).frames = (.java g :: mid) ++ below := by rw [State.frames_setTop' g h.top, hmid]; rfl
  obtain ⟨o, s₂, hsteps, -, hend, hq⟩ := Steps.callFree hM p X.admits X.cas X.clock (acts := []) hfr happ hPc trivial
  have hq' : vx_Q Qc XC mc ms free a (U.calling g mk a) o s₂ := hq
  rw [State.frames_setTop' g h.top] at hend
  obtain ⟨g₀, hg0⟩ := Option.isSome_iff_exists.mp h.top
  obtain ⟨r, hr⟩ := State.topJava?_eq_some.mp hg0
  have hr' : (({ U with heap := s₂.heap, slotsUsed := s₂.slotsUsed } : State).setVm s₂.vm).frames = .java g₀ :: r := hr
  rcases hq' with ⟨hqc, L, hfe, hL⟩ | ⟨q, rfl, E, ce, L, hx, hce, hcv, hcl, hW₂, hsm, hL⟩
  · obtain ⟨⟨v, rfl⟩, hW₂, e2, q2, q3, q4, q5, q6⟩ := id hfe
    have e3 : s₂ = ({ (U.calling g mk a).setFrames s₂.frames with heap := s₂.heap, slotsUsed := s₂.slotsUsed } : State).setVm s₂.vm := by
      have : s₂ = ({ s₂ with vm := (U.calling g mk a).vm } : State).setVm s₂.vm := rfl
      rw [e2] at this
      exact this
    obtain ⟨c₂, i₂, len₂, hc₂, hd₂, hf₂⟩ := hend
    have hW' : U.WarmedH s₂.vm := hW₂
    have hcc : c₂ = c := by
      have h1 : s₂.code? g.method = U.code? g.method := by
        rw [State.code?_eq, State.code?_eq, hW'.alike.method?]
      exact Option.some.inj (hc₂.symm.trans (h1.trans h.code))
    subst hcc
    have hlen : len₂ = len := by rw [hdg] at hd₂; cases hd₂; rfl
    subst hlen
    have hs₂ : s₂ = (({ U with heap := s₂.heap, slotsUsed := s₂.slotsUsed } : State).setVm s₂.vm).setTop { g with pc := g.pc + len₂, stack := v.toList ++ g.stack } := by
      refine e3.trans ?_
      rw [hf₂, State.calling_eq h.top, State.setFrames_setFrames, State.setTop_of_frames _ hr', hr]
      rfl
    have hsame : U.sameButNew ({ U with heap := s₂.heap, slotsUsed := s₂.slotsUsed } : State) L mc ms := by
      refine ⟨?_, q2, q3, q4, q5, q6⟩
      obtain ⟨t, ht, -⟩ := State.frames_cons hr
      show ({ U with heap := s₂.heap, slotsUsed := s₂.slotsUsed } : State) = { U.setFrames U.frames with heap := s₂.heap, slotsUsed := s₂.slotsUsed }
      rw [State.setFrames_self ht]
    subst hg
    refine Or.inl ⟨v, ⟨(({ U with heap := s₂.heap, slotsUsed := s₂.slotsUsed } : State).setVm s₂.vm), Ls ++ L, c0 + mc, s0 + ms⟩,
      ⟨X.admits, X.cas, X.clock, X.frames, X.room, X.hears, X.method, X.code, (X.here.setHeapUsed s₂.heap s₂.slotsUsed).setVm hW'.alike, X.tail, State.WarmedH.trans X.warmed hW', X.limits, X.bytes, X.same.trans (hsame.setVm s.vm)⟩,
      ⟨g, mk, s₂, L, rfl, rfl, hqc, rfl, hL, rfl, rfl⟩, ?_⟩
    show Steps p.tables e below _ ((({ U with heap := s₂.heap, slotsUsed := s₂.slotsUsed } : State).setVm s₂.vm).setTop { g with pc := g.pc + len₂, stack := v.toList ++ g.stack })
    rw [← hs₂]
    exact hsteps
  · obtain ⟨e2, q2, q3, q4, q5, q6⟩ := id hsm
    have e3 : s₂ = ({ (U.calling g mk a).setFrames s₂.frames with heap := s₂.heap, slotsUsed := s₂.slotsUsed } : State).setVm s₂.vm := by
      have : s₂ = ({ s₂ with vm := (U.calling g mk a).vm } : State).setVm s₂.vm := rfl
      rw [e2] at this
      exact this
    have hf₂ : s₂.frames = .throwing q :: .java g :: U.frames.tail := hend
    have hW' : U.WarmedH s₂.vm := hW₂
    have hs₂ : s₂ = ((({ U with heap := s₂.heap, slotsUsed := s₂.slotsUsed } : State).setVm s₂.vm).setTop g).pushFrame (.throwing q) := by
      refine e3.trans ?_
      rw [hf₂, State.calling_eq h.top, State.setFrames_setFrames, State.pushFrame, State.frames_setTop _ hr', State.setTop_of_frames _ hr', State.setFrames_setFrames, hr]
      rfl
    have hsame : U.sameButNew ({ U with heap := s₂.heap, slotsUsed := s₂.slotsUsed } : State) L mc ms := by
      refine ⟨?_, q2, q3, q4, q5, q6⟩
      obtain ⟨t, ht, -⟩ := State.frames_cons hr
      show ({ U with heap := s₂.heap, slotsUsed := s₂.slotsUsed } : State) = { U.setFrames U.frames with heap := s₂.heap, slotsUsed := s₂.slotsUsed }
      rw [State.setFrames_self ht]
    subst hg
    refine Or.inr ⟨q, ⟨(({ U with heap := s₂.heap, slotsUsed := s₂.slotsUsed } : State).setVm s₂.vm), Ls ++ L, c0 + mc, s0 + ms⟩,
      ⟨X.admits, X.cas, X.clock, X.frames, X.room, X.hears, X.method, X.code, (X.here.setHeapUsed s₂.heap s₂.slotsUsed).setVm hW'.alike, X.tail, State.WarmedH.trans X.warmed hW', X.limits, X.bytes, X.same.trans (hsame.setVm s.vm)⟩,
      ⟨g, mk, s₂, L, E, ce, rfl, rfl, hx, hce, hcv, hcl, rfl, hL, rfl, rfl⟩, ?_⟩
    show Steps p.tables e below _ (((({ U with heap := s₂.heap, slotsUsed := s₂.slotsUsed } : State).setVm s₂.vm).setTop g).pushFrame (.throwing q))
    rw [← hs₂]
    exact hsteps
end Payer
section Calls
variable {p : Program} {l : Launch} {e : Env} {R : Room} {s : State} {m : MethodId} {args : Array Value} {below : List Frame} {meth : Method} {c : Code} {T : State} {locs : List Loc} {cells slots : Nat}
theorem vx_callV (X : Stand p l e R s m args below meth c T locs cells slots) (hexec : p.tables.exec = Jvm.exec) {own C : String} {index : Nat} {y : MethodName} {bytes : ByteArray} {maxL : Nat} {ret : Option FieldType}
    (hown : s.vm.findClass own = some m.cls) (hlink : (Cond.methodLink own index y).before args s = true) (hinst : (Cond.instanceMethod y).before args s = true) (hsel : (Cond.selects C y y).before args s = true)
    (hcode : (Cond.code y bytes maxL ret).before args s = true) (hy : y.cls ≠ "java/lang/invoke/MethodHandle" ∧ y.cls ≠ "java/lang/invoke/VarHandle")
    {W9 : Nat} {Pre : Pt → Array Value → Prop} {Post : Pt → Array Value → Option Value → Pt → Prop} {PostX : Pt → Array Value → Addr → Pt → Prop} (hK : vx_Back l R p e below s args y 3 W9 Pre Post PostX)
    {b : Addr} {cellB : Cell} (hcell : T.heap[b]? = some cellB) (hobj : cellB.vm.isStatics = false) (hcls : s.vm.findClass C = some cellB.cls)
    {g : JFrame} (hg : g.method = m) (hsize : g.locals.size = c.maxLocals) {argsL rest : List Value} (hlen : ∀ sig, parseMethodDescriptor y.desc = some sig → argsL.length = sig.parameters.length)
    (hstack : g.stack = argsL.reverse ++ .ref b :: rest) (hW : 2 * g.monitorRoom + (rest.map fun v => v.category).sum ≤ W9) (hdg : decode c.code g.pc = .ok (.invokevirtual index, 3))
    (hpre : ∀ vm₁, s.WarmedH vm₁ → Pre ⟨T.setVm vm₁, locs, cells, slots⟩ (Value.ref b :: argsL).toArray) :
    (∃ (v : Option Value) (vm₁ : Vm) (B : Pt), s.WarmedH vm₁ ∧ Stand p l e R s m args below meth c B.U B.locs B.cells B.slots ∧ Post ⟨T.setVm vm₁, locs, cells, slots⟩ (Value.ref b :: argsL).toArray v B ∧
      ∀ target, Steps p.tables e below (B.U.setTop { g with pc := g.pc + 3, stack := v.toList ++ rest }) target → Steps p.tables e below (T.setTop g) target) ∨
    (∃ (q : Addr) (vm₁ : Vm) (B : Pt), s.WarmedH vm₁ ∧ Stand p l e R s m args below meth c B.U B.locs B.cells B.slots ∧ PostX ⟨T.setVm vm₁, locs, cells, slots⟩ (Value.ref b :: argsL).toArray q B ∧
      Steps p.tables e below (T.setTop g) ((B.U.setTop { g with stack := rest }).pushFrame (.throwing q))) := by
  obtain ⟨mk, methM, hnamed, hmethM, hstM, habM⟩ := Cond.instanceMethod_spec hinst
  obtain ⟨methM', cM, hmethM', -, -, -, -, -, -, hsigM⟩ := Cond.code_spec hnamed hcode
  cases hmethM.symm.trans hmethM'
  obtain ⟨c2, r2, m2, q1, q2, q3, q4, kP, hkP, hkPi⟩ := Cond.selects_spec hsel
  cases hcls.symm.trans q1
  cases (State.methodFound?_of_named hnamed hy).symm.trans q2
  cases hnamed.symm.trans q3
  have hselP : selectMethod e.platform s.vm cellB.cls mk = .method mk := by rw [Launch.admits_selectMethod X.admits]; exact q4
  obtain ⟨vm₁, X₁, hstep₁⟩ := X.invokevirtual hexec hown hlink hnamed hmethM hstM hkP hkPi hy (a := b) (cell := cellB) hcell
    (fun z h => by rw [h] at hobj; cases hobj) hselP hmethM habM hkP hkPi (g := g) hg (argsL := argsL) (rest := rest) (hlen _ hsigM) hstack hdg
  rcases hK m meth c ⟨T.setVm vm₁, locs, cells, slots⟩ { g with stack := rest } (.invokevirtual index) mk (Value.ref b :: argsL).toArray X₁ hg hsize hdg hW (X₁.named hnamed) (hpre vm₁ X₁.warmed) with ⟨v, B, X', hpost, hsteps⟩ | ⟨q, B, X', hpost, hsteps⟩
  · exact Or.inl ⟨v, vm₁, B, X₁.warmed, X', hpost, fun target h => hstep₁ _ fun acts => by rw [doInvoke_state]; exact hsteps.trans h⟩
  · exact Or.inr ⟨q, vm₁, B, X₁.warmed, X', hpost, hstep₁ _ fun acts => by rw [doInvoke_state]; exact hsteps⟩
theorem vx_callS (X : Stand p l e R s m args below meth c T locs cells slots) (hexec : p.tables.exec = Jvm.exec) {own : String} {index : Nat} {y : MethodName} {bytes : ByteArray} {maxL : Nat} {ret : Option FieldType}
    (hown : s.vm.findClass own = some m.cls) (hlink : (Cond.methodLink own index y).before args s = true) (hstat : (Cond.static y).before args s = true) (hinit : (Cond.initialized y.cls).before args s = true)
    (hcode : (Cond.code y bytes maxL ret).before args s = true) (hy : y.cls ≠ "java/lang/invoke/MethodHandle" ∧ y.cls ≠ "java/lang/invoke/VarHandle")
    {W9 : Nat} {Pre : Pt → Array Value → Prop} {Post : Pt → Array Value → Option Value → Pt → Prop} {PostX : Pt → Array Value → Addr → Pt → Prop} (hK : vx_Back l R p e below s args y 3 W9 Pre Post PostX)
    {g : JFrame} (hg : g.method = m) (hsize : g.locals.size = c.maxLocals) {argsL rest : List Value} (hlen : ∀ sig, parseMethodDescriptor y.desc = some sig → argsL.length = sig.parameters.length)
    (hstack : g.stack = argsL.reverse ++ rest) (hW : 2 * g.monitorRoom + (rest.map fun v => v.category).sum ≤ W9) (hdg : decode c.code g.pc = .ok (.invokestatic index, 3))
    (hpre : ∀ vm₁, s.WarmedH vm₁ → Pre ⟨T.setVm vm₁, locs, cells, slots⟩ argsL.toArray) :
    (∃ (v : Option Value) (vm₁ : Vm) (B : Pt), s.WarmedH vm₁ ∧ Stand p l e R s m args below meth c B.U B.locs B.cells B.slots ∧ Post ⟨T.setVm vm₁, locs, cells, slots⟩ argsL.toArray v B ∧
      ∀ target, Steps p.tables e below (B.U.setTop { g with pc := g.pc + 3, stack := v.toList ++ rest }) target → Steps p.tables e below (T.setTop g) target) ∨
    (∃ (q : Addr) (vm₁ : Vm) (B : Pt), s.WarmedH vm₁ ∧ Stand p l e R s m args below meth c B.U B.locs B.cells B.slots ∧ PostX ⟨T.setVm vm₁, locs, cells, slots⟩ argsL.toArray q B ∧
      Steps p.tables e below (T.setTop g) ((B.U.setTop { g with stack := rest }).pushFrame (.throwing q))) := by
  obtain ⟨mk, hnamed⟩ := Cond.code_named hcode
  obtain ⟨methM, cM, hmethM, -, -, -, -, -, -, hsigM⟩ := Cond.code_spec hnamed hcode
  have hstatic : methM.isStatic = true := Cond.static_spec hnamed hmethM hstat
  obtain ⟨kP, hkP, -⟩ := className_of_methodNamed hnamed
  have hinitP : kP.init = .initialized := Cond.initialized_spec (findClass_of_methodNamed hnamed) hkP hinit
  obtain ⟨vm₁, X₁, hstep₁⟩ := X.invokestatic hexec hown hlink hnamed hmethM hstatic hkP hinitP hy (g := g) hg (argsL := argsL) (rest := rest) (hlen _ hsigM) hstack hdg
  rcases hK m meth c ⟨T.setVm vm₁, locs, cells, slots⟩ { g with stack := rest } (.invokestatic index) mk argsL.toArray X₁ hg hsize hdg hW (X₁.named hnamed) (hpre vm₁ X₁.warmed) with ⟨v, B, X', hpost, hsteps⟩ | ⟨q, B, X', hpost, hsteps⟩
  · exact Or.inl ⟨v, vm₁, B, X₁.warmed, X', hpost, fun target h => hstep₁ _ fun acts => by rw [doInvoke_state]; exact hsteps.trans h⟩
  · exact Or.inr ⟨q, vm₁, B, X₁.warmed, X', hpost, hstep₁ _ fun acts => by rw [doInvoke_state]; exact hsteps⟩
end Calls
theorem vx_cls {s : State} {T : State} {vm₁ : Vm} {E : String} {k : ClassId} (hW : s.WarmedH vm₁) (h : (T.setVm vm₁).vm.findClass E = some k) : s.vm.findClass E = some k := by
  have h1 : vm₁.findClass E = some k := h
  rw [hW.alike.findClass] at h1
  exact h1
/-- the method's frame g, with q thrown over it -/
def vx_W (p : Program) (l : Launch) (e : Env) (R : Room) (s : State) (m : MethodId) (args : Array Value) (below : List Frame) (meth : Method) (c : Code) (H : Heap) (locs : List Loc) (cells slots : Nat) (Q : State → Prop) (g : JFrame) (q : Addr) : Prop :=
  ∀ T : State, T.heap = H → Stand p l e R s m args below meth c T locs cells slots → ∃ t, Steps p.tables e below ((T.setTop g).pushFrame (.throwing q)) t ∧ Q t
def vx_Run (p : Program) (l : Launch) (e : Env) (R : Room) (s : State) (m : MethodId) (args : Array Value) (below : List Frame) (meth : Method) (c : Code) (H : Heap) (locs : List Loc) (cells slots mc ms : Nat) (g : JFrame) (rest : List Value) (Qa : State → Outcome → State → Prop) (XC : String → State → State → Prop) (free : Addr → Prop) : Prop :=
  ∀ T : State, T.heap = H → Stand p l e R s m args below meth c T locs cells slots →
    (∃ (v : Option Value) (st₀ t T' : State) (L : List Loc), st₀.heap = H ∧ Stand p l e R s m args below meth c T' (locs ++ L) (cells + mc) (slots + ms) ∧ (∀ q ∈ L, free q.base) ∧ T'.heap = t.heap ∧ T'.vm = t.vm ∧ Qa st₀ (.returned v) t ∧
      Goes p e below T g T' { g with pc := g.pc + 3, stack := v.toList ++ rest }) ∨
    (∃ (q : Addr) (st₀ t T' : State) (L : List Loc) (E : String) (ce : Cell), st₀.heap = H ∧ Stand p l e R s m args below meth c T' (locs ++ L) (cells + mc) (slots + ms) ∧ (∀ z ∈ L, free z.base) ∧ T'.heap = t.heap ∧ T'.vm = t.vm ∧ XC E st₀ t ∧ t.heap[q]? = some ce ∧ ce.vm = .none ∧ s.vm.findClass E = some ce.cls ∧
      Steps p.tables e below (T.setTop g) ((T'.setTop { g with stack := rest }).pushFrame (.throwing q)))
def vx_X {S : Type} (px : S → Prop) (B : String → S → State → Prop) (A : Nat → Prop) : String → State → State → Prop := fun E st t => ∃ u : S, px u ∧ B E u t ∧ va_F A st t
section Runs
variable {p : Program} {l : Launch} {e : Env} {R : Room} {s : State} {m : MethodId} {args : Array Value} {below : List Frame} {meth : Method} {c : Code} {H : Heap} {locs : List Loc} {cells slots : Nat}
variable {y : MethodName} {bytes cc : ByteArray} {maxL nL mc ms n index : Nat} {ret : Option FieldType} {ws : List Cond} {rm : Room} {Pc : Array Value → State → Prop} {Qc : Array Value → State → Outcome → State → Prop} {XC : String → State → State → Prop} {free : Addr → Prop} {Ts : List Cond} {own C : String} {b : Addr} {As rest : List Value} {g : JFrame}
theorem vx_callBack (cb : CallB R s args own index y bytes maxL ret ws rm mc ms n) (hM : vx_Met l y ws rm Pc Qc XC mc ms free) (hbl : FrameBlind Pc) : vx_Back l R p e below s args y 3 8 (PreOf R mc ms Pc) (PostOf Qc mc ms free) (vx_Post XC mc ms free) := by
  obtain ⟨hrc, hrs, hfr, hlo, hws, hcw, -, hini, -⟩ := cb
  exact vx_back (bytes := bytes) (maxL := maxL) (ret := ret) hM hbl hrc hrs hfr hlo hws hcw (fun a' U hW => word_at hW (Or.inl (by first | rfl | simp [Cond.onTables, Cond.keeps, Cond.steady])) hini)
theorem vx_runV (S : CallFix p m c cc nL s args Ts own) (hM : vx_Met l y ws rm Pc Qc XC mc ms free) (cw : CallW R s args own C index y bytes maxL ret ws rm mc ms n) (hp : PreV s H C b Pc As)
    (hg : g.method = m) (hn : As.length = n) (hsize : g.locals.size = nL) (hstack : g.stack = As.reverse ++ .ref b :: rest) (hW : 2 * g.monitorRoom + (rest.map fun v => v.category).sum ≤ 8) (hdg : decode cc g.pc = .ok (.invokevirtual index, 3)) (hf : cells + mc ≤ R.cells ∧ slots + ms ≤ R.slots) :
    vx_Run p l e R s m args below meth c H locs cells slots mc ms g rest (Qc (Value.ref b :: As).toArray) XC free := by
  have hK : vx_Back l R p e below s args y 3 8 (PreOf R mc ms Pc) (PostOf Qc mc ms free) (vx_Post XC mc ms free) := vx_callBack cw.1 hM hp.1
  obtain ⟨⟨-, -, -, -, -, -, hcode, -, hy, hlen, hl⟩, hin, hse⟩ := cw
  obtain ⟨hx, hb, hml, ho, -⟩ := S
  obtain ⟨-, ⟨cellB, hcB, hoB, hclB⟩, hPc⟩ := hp
  intro T hT X
  rcases vx_callV X hx (C := C) (bytes := bytes) (maxL := maxL) (ret := ret) ho hl hin hse hcode hy hK (by rw [hT]; exact hcB) hoB hclB hg (hsize.trans hml.symm) (argsL := As) (rest := rest) (fun sig h => hn.trans (hlen sig h)) hstack hW (by rw [hb]; exact hdg)
    (fun vm₁ hW₁ => ⟨hf.1, hf.2, hPc (T.setVm vm₁) hT hW₁⟩) with ⟨v, vm₁, ⟨U', l2, c2, s2⟩, hW₁, X', ⟨g', mk, t, L, e1, e2, hq, h1, hL, h2, h3⟩, st⟩ | ⟨q, vm₁, ⟨U', l2, c2, s2⟩, hW₁, X', ⟨g', mk, t, L, E, ce, e1, e2, hq, hce, hcv, hcl, h1, hL, h2, h3⟩, st⟩
  · dsimp only [Pt.U, Pt.locs, Pt.cells, Pt.slots] at X' e1 e2 h1 h2 h3 st
    subst h1; subst h2; subst h3
    exact Or.inl ⟨v, (T.setVm vm₁).calling g' mk (Value.ref b :: As).toArray, t, U', L, hT, X', hL, e1, e2, hq, st⟩
  · dsimp only [Pt.U, Pt.locs, Pt.cells, Pt.slots] at X' e1 e2 h1 h2 h3 st hcl
    subst h1; subst h2; subst h3
    exact Or.inr ⟨q, (T.setVm vm₁).calling g' mk (Value.ref b :: As).toArray, t, U', L, E, ce, hT, X', hL, e1, e2, hq, hce, hcv, vx_cls hW₁ hcl, st⟩
theorem vx_runS (S : CallFix p m c cc nL s args Ts own) (hM : vx_Met l y ws rm Pc Qc XC mc ms free) (cw : CallB R s args own index y bytes maxL ret ws rm mc ms n ∧ (Cond.static y).before args s = true) (hp : PreS s H Pc As)
    (hg : g.method = m) (hn : As.length = n) (hsize : g.locals.size = nL) (hstack : g.stack = As.reverse ++ rest) (hW : 2 * g.monitorRoom + (rest.map fun v => v.category).sum ≤ 8) (hdg : decode cc g.pc = .ok (.invokestatic index, 3)) (hf : cells + mc ≤ R.cells ∧ slots + ms ≤ R.slots) :
    vx_Run p l e R s m args below meth c H locs cells slots mc ms g rest (Qc As.toArray) XC free := by
  have hK : vx_Back l R p e below s args y 3 8 (PreOf R mc ms Pc) (PostOf Qc mc ms free) (vx_Post XC mc ms free) := vx_callBack cw.1 hM hp.1
  obtain ⟨⟨-, -, -, -, -, -, hcode, hini, hy, hlen, hl⟩, hstt⟩ := cw
  obtain ⟨hx, hb, hml, ho, -⟩ := S
  intro T hT X
  rcases vx_callS X hx (bytes := bytes) (maxL := maxL) (ret := ret) ho hl hstt hini hcode hy hK hg (hsize.trans hml.symm) (argsL := As) (rest := rest) (fun sig h => hn.trans (hlen sig h)) hstack hW (by rw [hb]; exact hdg)
    (fun vm₁ hW₁ => ⟨hf.1, hf.2, hp.2 (T.setVm vm₁) hT hW₁⟩) with ⟨v, vm₁, ⟨U', l2, c2, s2⟩, hW₁, X', ⟨g', mk, t, L, e1, e2, hq, h1, hL, h2, h3⟩, st⟩ | ⟨q, vm₁, ⟨U', l2, c2, s2⟩, hW₁, X', ⟨g', mk, t, L, E, ce, e1, e2, hq, hce, hcv, hcl, h1, hL, h2, h3⟩, st⟩
  · dsimp only [Pt.U, Pt.locs, Pt.cells, Pt.slots] at X' e1 e2 h1 h2 h3 st
    subst h1; subst h2; subst h3
    exact Or.inl ⟨v, (T.setVm vm₁).calling g' mk As.toArray, t, U', L, hT, X', hL, e1, e2, hq, st⟩
  · dsimp only [Pt.U, Pt.locs, Pt.cells, Pt.slots] at X' e1 e2 h1 h2 h3 st hcl
    subst h1; subst h2; subst h3
    exact Or.inr ⟨q, (T.setVm vm₁).calling g' mk As.toArray, t, U', L, E, ce, hT, X', hL, e1, e2, hq, hce, hcv, vx_cls hW₁ hcl, st⟩
end Runs
section Rows
variable {p : Program} {l : Launch} {e : Env} {R : Room} {s : State} {m : MethodId} {args : Array Value} {below : List Frame} {meth : Method} {c : Code} {H : Heap} {locs : List Loc} {cells slots : Nat} {Q : State → Prop}
variable {mc ms : Nat} {free : Addr → Prop} {A0 A1 : Nat → Prop} {H0 : Heap} {a : Array Value} {pc : Nat} {ls : Array Slot} {st0 rest : List Value}
theorem vx_keep {st₀ t T' : State} {L : List Loc} (h0 : st₀.heap = H) (e1 : T'.heap = t.heap) (hS : va_S A0 H0 H locs) (hA : ∀ q, q < H.size → A1 q → A0 q) (hf : ∀ q, free q → A0 q) (hL : ∀ q ∈ L, free q.base) (hF : va_F A1 st₀ t) :
    H.size ≤ T'.heap.size ∧ (∀ q : Nat, q < H.size → ¬ A1 q → T'.heap[q]? = H[q]?) ∧ va_S A0 H0 T'.heap (locs ++ L) := by
  obtain ⟨hz, hk⟩ := hF
  rw [h0] at hz hk
  exact ⟨by rw [e1]; exact hz, fun q h1 h2 => by rw [e1]; exact hk q h1 h2,
    ⟨Nat.le_trans hS.1 (by rw [e1]; exact hz), fun q h1 h2 => by rw [e1, hk q (Nat.lt_of_lt_of_le h1 hS.1) (fun z => h2 (hA q (Nat.lt_of_lt_of_le h1 hS.1) z))]; exact hS.2.1 q h1 h2, fun q hq => by
      rcases List.mem_append.mp hq with h | h
      · exact hS.2.2 q h
      · exact hf _ (hL q h)⟩⟩
theorem vx_calli {S SX : Type} {post : Int32 → S → Prop} {px : SX → Prop} {B : S → State → Prop} {BX : String → SX → State → Prop} {AX : Nat → Prop} (hr : vx_Run p l e R s m args below meth c H locs cells slots mc ms (F0 m pc ls st0) rest (va_Qi post B A1 a) (vx_X px BX AX) free) (hS : va_S A0 H0 H locs) (hA : ∀ q, q < H.size → A1 q → A0 q) (hf : ∀ q, free q → A0 q) (hAX : ∀ q, q < H.size → AX q → A0 q)
    (kx : ∀ (E : String) (ce : Cell) (q9 : Addr) (u : SX) (t : State) (H1 : Heap) (locs1 : List Loc), t.heap = H1 → s.vm.Alike t.vm → px u → BX E u t → H.size ≤ H1.size → (∀ q : Nat, q < H.size → ¬ AX q → H1[q]? = H[q]?) → va_S A0 H0 H1 locs1 → H1[q9]? = some ce → ce.vm = .none → s.vm.findClass E = some ce.cls → vx_W p l e R s m args below meth c H1 locs1 (cells + mc) (slots + ms) Q (F0 m pc ls rest) q9)
    (kk : ∀ (r : Int32) (u : S) (t : State) (H1 : Heap) (locs1 : List Loc), t.heap = H1 → s.vm.Alike t.vm → post r u → B u t → H.size ≤ H1.size → (∀ q : Nat, q < H.size → ¬ A1 q → H1[q]? = H[q]?) → va_S A0 H0 H1 locs1 → W p l e R s m args below meth c H1 locs1 (cells + mc) (slots + ms) Q (F0 m (pc + 3) ls (.int r :: rest))) : W p l e R s m args below meth c H locs cells slots Q (F0 m pc ls st0) := by
  intro T hT X
  rcases hr T hT X with ⟨v, st₀, t, T', L, h0, X', hL, e1, e2, ⟨⟨r, u, hv, hp, hb⟩, hF⟩, st⟩ | ⟨q, st₀, t, T', L, E, ce, h0, X', hL, e1, e2, ⟨u, hp, hb, hF⟩, hce, hcv, hcl, st⟩
  · cases hv
    obtain ⟨k1, k2, k3⟩ := vx_keep h0 e1 hS hA hf hL hF
    obtain ⟨t2, a1, b1⟩ := kk r u t T'.heap (locs ++ L) e1.symm (by rw [← e2]; exact X'.warmed.alike) hp hb k1 k2 k3 T' rfl X'
    exact ⟨t2, st t2 a1, b1⟩
  · obtain ⟨k1, k2, k3⟩ := vx_keep h0 e1 hS hAX hf hL hF
    obtain ⟨t2, a1, b1⟩ := kx E ce q u t T'.heap (locs ++ L) e1.symm (by rw [← e2]; exact X'.warmed.alike) hp hb k1 k2 k3 (by rw [e1]; exact hce) hcv hcl T' rfl X'
    exact ⟨t2, st.trans a1, b1⟩
theorem vx_calll {S SX : Type} {post : Int64 → S → Prop} {px : SX → Prop} {B : S → State → Prop} {BX : String → SX → State → Prop} {AX : Nat → Prop} (hr : vx_Run p l e R s m args below meth c H locs cells slots mc ms (F0 m pc ls st0) rest (va_Ql post B A1 a) (vx_X px BX AX) free) (hS : va_S A0 H0 H locs) (hA : ∀ q, q < H.size → A1 q → A0 q) (hf : ∀ q, free q → A0 q) (hAX : ∀ q, q < H.size → AX q → A0 q)
    (kx : ∀ (E : String) (ce : Cell) (q9 : Addr) (u : SX) (t : State) (H1 : Heap) (locs1 : List Loc), t.heap = H1 → s.vm.Alike t.vm → px u → BX E u t → H.size ≤ H1.size → (∀ q : Nat, q < H.size → ¬ AX q → H1[q]? = H[q]?) → va_S A0 H0 H1 locs1 → H1[q9]? = some ce → ce.vm = .none → s.vm.findClass E = some ce.cls → vx_W p l e R s m args below meth c H1 locs1 (cells + mc) (slots + ms) Q (F0 m pc ls rest) q9)
    (kk : ∀ (r : Int64) (u : S) (t : State) (H1 : Heap) (locs1 : List Loc), t.heap = H1 → s.vm.Alike t.vm → post r u → B u t → H.size ≤ H1.size → (∀ q : Nat, q < H.size → ¬ A1 q → H1[q]? = H[q]?) → va_S A0 H0 H1 locs1 → W p l e R s m args below meth c H1 locs1 (cells + mc) (slots + ms) Q (F0 m (pc + 3) ls (.long r :: rest))) : W p l e R s m args below meth c H locs cells slots Q (F0 m pc ls st0) := by
  intro T hT X
  rcases hr T hT X with ⟨v, st₀, t, T', L, h0, X', hL, e1, e2, ⟨⟨r, u, hv, hp, hb⟩, hF⟩, st⟩ | ⟨q, st₀, t, T', L, E, ce, h0, X', hL, e1, e2, ⟨u, hp, hb, hF⟩, hce, hcv, hcl, st⟩
  · cases hv
    obtain ⟨k1, k2, k3⟩ := vx_keep h0 e1 hS hA hf hL hF
    obtain ⟨t2, a1, b1⟩ := kk r u t T'.heap (locs ++ L) e1.symm (by rw [← e2]; exact X'.warmed.alike) hp hb k1 k2 k3 T' rfl X'
    exact ⟨t2, st t2 a1, b1⟩
  · obtain ⟨k1, k2, k3⟩ := vx_keep h0 e1 hS hAX hf hL hF
    obtain ⟨t2, a1, b1⟩ := kx E ce q u t T'.heap (locs ++ L) e1.symm (by rw [← e2]; exact X'.warmed.alike) hp hb k1 k2 k3 (by rw [e1]; exact hce) hcv hcl T' rfl X'
    exact ⟨t2, st.trans a1, b1⟩
theorem vx_callf {S SX : Type} {post : UInt32 → S → Prop} {px : SX → Prop} {B : S → State → Prop} {BX : String → SX → State → Prop} {AX : Nat → Prop} (hr : vx_Run p l e R s m args below meth c H locs cells slots mc ms (F0 m pc ls st0) rest (va_Qf post B A1 a) (vx_X px BX AX) free) (hS : va_S A0 H0 H locs) (hA : ∀ q, q < H.size → A1 q → A0 q) (hf : ∀ q, free q → A0 q) (hAX : ∀ q, q < H.size → AX q → A0 q)
    (kx : ∀ (E : String) (ce : Cell) (q9 : Addr) (u : SX) (t : State) (H1 : Heap) (locs1 : List Loc), t.heap = H1 → s.vm.Alike t.vm → px u → BX E u t → H.size ≤ H1.size → (∀ q : Nat, q < H.size → ¬ AX q → H1[q]? = H[q]?) → va_S A0 H0 H1 locs1 → H1[q9]? = some ce → ce.vm = .none → s.vm.findClass E = some ce.cls → vx_W p l e R s m args below meth c H1 locs1 (cells + mc) (slots + ms) Q (F0 m pc ls rest) q9)
    (kk : ∀ (r : UInt32) (u : S) (t : State) (H1 : Heap) (locs1 : List Loc), t.heap = H1 → s.vm.Alike t.vm → post r u → B u t → H.size ≤ H1.size → (∀ q : Nat, q < H.size → ¬ A1 q → H1[q]? = H[q]?) → va_S A0 H0 H1 locs1 → W p l e R s m args below meth c H1 locs1 (cells + mc) (slots + ms) Q (F0 m (pc + 3) ls (.float r :: rest))) : W p l e R s m args below meth c H locs cells slots Q (F0 m pc ls st0) := by
  intro T hT X
  rcases hr T hT X with ⟨v, st₀, t, T', L, h0, X', hL, e1, e2, ⟨⟨r, u, hv, hp, hb⟩, hF⟩, st⟩ | ⟨q, st₀, t, T', L, E, ce, h0, X', hL, e1, e2, ⟨u, hp, hb, hF⟩, hce, hcv, hcl, st⟩
  · cases hv
    obtain ⟨k1, k2, k3⟩ := vx_keep h0 e1 hS hA hf hL hF
    obtain ⟨t2, a1, b1⟩ := kk r u t T'.heap (locs ++ L) e1.symm (by rw [← e2]; exact X'.warmed.alike) hp hb k1 k2 k3 T' rfl X'
    exact ⟨t2, st t2 a1, b1⟩
  · obtain ⟨k1, k2, k3⟩ := vx_keep h0 e1 hS hAX hf hL hF
    obtain ⟨t2, a1, b1⟩ := kx E ce q u t T'.heap (locs ++ L) e1.symm (by rw [← e2]; exact X'.warmed.alike) hp hb k1 k2 k3 (by rw [e1]; exact hce) hcv hcl T' rfl X'
    exact ⟨t2, st.trans a1, b1⟩
theorem vx_calld {S SX : Type} {post : UInt64 → S → Prop} {px : SX → Prop} {B : S → State → Prop} {BX : String → SX → State → Prop} {AX : Nat → Prop} (hr : vx_Run p l e R s m args below meth c H locs cells slots mc ms (F0 m pc ls st0) rest (va_Qd post B A1 a) (vx_X px BX AX) free) (hS : va_S A0 H0 H locs) (hA : ∀ q, q < H.size → A1 q → A0 q) (hf : ∀ q, free q → A0 q) (hAX : ∀ q, q < H.size → AX q → A0 q)
    (kx : ∀ (E : String) (ce : Cell) (q9 : Addr) (u : SX) (t : State) (H1 : Heap) (locs1 : List Loc), t.heap = H1 → s.vm.Alike t.vm → px u → BX E u t → H.size ≤ H1.size → (∀ q : Nat, q < H.size → ¬ AX q → H1[q]? = H[q]?) → va_S A0 H0 H1 locs1 → H1[q9]? = some ce → ce.vm = .none → s.vm.findClass E = some ce.cls → vx_W p l e R s m args below meth c H1 locs1 (cells + mc) (slots + ms) Q (F0 m pc ls rest) q9)
    (kk : ∀ (r : UInt64) (u : S) (t : State) (H1 : Heap) (locs1 : List Loc), t.heap = H1 → s.vm.Alike t.vm → post r u → B u t → H.size ≤ H1.size → (∀ q : Nat, q < H.size → ¬ A1 q → H1[q]? = H[q]?) → va_S A0 H0 H1 locs1 → W p l e R s m args below meth c H1 locs1 (cells + mc) (slots + ms) Q (F0 m (pc + 3) ls (.double r :: rest))) : W p l e R s m args below meth c H locs cells slots Q (F0 m pc ls st0) := by
  intro T hT X
  rcases hr T hT X with ⟨v, st₀, t, T', L, h0, X', hL, e1, e2, ⟨⟨r, u, hv, hp, hb⟩, hF⟩, st⟩ | ⟨q, st₀, t, T', L, E, ce, h0, X', hL, e1, e2, ⟨u, hp, hb, hF⟩, hce, hcv, hcl, st⟩
  · cases hv
    obtain ⟨k1, k2, k3⟩ := vx_keep h0 e1 hS hA hf hL hF
    obtain ⟨t2, a1, b1⟩ := kk r u t T'.heap (locs ++ L) e1.symm (by rw [← e2]; exact X'.warmed.alike) hp hb k1 k2 k3 T' rfl X'
    exact ⟨t2, st t2 a1, b1⟩
  · obtain ⟨k1, k2, k3⟩ := vx_keep h0 e1 hS hAX hf hL hF
    obtain ⟨t2, a1, b1⟩ := kx E ce q u t T'.heap (locs ++ L) e1.symm (by rw [← e2]; exact X'.warmed.alike) hp hb k1 k2 k3 (by rw [e1]; exact hce) hcv hcl T' rfl X'
    exact ⟨t2, st.trans a1, b1⟩
theorem vx_callv {S SX : Type} {post : S → Prop} {px : SX → Prop} {B : S → State → Prop} {BX : String → SX → State → Prop} {AX : Nat → Prop} (hr : vx_Run p l e R s m args below meth c H locs cells slots mc ms (F0 m pc ls st0) rest (va_Qv post B A1 a) (vx_X px BX AX) free) (hS : va_S A0 H0 H locs) (hA : ∀ q, q < H.size → A1 q → A0 q) (hf : ∀ q, free q → A0 q) (hAX : ∀ q, q < H.size → AX q → A0 q)
    (kx : ∀ (E : String) (ce : Cell) (q9 : Addr) (u : SX) (t : State) (H1 : Heap) (locs1 : List Loc), t.heap = H1 → s.vm.Alike t.vm → px u → BX E u t → H.size ≤ H1.size → (∀ q : Nat, q < H.size → ¬ AX q → H1[q]? = H[q]?) → va_S A0 H0 H1 locs1 → H1[q9]? = some ce → ce.vm = .none → s.vm.findClass E = some ce.cls → vx_W p l e R s m args below meth c H1 locs1 (cells + mc) (slots + ms) Q (F0 m pc ls rest) q9)
    (kk : ∀ (u : S) (t : State) (H1 : Heap) (locs1 : List Loc), t.heap = H1 → s.vm.Alike t.vm → post u → B u t → H.size ≤ H1.size → (∀ q : Nat, q < H.size → ¬ A1 q → H1[q]? = H[q]?) → va_S A0 H0 H1 locs1 → W p l e R s m args below meth c H1 locs1 (cells + mc) (slots + ms) Q (F0 m (pc + 3) ls (rest))) : W p l e R s m args below meth c H locs cells slots Q (F0 m pc ls st0) := by
  intro T hT X
  rcases hr T hT X with ⟨v, st₀, t, T', L, h0, X', hL, e1, e2, ⟨⟨u, hv, hp, hb⟩, hF⟩, st⟩ | ⟨q, st₀, t, T', L, E, ce, h0, X', hL, e1, e2, ⟨u, hp, hb, hF⟩, hce, hcv, hcl, st⟩
  · cases hv
    obtain ⟨k1, k2, k3⟩ := vx_keep h0 e1 hS hA hf hL hF
    obtain ⟨t2, a1, b1⟩ := kk u t T'.heap (locs ++ L) e1.symm (by rw [← e2]; exact X'.warmed.alike) hp hb k1 k2 k3 T' rfl X'
    exact ⟨t2, st t2 a1, b1⟩
  · obtain ⟨k1, k2, k3⟩ := vx_keep h0 e1 hS hAX hf hL hF
    obtain ⟨t2, a1, b1⟩ := kx E ce q u t T'.heap (locs ++ L) e1.symm (by rw [← e2]; exact X'.warmed.alike) hp hb k1 k2 k3 (by rw [e1]; exact hce) hcv hcl T' rfl X'
    exact ⟨t2, st.trans a1, b1⟩
/-- caught by the row x of this method's table; the rows ahead don't take it -/
theorem vx_catch {own name : String} {E : String} {ce : Cell} {q : Addr} (hown : s.vm.findClass own = some m.cls) (pre : List ExceptionTableEntry) (x : ExceptionTableEntry) (suf : List ExceptionTableEntry) (hsplit : c.exceptionTable.toList = pre ++ x :: suf)
    (hpass : ∀ z ∈ pre, covers z pc = false ∨ (z.catchType ≠ 0 ∧ ∃ nm : String, (Cond.classLink own z.catchType nm).before args s = true ∧ va_Nc E nm s)) (hx : covers x pc = true) (h0 : x.catchType ≠ 0)
    (hlink : (Cond.classLink own x.catchType name).before args s = true) (hcast : (Cond.castable E name).before args s = true) (hcell : H[q]? = some ce) (hv : ce.vm = .none) (hcl : s.vm.findClass E = some ce.cls)
    (kk : W p l e R s m args below meth c H locs cells slots Q (F0 m x.handlerPc ls [.ref q])) : vx_W p l e R s m args below meth c H locs cells slots Q (F0 m pc ls rest) q := by
  intro T hT X
  have hpl : e.platform.magicAccessors = ({} : Platform).magicAccessors := by rw [X.admits.platform]
  obtain ⟨c3, c4, hc3, hc4, hasg⟩ := Cond.castable_spec hcast
  cases Option.some.inj (hc3.symm.trans hcl)
  obtain ⟨c5, hc5, hcl5⟩ := Cond.classLink_spec hown hlink e.platform hpl
  cases Option.some.inj (hc4.symm.trans hc5)
  obtain ⟨vm', X', st⟩ := X.thenCaughtThrough q (g := F0 m pc ls rest) rfl (Steps.refl _) (by rw [hT]; exact hcell) (by rw [hv]; rfl) (by obtain ⟨k9, h9, -⟩ := Vm.findClass_spec hcl; exact ⟨k9, h9⟩) pre x suf hsplit
    (fun z hz => by
      rcases hpass z hz with h | ⟨hz0, nm, hl1, hn1⟩
      · exact Or.inl h
      · obtain ⟨c6, hc6, hcl6⟩ := Cond.classLink_spec hown hl1 e.platform hpl
        obtain ⟨a8, b8, h1, h2, h3⟩ := hn1
        cases Option.some.inj (h1.symm.trans hcl)
        cases Option.some.inj (h2.symm.trans hc6)
        exact Or.inr ⟨hz0, _, hcl6, h3⟩) hx (Or.inr ⟨h0, c4, hcl5, hasg⟩)
  obtain ⟨t, a1, b1⟩ := kk (T.setVm vm') hT X'
  exact ⟨t, st.trans a1, b1⟩
end Rows
section Ends
variable {p : Program} {l : Launch} {e : Env} {R : Room} {s : State} {m : MethodId} {args : Array Value} {below : List Frame} {meth : Method} {c : Code} {H : Heap} {locs : List Loc} {cells slots : Nat} {Q : State → Prop}
variable {mc ms : Nat} {free : Addr → Prop} {A0 A1 : Nat → Prop} {H0 : Heap} {a : Array Value} {ls : Array Slot} {st0 rest : List Value}
variable {Qc : Array Value → State → Outcome → State → Prop} {XC : String → State → State → Prop}
/-- what a body that may throw owes at its end -/
def vx_MQ (below : List Frame) (Qc : Array Value → State → Outcome → State → Prop) (XC : String → State → State → Prop) (a : Array Value) (s : State) (mc ms : Nat) (free : Addr → Prop) : State → Prop := fun t =>
  ∃ o, t.status = .running ∧ Ended t below o ∧ vx_Q Qc XC mc ms free a s o t
theorem vx_ret {g : JFrame} {mc ms : Nat} (k : W p l e R s m args below meth c H locs cells slots (MQ below Qc args s mc ms free) g) : W p l e R s m args below meth c H locs cells slots (vx_MQ below Qc XC args s mc ms free) g := by
  intro T hT X
  obtain ⟨t, a1, o, b1, b2, b3, b4⟩ := k T hT X
  exact ⟨t, a1, o, b1, b2, Or.inl ⟨b3, b4⟩⟩
/-- not caught here: it goes on to the caller -/
theorem vx_widen {g : JFrame} {q : Addr} {k n : Nat} (h1 : cells ≤ k) (h2 : slots ≤ n) (kk : vx_W p l e R s m args below meth c H locs k n Q g q) : vx_W p l e R s m args below meth c H locs cells slots Q g q := fun T hT X => kk T hT (stand_widen X h1 h2)
theorem vx_out {pc : Nat} {E : String} {ce : Cell} {q : Addr} {mc ms : Nat} (hout : ∀ x ∈ c.exceptionTable.toList, covers x pc = false) (hlocks : meth.locks = false) (hcell : H[q]? = some ce) (hv : ce.vm = .none) (hcl : s.vm.findClass E = some ce.cls)
    (hx : ∀ t : State, t.heap = H → s.vm.Alike t.vm → XC E s t) (hf : ∀ z ∈ locs, free z.base) (hc : cells ≤ mc) (hs : slots ≤ ms) :
    vx_W p l e R s m args below meth c H locs cells slots (vx_MQ below Qc XC args s mc ms free) (F0 m pc ls rest) q := by
  intro T hT X
  obtain ⟨st1, hrun, hend, hW, hsm⟩ := X.leaveThrown q (g := F0 m pc ls rest) rfl rfl rfl hout hlocks
  have hcell9 : (T.setFrames (.throwing q :: below)).heap[q]? = some ce := by
    show T.heap[q]? = some ce
    rw [hT]; exact hcell
  exact ⟨_, st1, .threw q, hrun, hend, Or.inr ⟨q, rfl, E, ce, locs, hx _ hT hW.alike, hcell9, hv, hcl, hW, hsm.mono hc hs, hf⟩⟩
theorem vx_frame {U : State} {k n : Nat} (h : s.sameButNew ({ U with vm := s.vm } : State) locs k n) : s.heap.size ≤ U.heap.size ∧ ∀ q : Nat, q < s.heap.size → (∀ z ∈ locs, z.base ≠ q) → U.heap[q]? = s.heap[q]? := by
  obtain ⟨-, h2, -, -, -, h6⟩ := h
  refine ⟨h2, fun q hq hz => ?_⟩
  obtain ⟨c9, e1, e2, e3, e4⟩ := h6 q _ (Array.getElem?_eq_getElem hq)
  have hs : c9.slots = (s.heap[q]).slots := Array.ext_getElem? fun i => e4 i fun hm => hz _ hm rfl
  have h9 : c9 = s.heap[q] := by
    rw [hs] at e2
    exact e2
  have e5 : U.heap[q]? = some c9 := e1
  rw [e5, h9, Array.getElem?_eq_getElem hq]
/-- the words of a throw but the four that speak of the heap -/
def vx_no (w : Cond) : Bool := decide (w ≠ .isRef (.static Bundle.tN "UNASSIGNED_STACK" Bundle.steD)) && decide (w ≠ .isRef (.static Bundle.tN "SUPPRESSED_SENTINEL" Bundle.listD)) && decide (w ≠ .laysStatic Bundle.tN "UNASSIGNED_STACK" Bundle.steD) && decide (w ≠ .laysStatic Bundle.tN "SUPPRESSED_SENTINEL" Bundle.listD)
def vx_at0 (own : String) (ic : Nat) (X : String) (names : List String) : List Cond := (Bundle.ownAtoms0 own ic X names).filter vx_no
def vx_atS (own : String) (ic : Nat) (X : String) (names : List String) : List Cond := (Bundle.ownAtoms own ic X names).filter vx_no
/-- a word that the tables alone decide, or a good one -/
def vx_ot (w : Cond) : Bool := w.onTables || goodWord w
theorem vx_ot_at {args a' : Array Value} {s U : State} {w : Cond} (hW : s.WarmedH U.vm) (hvm : s.vm = U.vm) (hg : vx_ot w = true) (h : w.before args s = true) : w.before a' U = true := by
  simp only [vx_ot, Bool.or_eq_true] at hg
  rcases hg with hg | hg
  · exact va_tabs hg hvm h
  · exact word_at hW (good_of_word hg) h
/-- a list's words: the good ones out of the method's own list, the others by premises of their own -/
theorem vx_hat {args : Array Value} {s : State} {L B : List Cond} (h1 : ∀ w ∈ L.filter goodWord, w.before args s = true) (h2 : ∀ w ∈ L.filter (fun w => !goodWord w), w ∈ B) (h3 : ∀ w ∈ B, w.before args s = true) : ∀ w ∈ L, w.before args s = true := by
  intro w hw
  by_cases g : goodWord w = true
  · exact h1 w (List.mem_filter.mpr ⟨hw, g⟩)
  · refine h3 w (h2 w (List.mem_filter.mpr ⟨hw, ?_⟩))
    show (!goodWord w) = true
    cases hgw : goodWord w
    · rfl
    · exact absurd hgw g
theorem vx_c {args : Array Value} {s : State} {w : Cond} {B : List Cond} (h : w.before args s = true) (t : ∀ w ∈ B, w.before args s = true) : ∀ w' ∈ w :: B, w'.before args s = true := fun w' h' => (List.mem_cons.mp h').elim (fun e => by rw [e]; exact h) (t w')
theorem vx_n {args : Array Value} {s : State} : ∀ w ∈ ([] : List Cond), w.before args s = true := fun _ h => nomatch h
theorem vx_own {args : Array Value} {s : State} {L : List Cond} (h1 : ∀ w ∈ L.filter vx_no, w.before args s = true)
    (hU : (Cond.isRef (.static Bundle.tN "UNASSIGNED_STACK" Bundle.steD)).before args s = true) (hN : (Cond.isRef (.static Bundle.tN "SUPPRESSED_SENTINEL" Bundle.listD)).before args s = true)
    (lU : (Cond.laysStatic Bundle.tN "UNASSIGNED_STACK" Bundle.steD).before args s = true) (lN : (Cond.laysStatic Bundle.tN "SUPPRESSED_SENTINEL" Bundle.listD).before args s = true) : ∀ w ∈ L, w.before args s = true := by
  intro w hw
  by_cases e1 : w = .isRef (.static Bundle.tN "UNASSIGNED_STACK" Bundle.steD)
  · rw [e1]; exact hU
  · by_cases e2 : w = .isRef (.static Bundle.tN "SUPPRESSED_SENTINEL" Bundle.listD)
    · rw [e2]; exact hN
    · by_cases e3 : w = .laysStatic Bundle.tN "UNASSIGNED_STACK" Bundle.steD
      · rw [e3]; exact lU
      · by_cases e4 : w = .laysStatic Bundle.tN "SUPPRESSED_SENTINEL" Bundle.listD
        · rw [e4]; exact lN
        · exact h1 w (List.mem_filter.mpr ⟨hw, by unfold vx_no; rw [decide_eq_true e1, decide_eq_true e2, decide_eq_true e3, decide_eq_true e4]; rfl⟩)
/-- where a static field lies, its class's statics cell in H -/
def vx_L (C n d : String) (A : Nat → Prop) (U : State) (H : Heap) : Prop := ∃ (c : ClassId) (k : Class) (i : Nat) (f : Field) (a : Nat) (cell : Cell), U.vm.findClass C = some c ∧ U.fieldFound? C n d = some (c, k, i, f) ∧ f.isStatic = true ∧ k.statics = some a ∧ H[a]? = some cell ∧ cell.vm.isStatics = true ∧ cell.cls = c ∧ f.slot < cell.slots.size ∧ k.staticTypes[f.slot]? = some f.type ∧ ¬ A a
theorem vx_L.moved {C n d : String} {A : Nat → Prop} {u U : State} {H : Heap} (hvm : u.vm.Alike U.vm) (h : vx_L C n d A u H) : vx_L C n d A U H := by
  obtain ⟨c, k, i, f, a, cell, h1, h2, h3, h4, h5, h6, h7, h8, h9, h10⟩ := h
  obtain ⟨k', hi', he⟩ := State.fieldFound?_setVm hvm h2
  exact ⟨c, k', i, f, a, cell, by rw [hvm.findClass]; exact h1, hi', h3, by rw [he]; exact h4, h5, h6, h7, h8, by rw [he]; exact h9, h10⟩
theorem vx_L.kept {C n d : String} {A : Nat → Prop} {U : State} {H H1 : Heap} (h : vx_L C n d A U H) (hq : ∀ a : Nat, a < H.size → ¬ A a → H1[a]? = H[a]?) : vx_L C n d A U H1 := by
  obtain ⟨c, k, i, f, a, cell, h1, h2, h3, h4, h5, h6, h7, h8, h9, h10⟩ := h
  exact ⟨c, k, i, f, a, cell, h1, h2, h3, h4, by rw [hq a (Array.getElem?_eq_some_iff.mp h5).1 h10]; exact h5, h6, h7, h8, h9, h10⟩
theorem vx_L.narrow {C n d : String} {A B : Nat → Prop} {U : State} {H : Heap} (h : vx_L C n d A U H) (hAB : ∀ q, B q → A q) : vx_L C n d B U H := by
  obtain ⟨c, k, i, f, a, cell, h1, h2, h3, h4, h5, h6, h7, h8, h9, h10⟩ := h
  exact ⟨c, k, i, f, a, cell, h1, h2, h3, h4, h5, h6, h7, h8, h9, fun z => h10 (hAB _ z)⟩
theorem vx_L.word {C n d : String} {A : Nat → Prop} {s : State} {args : Array Value} (h : vx_L C n d A s s.heap) : (Cond.laysStatic C n d).before args s = true := by
  obtain ⟨c, k, i, f, a, cell, h1, h2, h3, h4, h5, h6, h7, h8, h9, -⟩ := h
  show (Cond.laysStatic C n d).holds args s none s [] = true
  exact Cond.laysStatic_of h1 h2 h3 h4 h5 h6 h7 h8 h9
/-- .. and what it holds: null or some reference -/
def vx_Zq (C n d : String) (A : Nat → Prop) (U : State) (H : Heap) : Prop := va_Zq C n d A U H ∧ vx_L C n d A U H
theorem vx_Zq.moved {C n d : String} {A : Nat → Prop} {u U : State} {H : Heap} (hvm : u.vm.Alike U.vm) (h : vx_Zq C n d A u H) : vx_Zq C n d A U H := ⟨va_Zq.moved hvm h.1, vx_L.moved hvm h.2⟩
theorem vx_Zq.kept {C n d : String} {A : Nat → Prop} {U : State} {H H1 : Heap} (h : vx_Zq C n d A U H) (hq : ∀ a : Nat, a < H.size → ¬ A a → H1[a]? = H[a]?) : vx_Zq C n d A U H1 := ⟨va_Zq.kept h.1 hq, vx_L.kept h.2 hq⟩
theorem vx_Zq.narrow {C n d : String} {A B : Nat → Prop} {U : State} {H : Heap} (h : vx_Zq C n d A U H) (hAB : ∀ q, B q → A q) : vx_Zq C n d B U H := ⟨va_Zq.narrow h.1 hAB, vx_L.narrow h.2 hAB⟩
theorem vx_Zqof {args : Array Value} {s : State} {C n d : String} {A : Nat → Prop} (hl : (Cond.laysStatic C n d).before args s = true) (hini : (Cond.initialized C).before args s = true) (h : (Cond.isRef (.static C n d)).before args s = true) (hA : ∀ a : Nat, a < s.heap.size → ¬ A a) : vx_Zq C n d A s s.heap := by
  refine ⟨va_Zqof hl hini h hA, ?_⟩
  obtain ⟨c, k, i, f, a, cell, h1, h2, h3, h4, h5, h6, h7, h8, h9⟩ := Cond.laysStatic_spec hl
  exact ⟨c, k, i, f, a, cell, h1, h2, h3, h4, h5, h6, h7, h8, h9, hA a (Array.getElem?_eq_some_iff.mp h5).1⟩
theorem vx_isRef {C n d : String} {v : Value} {A : Nat → Prop} {s : State} {args : Array Value} (h : va_Z C n d v A s s.heap) (hv : v.isRef = true) : (Cond.isRef (.static C n d)).before args s = true := by
  obtain ⟨cf, kf, fi, f, a, cell, h1, h2, h3, h4, h5, h6, h7, -⟩ := h
  have he : (Term.static C n d).eval args s none [] s = some v := by
    simp [Term.eval, State.fieldNamed?, h1, h2, h4, h5, h6, h7]
  simp only [Cond.before, Cond.holds, Cond.value, he]
  cases v <;> simp_all [Value.isRef]
theorem vx_isRefq {C n d : String} {A : Nat → Prop} {s : State} {args : Array Value} (h : va_Zq C n d A s s.heap) : (Cond.isRef (.static C n d)).before args s = true := by
  rcases h with h | ⟨t, h⟩
  · exact vx_isRef h rfl
  · exact vx_isRef h rfl
/-- the same frame, seen from here: as if the method were called anew in this heap -/
theorem vx_rebase {T : State} (X : Stand p l e R s m args below meth c T locs cells slots) {R' : Room} (hf : R'.frames ≤ R.frames) (hl : R'.locals ≤ R.locals) (hc : cells + R'.cells ≤ R.cells) (hs : slots + R'.slots ≤ R.slots) :
    Stand p l e R' ((T.setVm s.vm).setFrames (.invoking m args :: below)) m args below meth c T [] 0 0 := by
  have htop : (T.setVm s.vm).topJava?.isSome := X.here.top
  have hF : ((T.setVm s.vm).setFrames (.invoking m args :: below)).frames = .invoking m args :: below := State.frames_setFrames _ (State.cur_lt_of_top htop)
  obtain ⟨g₀, hg0⟩ := Option.isSome_iff_exists.mp htop
  obtain ⟨r, hr⟩ := State.topJava?_eq_some.mp hg0
  have hl9 : e.platform.stackLimits (T.setVm s.vm).me = e.platform.stackLimits s.me := X.limits
  have hb9 : (T.setVm s.vm).me.stackBytes = s.me.stackBytes := X.bytes
  refine ⟨X.admits, X.cas, X.clock, hF, ?_, X.hears, X.method, X.code, X.here, X.tail, X.warmed, ?_, ?_, ?_⟩
  · have h := X.room
    have hU : ((T.setVm s.vm).setFrames (.invoking m args :: below)).localsInUse = s.localsInUse := by
      rw [State.localsInUse_invoking hF (meth := meth) (c := c) X.method X.code, State.localsInUse_invoking X.frames X.method X.code]
    simp only [State.hasRoom, Bool.and_eq_true, decide_eq_true_eq] at h ⊢
    obtain ⟨⟨⟨⟨h1, h2, h3, h4, h5, h6⟩, h7⟩, h8⟩, h9⟩ := h
    rw [X.frames, List.length_cons] at h2 h3
    have q1 := X.heapSize
    have q2 := X.used
    simp only [hF, hU, List.length_cons, State.stackLimits_setFrames, State.stackBytes_setFrames, hl9, hb9]
    refine ⟨⟨⟨⟨by omega, by omega, by omega, by omega, by omega, h6⟩, ?_⟩, ?_⟩, X.book⟩
    · show T.heap.size + R'.cells ≤ e.platform.maxCells
      omega
    · show T.slotsUsed + R'.slots ≤ e.platform.maxSlots
      omega
  · rw [State.stackLimits_setFrames]; rfl
  · rw [State.stackBytes_setFrames]; rfl
  · refine ⟨?_, Nat.le_refl _, Nat.le_refl _, ?_, ?_, fun a c9 h9 => ⟨c9, h9, rfl, rfl, fun _ _ => rfl⟩⟩
    · obtain ⟨t, ht, -⟩ := State.frames_cons hr
      show T.setVm s.vm = { ((T.setVm s.vm).setFrames (.invoking m args :: below)).setFrames (T.setVm s.vm).frames with heap := T.heap, slotsUsed := T.slotsUsed }
      rw [State.setFrames_setFrames, State.setFrames_self ht]
      rfl
    · show T.slotsUsed = T.slotsUsed + ((T.heap.toList.drop T.heap.size).map (·.slots.size)).sum
      rw [List.drop_eq_nil_of_le (Nat.le_of_eq Array.length_toList)]
      rfl
    · show ((T.heap.toList.drop T.heap.size).map (·.slots.size)).sum ≤ 0
      rw [List.drop_eq_nil_of_le (Nat.le_of_eq Array.length_toList)]
      exact Nat.le_refl _
/-- 'throw new E()': new; dup; invokespecial; athrow -/
theorem vx_throw0 {cc : ByteArray} {pc : Nat} (hexec : p.tables.exec = Jvm.exec) (hb : c.code = cc) (hl : l.stackTraces = false) {own cls : String} {names : List String} {ik ic mc ms : Nat} {A : Nat → Prop}
    (hown : s.vm.findClass own = some m.cls) (hcls : Bundle.fit cls = true) (hnames : ∀ n ∈ names, Bundle.fit n = true)
    (hk : (Cond.classLink own ik cls).before args s = true) (hini : (Cond.initialized cls).before args s = true) (hat : ∀ w ∈ vx_at0 own ic cls names, w.before args s = true)
    (hgood : ∀ w ∈ Cond.classLink own ik cls :: Cond.initialized cls :: vx_at0 own ic cls names, vx_ot w = true)
    (hU : vx_Zq Bundle.tN "UNASSIGNED_STACK" Bundle.steD A s s.heap) (hN : vx_Zq Bundle.tN "SUPPRESSED_SENTINEL" Bundle.listD A s s.heap) (hS : va_S A s.heap H locs) (hsize : ls.size = c.maxLocals)
    (d0 : decode cc pc = .ok (.new ik, 3)) (d3 : decode cc (pc + 3) = .ok (.dup, 1)) (d4 : decode cc (pc + 4) = .ok (.invokespecial ic, 3)) (d7 : decode cc (pc + 7) = .ok (.athrow, 1))
    (hout : ∀ x ∈ c.exceptionTable.toList, covers x (pc + 7) = false)
    (hRframes : names.length + 3 < R.frames) (hRlocals : (rest.map fun v => v.category).sum + (13 * (names.length + 1) + 42) ≤ R.locals) (hRcells : cells + 1 ≤ R.cells) (hRslots : slots + 6 ≤ R.slots) (hlocks : meth.locks = false)
    (hx : ∀ t : State, s.vm.Alike t.vm → H.size ≤ t.heap.size → (∀ q : Nat, q < H.size → t.heap[q]? = H[q]?) → XC cls s t)
    (hf : ∀ z ∈ locs, free z.base) (hc : cells + 1 ≤ mc) (hs : slots + 6 ≤ ms) :
    W p l e R s m args below meth c H locs cells slots (vx_MQ below Qc XC args s mc ms free) (F0 m pc ls rest) := by
  intro T hT X
  have htr : e.platform.stackTraces = false := (show e.platform.stackTraces = l.stackTraces by rw [X.admits.platform]).trans hl
  have Y := vx_rebase X (R' := { frames := R.frames, locals := R.locals, cells := 1, slots := 6 }) (Nat.le_refl _) (Nat.le_refl _) hRcells hRslots
  obtain ⟨s', hA⟩ : ∃ z, z = (T.setVm s.vm).setFrames (.invoking m args :: below) := ⟨_, rfl⟩
  rw [← hA] at Y
  have hvm : s'.vm = s.vm := by rw [hA]; rfl
  have hhp : s'.heap = H := by rw [hA]; exact hT
  have hW0 : s.WarmedH s'.vm := by rw [hvm]; exact State.WarmedH.refl s
  have hat' : ∀ w ∈ vx_at0 own ic cls names, w.before args s' = true := fun w hw => vx_ot_at hW0 hvm.symm (hgood w (List.mem_cons_of_mem _ (List.mem_cons_of_mem _ hw))) (hat w hw)
  have hk' : (Cond.classLink own ik cls).before args s' = true := vx_ot_at hW0 hvm.symm (hgood _ List.mem_cons_self) hk
  have hini' : (Cond.initialized cls).before args s' = true := vx_ot_at hW0 hvm.symm (hgood _ (List.mem_cons_of_mem _ List.mem_cons_self)) hini
  have hU' : vx_Zq Bundle.tN "UNASSIGNED_STACK" Bundle.steD A s' s'.heap := by rw [hhp]; exact vx_Zq.moved hW0.alike (hU.kept hS.2.1)
  have hN' : vx_Zq Bundle.tN "SUPPRESSED_SENTINEL" Bundle.listD A s' s'.heap := by rw [hhp]; exact vx_Zq.moved hW0.alike (hN.kept hS.2.1)
  have h : ∀ w ∈ Bundle.ownAtoms0 own ic cls names, w.before args s' = true := vx_own hat' (vx_isRefq hU'.1) (vx_isRefq hN'.1) hU'.2.word hN'.2.word
  have hown' : s'.vm.findClass own = some m.cls := by rw [hvm]; exact hown
  have hins : (Cond.instantiable cls 6).before args s' = true := h _ (by simp [Bundle.ownAtoms0])
  obtain ⟨vm₁, cX, kX, hfX, hkX, -, -, X₁, st1⟩ := Y.newCold hexec (own := own) (C := cls) (index := ik) (n := 6) hown' hk' hins hini'
    (g := F0 m pc ls rest) rfl (by rw [hb]; exact d0) (Nat.le_refl _) (Nat.le_refl _)
  generalize hT1 : (T.setVm vm₁).pushCell { cls := cX, slots := kX.instanceTypes.map defaultValue, vm := .none } = T1 at X₁ st1
  have hcat : (Value.ref T.heap.size).category = 1 := rfl
  have hcellA : T1.heap[T.heap.size]? = some (freshCell cX kX) := by rw [← hT1]; exact State.heap_pushCell_size _ _
  have d3' : decode c.code (pc + 3) = .ok (.dup, 1) := by rw [hb]; exact d3
  obtain ⟨U, hsteps, hrun, hend, hW, hsame, ce, hce, hO⟩ := X₁.ctorThrow0 hexec htr (own := own) (cls := cls) (names := names) (ic := ic) hown' hcls hnames h (fun x hx => nomatch hx) hfX hkX hcellA (by rw [hhp, hT]; exact Nat.le_refl _)
    (g := { method := m, pc := pc + 4, locals := ls, stack := .ref T.heap.size :: .ref T.heap.size :: rest, locked := none }) rfl hsize rfl rfl (rest := rest) rfl
    (by rw [hb]; exact d4) (by rw [hb]; exact d7) hout hRframes (by simp only [List.map_cons, List.sum_cons, hcat]; omega) hlocks
  obtain ⟨f1, f2⟩ := vx_frame hsame
  rw [hhp] at f1 f2
  have hWs : s.WarmedH U.vm := State.WarmedH.trans hW0 hW
  have hcl : s.vm.findClass cls = some ce.cls := by
    have h9 := hO.cls
    rw [hvm] at h9
    exact h9
  have hall : s.sameButNew ({ U with vm := s.vm } : State) locs mc ms := by
    subst hA
    obtain ⟨e1, e2⟩ := hsame
    rw [State.setFrames_setFrames] at e1
    have h2 : (T.setVm s.vm).sameButNew ({ U with vm := s.vm } : State) [] (0 + 1) (0 + 6) := ⟨e1, e2⟩
    have h3 := X.same.trans h2
    rw [List.append_nil] at h3
    exact h3.mono hc hs
  refine ⟨U, ?_, .threw T.heap.size, hrun, hend, Or.inr ⟨T.heap.size, rfl, cls, ce, locs, hx U hWs.alike f1 (fun q hq => f2 q hq (fun z hz => nomatch hz)), hce, hO.vm, hcl, hWs, hall, hf⟩⟩
  refine st1 _ ?_
  show Steps p.tables e below (T1.setTop { method := m, pc := pc + 3, locals := ls, stack := .ref T.heap.size :: rest, locked := none }) _
  jvm_step X₁.here [X₁.here.top, hexec, d3', Value.category]
  exact hsteps
/-- 'throw new E("text")': new; dup; ldc; invokespecial; athrow -/
theorem vx_throwS {cc : ByteArray} {pc : Nat} (hexec : p.tables.exec = Jvm.exec) (hb : c.code = cc) (hl : l.stackTraces = false) {own cls text : String} {names : List String} {ik is ic mc ms sa : Nat} {A : Nat → Prop}
    (hown : s.vm.findClass own = some m.cls) (hcls : Bundle.fit cls = true) (hnames : ∀ n ∈ names, Bundle.fit n = true)
    (hk : (Cond.classLink own ik cls).before args s = true) (hini : (Cond.initialized cls).before args s = true) (hstr : vk_R own is text sa s) (hat : ∀ w ∈ vx_atS own ic cls names, w.before args s = true)
    (hgood : ∀ w ∈ Cond.classLink own ik cls :: Cond.initialized cls :: vx_atS own ic cls names, vx_ot w = true)
    (hU : vx_Zq Bundle.tN "UNASSIGNED_STACK" Bundle.steD A s s.heap) (hN : vx_Zq Bundle.tN "SUPPRESSED_SENTINEL" Bundle.listD A s s.heap) (hS : va_S A s.heap H locs) (hsize : ls.size = c.maxLocals)
    (d0 : decode cc pc = .ok (.new ik, 3)) (d3 : decode cc (pc + 3) = .ok (.dup, 1)) (d4 : decode cc (pc + 4) = .ok (.ldc is, 2)) (d6 : decode cc (pc + 6) = .ok (.invokespecial ic, 3)) (d9 : decode cc (pc + 9) = .ok (.athrow, 1))
    (hout : ∀ x ∈ c.exceptionTable.toList, covers x (pc + 9) = false)
    (hRframes : names.length + 3 < R.frames) (hRlocals : (rest.map fun v => v.category).sum + (13 * (names.length + 1) + 43) ≤ R.locals) (hRcells : cells + 1 ≤ R.cells) (hRslots : slots + 6 ≤ R.slots) (hlocks : meth.locks = false)
    (hx : ∀ t : State, s.vm.Alike t.vm → H.size ≤ t.heap.size → (∀ q : Nat, q < H.size → t.heap[q]? = H[q]?) → XC cls s t)
    (hf : ∀ z ∈ locs, free z.base) (hc : cells + 1 ≤ mc) (hs : slots + 6 ≤ ms) :
    W p l e R s m args below meth c H locs cells slots (vx_MQ below Qc XC args s mc ms free) (F0 m pc ls rest) := by
  intro T hT X
  have htr : e.platform.stackTraces = false := (show e.platform.stackTraces = l.stackTraces by rw [X.admits.platform]).trans hl
  have Y := vx_rebase X (R' := { frames := R.frames, locals := R.locals, cells := 1, slots := 6 }) (Nat.le_refl _) (Nat.le_refl _) hRcells hRslots
  obtain ⟨s', hA⟩ : ∃ z, z = (T.setVm s.vm).setFrames (.invoking m args :: below) := ⟨_, rfl⟩
  rw [← hA] at Y
  have hvm : s'.vm = s.vm := by rw [hA]; rfl
  have hhp : s'.heap = H := by rw [hA]; exact hT
  have hW0 : s.WarmedH s'.vm := by rw [hvm]; exact State.WarmedH.refl s
  have hat' : ∀ w ∈ vx_atS own ic cls names, w.before args s' = true := fun w hw => vx_ot_at hW0 hvm.symm (hgood w (List.mem_cons_of_mem _ (List.mem_cons_of_mem _ hw))) (hat w hw)
  have hk' : (Cond.classLink own ik cls).before args s' = true := vx_ot_at hW0 hvm.symm (hgood _ List.mem_cons_self) hk
  have hini' : (Cond.initialized cls).before args s' = true := vx_ot_at hW0 hvm.symm (hgood _ (List.mem_cons_of_mem _ List.mem_cons_self)) hini
  have hU' : vx_Zq Bundle.tN "UNASSIGNED_STACK" Bundle.steD A s' s'.heap := by rw [hhp]; exact vx_Zq.moved hW0.alike (hU.kept hS.2.1)
  have hN' : vx_Zq Bundle.tN "SUPPRESSED_SENTINEL" Bundle.listD A s' s'.heap := by rw [hhp]; exact vx_Zq.moved hW0.alike (hN.kept hS.2.1)
  have h : ∀ w ∈ Bundle.ownAtoms own ic cls names, w.before args s' = true := vx_own hat' (vx_isRefq hU'.1) (vx_isRefq hN'.1) hU'.2.word hN'.2.word
  have hown' : s'.vm.findClass own = some m.cls := by rw [hvm]; exact hown
  have hins : (Cond.instantiable cls 6).before args s' = true := h _ (by simp [Bundle.ownAtoms])
  obtain ⟨vm₁, cX, kX, hfX, hkX, -, -, X₁, st1⟩ := Y.newCold hexec (own := own) (C := cls) (index := ik) (n := 6) hown' hk' hins hini'
    (g := F0 m pc ls rest) rfl (by rw [hb]; exact d0) (Nat.le_refl _) (Nat.le_refl _)
  generalize hT1 : (T.setVm vm₁).pushCell { cls := cX, slots := kX.instanceTypes.map defaultValue, vm := .none } = T1 at X₁ st1
  have hcat : (Value.ref T.heap.size).category = 1 := rfl
  have hcellA : T1.heap[T.heap.size]? = some (freshCell cX kX) := by rw [← hT1]; exact State.heap_pushCell_size _ _
  have d3' : decode c.code (pc + 3) = .ok (.dup, 1) := by rw [hb]; exact d3
  have d4' : decode c.code (pc + 4) = .ok (.ldc is, 2) := by rw [hb]; exact d4
  have hstr' : vk_R own is text sa s' := vk_R.warm hW0 hstr
  obtain ⟨U, hsteps, hrun, hend, hW, hsame, ce, hce, hO⟩ := X₁.ctorThrowS hexec htr (own := own) (cls := cls) (names := names) (ic := ic) hown' hcls hnames h (fun x hx => nomatch hx) hfX hkX hcellA (by rw [hhp, hT]; exact Nat.le_refl _) (msg := .ref sa) rfl
    (g := { method := m, pc := pc + 6, locals := ls, stack := .ref sa :: .ref T.heap.size :: .ref T.heap.size :: rest, locked := none }) rfl hsize rfl rfl (rest := rest) rfl
    (by rw [hb]; exact d6) (by rw [hb]; exact d9) hout hRframes (by simp only [List.map_cons, List.sum_cons, hcat]; omega) hlocks
  obtain ⟨f1, f2⟩ := vx_frame hsame
  rw [hhp] at f1 f2
  have hWs : s.WarmedH U.vm := State.WarmedH.trans hW0 hW
  have hcl : s.vm.findClass cls = some ce.cls := by
    have h9 := hO.cls
    rw [hvm] at h9
    exact h9
  have hall : s.sameButNew ({ U with vm := s.vm } : State) locs mc ms := by
    subst hA
    obtain ⟨e1, e2⟩ := hsame
    rw [State.setFrames_setFrames] at e1
    have h2 : (T.setVm s.vm).sameButNew ({ U with vm := s.vm } : State) [] (0 + 1) (0 + 6) := ⟨e1, e2⟩
    have h3 := X.same.trans h2
    rw [List.append_nil] at h3
    exact h3.mono hc hs
  refine ⟨U, ?_, .threw T.heap.size, hrun, hend, Or.inr ⟨T.heap.size, rfl, cls, ce, locs, hx U hWs.alike f1 (fun q hq => f2 q hq (fun z hz => nomatch hz)), hce, hO.vm, hcl, hWs, hall, hf⟩⟩
  refine st1 _ ?_
  show Steps p.tables e below (T1.setTop { method := m, pc := pc + 3, locals := ls, stack := .ref T.heap.size :: rest, locked := none }) _
  jvm_step X₁.here [X₁.here.top, hexec, d3', Value.category]
  exact X₁.ldcString hexec (own := own) (text := text) (index := is) (a := sa) hown' hstr'.1 hstr'.2
    (g := { method := m, pc := pc + 4, locals := ls, stack := .ref T.heap.size :: .ref T.heap.size :: rest, locked := none }) rfl d4' _ hsteps
/-- 'throw new E("text")', the text by a wide index -/
theorem vx_throwSW {cc : ByteArray} {pc : Nat} (hexec : p.tables.exec = Jvm.exec) (hb : c.code = cc) (hl : l.stackTraces = false) {own cls text : String} {names : List String} {ik is ic mc ms sa : Nat} {A : Nat → Prop}
    (hown : s.vm.findClass own = some m.cls) (hcls : Bundle.fit cls = true) (hnames : ∀ n ∈ names, Bundle.fit n = true)
    (hk : (Cond.classLink own ik cls).before args s = true) (hini : (Cond.initialized cls).before args s = true) (hstr : vk_R own is text sa s) (hat : ∀ w ∈ vx_atS own ic cls names, w.before args s = true)
    (hgood : ∀ w ∈ Cond.classLink own ik cls :: Cond.initialized cls :: vx_atS own ic cls names, vx_ot w = true)
    (hU : vx_Zq Bundle.tN "UNASSIGNED_STACK" Bundle.steD A s s.heap) (hN : vx_Zq Bundle.tN "SUPPRESSED_SENTINEL" Bundle.listD A s s.heap) (hS : va_S A s.heap H locs) (hsize : ls.size = c.maxLocals)
    (d0 : decode cc pc = .ok (.new ik, 3)) (d3 : decode cc (pc + 3) = .ok (.dup, 1)) (d4 : decode cc (pc + 4) = .ok (.ldc_w is, 3)) (d7 : decode cc (pc + 7) = .ok (.invokespecial ic, 3)) (d10 : decode cc (pc + 10) = .ok (.athrow, 1))
    (hout : ∀ x ∈ c.exceptionTable.toList, covers x (pc + 10) = false)
    (hRframes : names.length + 3 < R.frames) (hRlocals : (rest.map fun v => v.category).sum + (13 * (names.length + 1) + 43) ≤ R.locals) (hRcells : cells + 1 ≤ R.cells) (hRslots : slots + 6 ≤ R.slots) (hlocks : meth.locks = false)
    (hx : ∀ t : State, s.vm.Alike t.vm → H.size ≤ t.heap.size → (∀ q : Nat, q < H.size → t.heap[q]? = H[q]?) → XC cls s t)
    (hf : ∀ z ∈ locs, free z.base) (hc : cells + 1 ≤ mc) (hs : slots + 6 ≤ ms) :
    W p l e R s m args below meth c H locs cells slots (vx_MQ below Qc XC args s mc ms free) (F0 m pc ls rest) := by
  intro T hT X
  have htr : e.platform.stackTraces = false := (show e.platform.stackTraces = l.stackTraces by rw [X.admits.platform]).trans hl
  have Y := vx_rebase X (R' := { frames := R.frames, locals := R.locals, cells := 1, slots := 6 }) (Nat.le_refl _) (Nat.le_refl _) hRcells hRslots
  obtain ⟨s', hA⟩ : ∃ z, z = (T.setVm s.vm).setFrames (.invoking m args :: below) := ⟨_, rfl⟩
  rw [← hA] at Y
  have hvm : s'.vm = s.vm := by rw [hA]; rfl
  have hhp : s'.heap = H := by rw [hA]; exact hT
  have hW0 : s.WarmedH s'.vm := by rw [hvm]; exact State.WarmedH.refl s
  have hat' : ∀ w ∈ vx_atS own ic cls names, w.before args s' = true := fun w hw => vx_ot_at hW0 hvm.symm (hgood w (List.mem_cons_of_mem _ (List.mem_cons_of_mem _ hw))) (hat w hw)
  have hk' : (Cond.classLink own ik cls).before args s' = true := vx_ot_at hW0 hvm.symm (hgood _ List.mem_cons_self) hk
  have hini' : (Cond.initialized cls).before args s' = true := vx_ot_at hW0 hvm.symm (hgood _ (List.mem_cons_of_mem _ List.mem_cons_self)) hini
  have hU' : vx_Zq Bundle.tN "UNASSIGNED_STACK" Bundle.steD A s' s'.heap := by rw [hhp]; exact vx_Zq.moved hW0.alike (hU.kept hS.2.1)
  have hN' : vx_Zq Bundle.tN "SUPPRESSED_SENTINEL" Bundle.listD A s' s'.heap := by rw [hhp]; exact vx_Zq.moved hW0.alike (hN.kept hS.2.1)
  have h : ∀ w ∈ Bundle.ownAtoms own ic cls names, w.before args s' = true := vx_own hat' (vx_isRefq hU'.1) (vx_isRefq hN'.1) hU'.2.word hN'.2.word
  have hown' : s'.vm.findClass own = some m.cls := by rw [hvm]; exact hown
  have hins : (Cond.instantiable cls 6).before args s' = true := h _ (by simp [Bundle.ownAtoms])
  obtain ⟨vm₁, cX, kX, hfX, hkX, -, -, X₁, st1⟩ := Y.newCold hexec (own := own) (C := cls) (index := ik) (n := 6) hown' hk' hins hini'
    (g := F0 m pc ls rest) rfl (by rw [hb]; exact d0) (Nat.le_refl _) (Nat.le_refl _)
  generalize hT1 : (T.setVm vm₁).pushCell { cls := cX, slots := kX.instanceTypes.map defaultValue, vm := .none } = T1 at X₁ st1
  have hcat : (Value.ref T.heap.size).category = 1 := rfl
  have hcellA : T1.heap[T.heap.size]? = some (freshCell cX kX) := by rw [← hT1]; exact State.heap_pushCell_size _ _
  have d3' : decode c.code (pc + 3) = .ok (.dup, 1) := by rw [hb]; exact d3
  have d4' : decode c.code (pc + 4) = .ok (.ldc_w is, 3) := by rw [hb]; exact d4
  have hstr' : vk_R own is text sa s' := vk_R.warm hW0 hstr
  obtain ⟨U, hsteps, hrun, hend, hW, hsame, ce, hce, hO⟩ := X₁.ctorThrowS hexec htr (own := own) (cls := cls) (names := names) (ic := ic) hown' hcls hnames h (fun x hx => nomatch hx) hfX hkX hcellA (by rw [hhp, hT]; exact Nat.le_refl _) (msg := .ref sa) rfl
    (g := { method := m, pc := pc + 7, locals := ls, stack := .ref sa :: .ref T.heap.size :: .ref T.heap.size :: rest, locked := none }) rfl hsize rfl rfl (rest := rest) rfl
    (by rw [hb]; exact d7) (by rw [hb]; exact d10) hout hRframes (by simp only [List.map_cons, List.sum_cons, hcat]; omega) hlocks
  obtain ⟨f1, f2⟩ := vx_frame hsame
  rw [hhp] at f1 f2
  have hWs : s.WarmedH U.vm := State.WarmedH.trans hW0 hW
  have hcl : s.vm.findClass cls = some ce.cls := by
    have h9 := hO.cls
    rw [hvm] at h9
    exact h9
  have hall : s.sameButNew ({ U with vm := s.vm } : State) locs mc ms := by
    subst hA
    obtain ⟨e1, e2⟩ := hsame
    rw [State.setFrames_setFrames] at e1
    have h2 : (T.setVm s.vm).sameButNew ({ U with vm := s.vm } : State) [] (0 + 1) (0 + 6) := ⟨e1, e2⟩
    have h3 := X.same.trans h2
    rw [List.append_nil] at h3
    exact h3.mono hc hs
  refine ⟨U, ?_, .threw T.heap.size, hrun, hend, Or.inr ⟨T.heap.size, rfl, cls, ce, locs, hx U hWs.alike f1 (fun q hq => f2 q hq (fun z hz => nomatch hz)), hce, hO.vm, hcl, hWs, hall, hf⟩⟩
  refine st1 _ ?_
  show Steps p.tables e below (T1.setTop { method := m, pc := pc + 3, locals := ls, stack := .ref T.heap.size :: rest, locked := none }) _
  jvm_step X₁.here [X₁.here.top, hexec, d3', Value.category]
  exact X₁.ldcStringW hexec (own := own) (text := text) (index := is) (a := sa) hown' hstr'.1 hstr'.2
    (g := { method := m, pc := pc + 4, locals := ls, stack := .ref T.heap.size :: .ref T.heap.size :: rest, locked := none }) rfl d4' _ hsteps
end Ends
section Bodies
variable {l : Launch}
theorem vx_ofW {y : MethodName} {ws ws' : List Cond} {rm : Room} {Pc : Array Value → State → Prop} {Qc : Array Value → State → Outcome → State → Prop} {XC : String → State → State → Prop} {mc ms : Nat} {free : Addr → Prop} {cc : ByteArray} {maxL : Nat} {ret : Option FieldType}
    (hy : plainName y.cls = true) (hw : ws = Cond.code y cc maxL ret :: ws')
    (body : ∀ p e s m args below meth c s₁, BodyLoose p l y (headSpec ws rm) cc maxL ret e s m args below meth c s₁ → c.maxLocals = maxL → (∀ x ∈ c.exceptionTable.toList, False) → Pc args s →
      W p l e (headSpec ws rm).room s m args below meth c s.heap [] 0 0 (vx_MQ below Qc XC args s mc ms free) (entryFrame m args maxL)) : vx_Met l y ws rm Pc Qc XC mc ms free := by
  refine MetFree.of_bodyS (code := cc) (maxLocals := maxL) (ret := ret) hy ?_ ?_
  · intro args s m h hn
    obtain ⟨meth, c, h1, h2, h3, h4, h5, h6, -, -⟩ := Cond.code_spec hn (atoms_spec (ws := ws) h _ (by rw [hw]; exact List.mem_cons_self))
    exact ⟨meth, c, h1, h2, h3, h4, h5, h6⟩
  · intro p e s m args below meth c s₁ B hml hP _
    have hh0 : s₁.heap = s.heap := by rw [B.state]; rfl
    have ht : ∀ x ∈ c.exceptionTable.toList, False := by
      obtain ⟨meth9, c9, h1, h2, -, -, -, -, h7, -⟩ := Cond.code_spec B.named (atoms_spec (ws := ws) B.pre _ (by rw [hw]; exact List.mem_cons_self))
      cases Option.some.inj (h1.symm.trans B.method)
      cases Option.some.inj (h2.symm.trans (Stand.of_body B).code)
      intro x hx
      rw [Array.isEmpty_iff.mp h7] at hx
      cases hx
    obtain ⟨t, a1, o, b1, b2, b3⟩ := body p e s m args below meth c s₁ B hml ht hP s₁ hh0 (Stand.of_body B)
    exact ⟨t, o, a1, b1, b2, b3⟩
/-- the table of a body with handlers -/
theorem vx_table {p : Program} {x y : MethodName} {S : Spec} {cc bytes : ByteArray} {maxL maxL' : Nat} {ret ret' : Option FieldType} {e : Env} {s s₁ : State} {m : MethodId} {args : Array Value} {below : List Frame} {meth : Method} {c : Code} {hh : List (Nat × Nat × Nat × Nat)}
    (B : BodyLoose p l y S cc maxL ret e s m args below meth c s₁) (h : (Cond.codeWith y bytes maxL' ret' hh).before args s = true) : c.exceptionTable.toList = tableOf hh := by
  obtain ⟨m9, meth9, c9, hn9, h1, h2, -, -, h6, -⟩ := Cond.codeWith_spec h
  cases Option.some.inj (hn9.symm.trans B.named)
  cases Option.some.inj (h1.symm.trans B.method)
  cases Option.some.inj (h2.symm.trans (Stand.of_body B).code)
  rw [← h6, table_eq]
end Bodies
end VXA
/-! ===== END ===== -/
/-! ===== BEGIN a static call of a method with an exception table ===== -/
section VXS
variable {p : Program} {l : Launch} {e : Env} {R : Room} {s : State} {m : MethodId} {args : Array Value} {below : List Frame} {meth : Method} {c : Code} {T : State} {H : Heap} {locs : List Loc} {cells slots : Nat}
abbrev vx_CSW (R : Room) (s : State) (args : Array Value) (own : String) (index : Nat) (y : MethodName) (bytes : ByteArray) (maxL : Nat) (ret : Option FieldType) (hh : List (Nat × Nat × Nat × Nat)) (ws : List Cond) (rm : Room) (mc ms n : Nat) : Prop :=
  (rm.cells = mc ∧ rm.slots = ms ∧ rm.frames + 1 ≤ R.frames ∧ 8 + (maxL + 11) + rm.locals ≤ R.locals ∧ (∀ w ∈ ws, ∀ (a' : Array Value) (U : State), s.WarmedH U.vm → w.before a' U = true) ∧ Cond.codeWith y bytes maxL ret hh ∈ ws) ∧
  (Cond.codeWith y bytes maxL ret hh).before args s = true ∧ (Cond.initialized y.cls).before args s = true ∧ (y.cls ≠ "java/lang/invoke/MethodHandle" ∧ y.cls ≠ "java/lang/invoke/VarHandle") ∧
  (∀ sig, parseMethodDescriptor y.desc = some sig → n = sig.parameters.length) ∧ (Cond.methodLink own index y).before args s = true ∧ (Cond.static y).before args s = true
theorem vx_cwSW {own : String} {index maxL mc ms : Nat} {y : MethodName} {bytes : ByteArray} {ret : Option FieldType} {hh : List (Nat × Nat × Nat × Nat)} {Ts ws ws' : List Cond} {rm : Room} (n : Nat) (ht : ∀ w ∈ Ts, w.before args s = true) (hT : GoodIn Ts (va_wsS own index y ws)) (hw : ws = Cond.codeWith y bytes maxL ret hh :: ws') (hrc : rm.cells = mc) (hrs : rm.slots = ms)
    (hd : y.cls ≠ "java/lang/invoke/MethodHandle" ∧ y.cls ≠ "java/lang/invoke/VarHandle" ∧ (parseMethodDescriptor y.desc).map (fun d => d.parameters.length) = some n) (hR : rm.frames + 1 ≤ R.frames ∧ 8 + (maxL + 11) + rm.locals ≤ R.locals) :
    vx_CSW R s args own index y bytes maxL ret hh ws rm mc ms n := by
  have ok : ∀ w ∈ va_wsS own index y ws, w.before args s = true := fun w h => ht w (hT w h).1
  have hG : GoodIn Ts ws := fun w h => hT w (by unfold va_wsS; exact List.mem_append_right _ h)
  have hc : Cond.codeWith y bytes maxL ret hh ∈ ws := by rw [hw]; exact List.mem_cons_self
  refine ⟨⟨hrc, hrs, hR.1, hR.2, pay_in ht hG, hc⟩, ht _ (hG _ hc).1, ok _ (by simp [va_wsS]), ⟨hd.1, hd.2.1⟩, fun sig h => ?_, ok _ (by simp [va_wsS]), ok _ (by simp [va_wsS])⟩
  have h2 := hd.2.2
  rw [h] at h2
  exact (Option.some.inj h2).symm
theorem vx_callSW (X : Stand p l e R s m args below meth c T locs cells slots) (hexec : p.tables.exec = Jvm.exec) {own : String} {index : Nat} {y : MethodName} {bytes : ByteArray} {maxL : Nat} {ret : Option FieldType} {hh : List (Nat × Nat × Nat × Nat)}
    (hown : s.vm.findClass own = some m.cls) (hlink : (Cond.methodLink own index y).before args s = true) (hstat : (Cond.static y).before args s = true) (hinit : (Cond.initialized y.cls).before args s = true)
    (hcode : (Cond.codeWith y bytes maxL ret hh).before args s = true) (hy : y.cls ≠ "java/lang/invoke/MethodHandle" ∧ y.cls ≠ "java/lang/invoke/VarHandle")
    {W9 : Nat} {Pre : Pt → Array Value → Prop} {Post : Pt → Array Value → Option Value → Pt → Prop} (hK : Back l R p e below s args y 3 W9 Pre Post)
    {g : JFrame} (hg : g.method = m) (hsize : g.locals.size = c.maxLocals) {argsL rest : List Value} (hlen : ∀ sig, parseMethodDescriptor y.desc = some sig → argsL.length = sig.parameters.length)
    (hstack : g.stack = argsL.reverse ++ rest) (hW : 2 * g.monitorRoom + (rest.map fun v => v.category).sum ≤ W9) (hdg : decode c.code g.pc = .ok (.invokestatic index, 3))
    (hpre : ∀ vm₁, s.WarmedH vm₁ → Pre ⟨T.setVm vm₁, locs, cells, slots⟩ argsL.toArray) :
    ∃ (v : Option Value) (vm₁ : Vm) (B : Pt), s.WarmedH vm₁ ∧ Stand p l e R s m args below meth c B.U B.locs B.cells B.slots ∧ Post ⟨T.setVm vm₁, locs, cells, slots⟩ argsL.toArray v B ∧
      ∀ target, Steps p.tables e below (B.U.setTop { g with pc := g.pc + 3, stack := v.toList ++ rest }) target → Steps p.tables e below (T.setTop g) target := by
  obtain ⟨mk, methM, cM, hnamed, hmethM, -, -, -, -, -, -, hsigM⟩ := Cond.codeWith_spec hcode
  have hstatic : methM.isStatic = true := Cond.static_spec hnamed hmethM hstat
  obtain ⟨kP, hkP, -⟩ := className_of_methodNamed hnamed
  have hinitP : kP.init = .initialized := Cond.initialized_spec (findClass_of_methodNamed hnamed) hkP hinit
  obtain ⟨vm₁, X₁, hstep₁⟩ := X.invokestatic hexec hown hlink hnamed hmethM hstatic hkP hinitP hy (g := g) hg (argsL := argsL) (rest := rest) (hlen _ hsigM) hstack hdg
  obtain ⟨v, B, X', hpost, hsteps⟩ := hK m meth c ⟨T.setVm vm₁, locs, cells, slots⟩ { g with stack := rest } (.invokestatic index) mk argsL.toArray X₁ hg hsize hdg hW (X₁.named hnamed) (hpre vm₁ X₁.warmed)
  exact ⟨v, vm₁, B, X₁.warmed, X', hpost, fun target h => hstep₁ _ fun acts => by rw [doInvoke_state]; exact hsteps.trans h⟩
theorem vx_runSW {y : MethodName} {bytes cc : ByteArray} {maxL nL mc ms n index : Nat} {ret : Option FieldType} {hh : List (Nat × Nat × Nat × Nat)} {ws : List Cond} {rm : Room} {Pc : Array Value → State → Prop} {Qc : Array Value → State → Outcome → State → Prop} {free : Addr → Prop} {Ts : List Cond} {own : String} {As rest : List Value} {g : JFrame}
    (S : CallFix p m c cc nL s args Ts own) (hM : Met l y ws rm Pc Qc mc ms free) (cw : vx_CSW R s args own index y bytes maxL ret hh ws rm mc ms n) (hp : PreS s H Pc As)
    (hg : g.method = m) (hn : As.length = n) (hsize : g.locals.size = nL) (hstack : g.stack = As.reverse ++ rest) (hW : 2 * g.monitorRoom + (rest.map fun v => v.category).sum ≤ 8) (hdg : decode cc g.pc = .ok (.invokestatic index, 3)) (hf : cells + mc ≤ R.cells ∧ slots + ms ≤ R.slots) :
    va_Run p l e R s m args below meth c H locs cells slots mc ms g rest (Qc As.toArray) (free) := by
  obtain ⟨⟨hrc, hrs, hfr, hlo, hws, hcw⟩, hcode, hini, hy, hlen, hl, hstt⟩ := cw
  have hK : Back l R p e below s args y 3 8 (PreOf R mc ms Pc) (PostOf Qc mc ms free) := va_backW (hh := hh) (bytes := bytes) (maxL := maxL) (ret := ret) hM hp.1 hrc hrs hfr hlo hws hcw (fun a' U hW => word_at hW (Or.inl (by first | rfl | simp [Cond.onTables, Cond.keeps, Cond.steady])) hini)
  obtain ⟨hx, hb, hml, ho, -⟩ := S
  intro T hT X
  obtain ⟨v, vm₁, ⟨U', l2, c2, s2⟩, hW₁, X', ⟨g', mk, t, L, e1, e2, hq, h1, hL, h2, h3⟩, st⟩ := vx_callSW X hx (hh := hh) (bytes := bytes) (maxL := maxL) (ret := ret) ho hl hstt hini hcode hy hK hg (hsize.trans hml.symm) (argsL := As) (rest := rest) (fun sig h => hn.trans (hlen sig h)) hstack hW (by rw [hb]; exact hdg)
    (fun vm₁ hW₁ => ⟨hf.1, hf.2, hp.2 (T.setVm vm₁) hT hW₁⟩)
  dsimp only [Pt.U, Pt.locs, Pt.cells, Pt.slots] at X' e1 e2 h1 h2 h3 st
  subst h1; subst h2; subst h3
  exact ⟨v, (T.setVm vm₁).calling g' mk As.toArray, t, U', L, hT, X', hL, e1, e2, hq, st⟩
/-- not caught here, past rows that name other classes: it goes on to the caller -/
theorem vx_outP {p : Program} {l : Launch} {e : Env} {R : Room} {s : State} {m : MethodId} {args : Array Value} {below : List Frame} {meth : Method} {c : Code} {H : Heap} {locs : List Loc} {cells slots : Nat} {free : Addr → Prop} {ls : Array Slot} {rest : List Value} {Qc : Array Value → State → Outcome → State → Prop} {XC : String → State → State → Prop}
    {pc : Nat} {own E : String} {ce : Cell} {q : Addr} {mc ms : Nat} (hown : s.vm.findClass own = some m.cls) (hlocks : meth.locks = false)
    (hpass : ∀ z ∈ c.exceptionTable.toList, covers z pc = false ∨ (z.catchType ≠ 0 ∧ ∃ nm : String, (Cond.classLink own z.catchType nm).before args s = true ∧ va_Nc E nm s)) (hcell : H[q]? = some ce) (hv : ce.vm = .none) (hcl : s.vm.findClass E = some ce.cls)
    (hx : ∀ t : State, t.heap = H → s.vm.Alike t.vm → XC E s t) (hf : ∀ z ∈ locs, free z.base) (hc : cells ≤ mc) (hs : slots ≤ ms) :
    vx_W p l e R s m args below meth c H locs cells slots (vx_MQ below Qc XC args s mc ms free) (F0 m pc ls rest) q := by
  intro T hT X
  have hpl : e.platform.magicAccessors = ({} : Platform).magicAccessors := by rw [X.admits.platform]
  obtain ⟨vm', hW', X', st⟩ := X.outThrough hlocks q (g := F0 m pc ls rest) rfl rfl rfl (cell := ce) (by rw [hT]; exact hcell) (by rw [hv]; rfl)
    (by obtain ⟨k9, h9, -⟩ := Vm.findClass_spec hcl; exact ⟨k9, h9⟩) (fun z hz => by
      rcases hpass z hz with h | ⟨hz0, nm, hl1, hn1⟩
      · exact Or.inl h
      · obtain ⟨c6, hc6, hcl6⟩ := Cond.classLink_spec hown hl1 e.platform hpl
        obtain ⟨a8, b8, h1, h2, h3⟩ := hn1
        cases Option.some.inj (h1.symm.trans hcl)
        cases Option.some.inj (h2.symm.trans hc6)
        exact Or.inr ⟨hz0, _, hcl6, h3⟩)
  obtain ⟨g₀, hfr⟩ := X'.frames_eq
  have hcell9 : ((T.setVm vm').setFrames (.throwing q :: below)).heap[q]? = some ce := by
    show T.heap[q]? = some ce
    rw [hT]; exact hcell
  have hend : Ended ((T.setVm vm').setFrames (.throwing q :: below)) below (.threw q) := State.frames_setFrames _ (State.cur_lt_of_frames hfr)
  refine ⟨(T.setVm vm').setFrames (.throwing q :: below), ?_, .threw q, X'.here.running, hend, Or.inr ⟨q, rfl, E, ce, locs, hx _ hT (X'.ends _).1.alike, hcell9, hv, hcl, (X'.ends _).1, (X'.ends _).2.mono hc hs, hf⟩⟩
  rw [X.pushThrowing_eq]
  exact st
/-- a thing of a world lies in the heap -/
theorem vx_lt {D : va_G} {cl : List vw_C} {ws : va_W} {H1 : Heap} (h : va_P D cl ws H1) {k : Nat} {q : Nat × va_E} (hk : ws[k]? = some q) : q.1 < H1.size := (h k q hk).lt
end VXS
/-! ===== END ===== -/
/-! ===== BEGIN methods with a table of their own: called by a name, returning or throwing ===== -/
section VXH
/-! vx_backW, vx_callVX, vx_callSX, vx_callVW, vx_runVW, vx_runVX, vx_runSX, vx_ofWH follow the same proofs as their sisters above (Free/Laws.lean, Shelf42/LK1.lean); vx_outP calls Shelf42/NT130.lean (outThrough). -/
section
variable {l : Launch} {R : Room} {p : Program} {e : Env} {below : List Frame} {s : State} {sargs : Array Value} {y : MethodName} {len W9 : Nat}
theorem vx_backW {ws : List Cond} {rm : Room} {Pc : Array Value → State → Prop} {Qc : Array Value → State → Outcome → State → Prop} {XC : String → State → State → Prop} {mc ms : Nat} {free : Addr → Prop} {bytes : ByteArray} {maxL : Nat} {ret : Option FieldType} {hh : List (Nat × Nat × Nat × Nat)}
    (hM : vx_Met l y ws rm Pc Qc XC mc ms free) (hblind : FrameBlind Pc) (hrc : rm.cells = mc) (hrs : rm.slots = ms)
    (hframes : rm.frames + 1 ≤ R.frames) (hlocals : W9 + (maxL + 11) + rm.locals ≤ R.locals)
    (hws : ∀ w ∈ ws, ∀ a' U, s.WarmedH U.vm → w.before a' U = true) (hcode : Cond.codeWith y bytes maxL ret hh ∈ ws) (hinit : ∀ a' U, s.WarmedH U.vm → (Cond.initialized y.cls).before a' U = true) :
    vx_Back l R p e below s sargs y len W9 (PreOf R mc ms Pc) (PostOf Qc mc ms free) (vx_Post XC mc ms free) := by
  intro m meth c A g ig mk a X hg hsize hdg hW hn hp
  have h1 : (headSpec ws rm).pre.before a A.U = true := atoms_intro fun w hw => hws w hw _ _ X.warmed
  have h2 : (Cond.codeWith y bytes maxL ret hh).before a A.U = true := hws _ hcode _ _ X.warmed
  have h3 : (Cond.initialized y.cls).before a A.U = true := hinit _ _ X.warmed
  have h4 : A.cells + (headSpec ws rm).room.cells ≤ R.cells := by rw [show (headSpec ws rm).room.cells = mc from hrc]; exact hp.1
  have h5 : A.slots + (headSpec ws rm).room.slots ≤ R.slots := by rw [show (headSpec ws rm).room.slots = ms from hrs]; exact hp.2.1
  have hPc : Pc a (A.U.calling g mk a) := hblind _ _ _ _ hp.2.2
  obtain ⟨U, Ls, c0, s0⟩ := A
  dsimp only [Pt.U, Pt.locs, Pt.cells, Pt.slots] at h1 h2 h3 h4 h5 X hn hPc ⊢
  obtain ⟨m9, methY, cY, hn9, hmY, hcY, -, hlY, -⟩ := Cond.codeWith_spec h2
  cases Option.some.inj (hn9.symm.trans hn)
  obtain ⟨kY, hkY, -⟩ := className_of_methodNamed hn
  have hinitY : kY.init = .initialized := Cond.initialized_spec (findClass_of_methodNamed hn) hkY h3
  have h : At U g.method c below := by rw [hg]; exact X.here
  have hlocals9 : W9 + (maxL + 11) + (headSpec ws rm).room.locals ≤ R.locals := hlocals
  have happ : (headSpec ws rm).appliesLoose y e.platform (U.calling g mk a) = true :=
    Spec.appliesLoose_calling (g := g) h hdg hn hkY hinitY
      (X.room_calling (g := g) (R' := (headSpec ws rm).room) hsize hmY hcY hframes (by rw [hlY]; omega) h4 h5) h1
  obtain ⟨mid, hmid⟩ := h.above
  have hfr : (U.setTop g).frames = (.java g :: mid) ++ below := by rw [State.frames_setTop' g h.top, hmid]; rfl
  obtain ⟨o, s₂, hsteps, -, hend, hq⟩ := Steps.callFree hM p X.admits X.cas X.clock (acts := []) hfr happ hPc trivial
  have hq' : vx_Q Qc XC mc ms free a (U.calling g mk a) o s₂ := hq
  rw [State.frames_setTop' g h.top] at hend
  obtain ⟨g₀, hg0⟩ := Option.isSome_iff_exists.mp h.top
  obtain ⟨r, hr⟩ := State.topJava?_eq_some.mp hg0
  have hr' : (({ U with heap := s₂.heap, slotsUsed := s₂.slotsUsed } : State).setVm s₂.vm).frames = .java g₀ :: r := hr
  rcases hq' with ⟨hqc, L, hfe, hL⟩ | ⟨q, rfl, E, ce, L, hx, hce, hcv, hcl, hW₂, hsm, hL⟩
  · obtain ⟨⟨v, rfl⟩, hW₂, e2, q2, q3, q4, q5, q6⟩ := id hfe
    have e3 : s₂ = ({ (U.calling g mk a).setFrames s₂.frames with heap := s₂.heap, slotsUsed := s₂.slotsUsed } : State).setVm s₂.vm := by
      have : s₂ = ({ s₂ with vm := (U.calling g mk a).vm } : State).setVm s₂.vm := rfl
      rw [e2] at this
      exact this
    obtain ⟨c₂, i₂, len₂, hc₂, hd₂, hf₂⟩ := hend
    have hW' : U.WarmedH s₂.vm := hW₂
    have hcc : c₂ = c := by
      have h1 : s₂.code? g.method = U.code? g.method := by
        rw [State.code?_eq, State.code?_eq, hW'.alike.method?]
      exact Option.some.inj (hc₂.symm.trans (h1.trans h.code))
    subst hcc
    have hlen : len₂ = len := by rw [hdg] at hd₂; cases hd₂; rfl
    subst hlen
    have hs₂ : s₂ = (({ U with heap := s₂.heap, slotsUsed := s₂.slotsUsed } : State).setVm s₂.vm).setTop { g with pc := g.pc + len₂, stack := v.toList ++ g.stack } := by
      refine e3.trans ?_
      rw [hf₂, State.calling_eq h.top, State.setFrames_setFrames, State.setTop_of_frames _ hr', hr]
      rfl
    have hsame : U.sameButNew ({ U with heap := s₂.heap, slotsUsed := s₂.slotsUsed } : State) L mc ms := by
      refine ⟨?_, q2, q3, q4, q5, q6⟩
      obtain ⟨t, ht, -⟩ := State.frames_cons hr
      show ({ U with heap := s₂.heap, slotsUsed := s₂.slotsUsed } : State) = { U.setFrames U.frames with heap := s₂.heap, slotsUsed := s₂.slotsUsed }
      rw [State.setFrames_self ht]
    subst hg
    refine Or.inl ⟨v, ⟨(({ U with heap := s₂.heap, slotsUsed := s₂.slotsUsed } : State).setVm s₂.vm), Ls ++ L, c0 + mc, s0 + ms⟩,
      ⟨X.admits, X.cas, X.clock, X.frames, X.room, X.hears, X.method, X.code, (X.here.setHeapUsed s₂.heap s₂.slotsUsed).setVm hW'.alike, X.tail, State.WarmedH.trans X.warmed hW', X.limits, X.bytes, X.same.trans (hsame.setVm s.vm)⟩,
      ⟨g, mk, s₂, L, rfl, rfl, hqc, rfl, hL, rfl, rfl⟩, ?_⟩
    show Steps p.tables e below _ ((({ U with heap := s₂.heap, slotsUsed := s₂.slotsUsed } : State).setVm s₂.vm).setTop { g with pc := g.pc + len₂, stack := v.toList ++ g.stack })
    rw [← hs₂]
    exact hsteps
  · obtain ⟨e2, q2, q3, q4, q5, q6⟩ := id hsm
    have e3 : s₂ = ({ (U.calling g mk a).setFrames s₂.frames with heap := s₂.heap, slotsUsed := s₂.slotsUsed } : State).setVm s₂.vm := by
      have : s₂ = ({ s₂ with vm := (U.calling g mk a).vm } : State).setVm s₂.vm := rfl
      rw [e2] at this
      exact this
    have hf₂ : s₂.frames = .throwing q :: .java g :: U.frames.tail := hend
    have hW' : U.WarmedH s₂.vm := hW₂
    have hs₂ : s₂ = ((({ U with heap := s₂.heap, slotsUsed := s₂.slotsUsed } : State).setVm s₂.vm).setTop g).pushFrame (.throwing q) := by
      refine e3.trans ?_
      rw [hf₂, State.calling_eq h.top, State.setFrames_setFrames, State.pushFrame, State.frames_setTop _ hr', State.setTop_of_frames _ hr', State.setFrames_setFrames, hr]
      rfl
    have hsame : U.sameButNew ({ U with heap := s₂.heap, slotsUsed := s₂.slotsUsed } : State) L mc ms := by
      refine ⟨?_, q2, q3, q4, q5, q6⟩
      obtain ⟨t, ht, -⟩ := State.frames_cons hr
      show ({ U with heap := s₂.heap, slotsUsed := s₂.slotsUsed } : State) = { U.setFrames U.frames with heap := s₂.heap, slotsUsed := s₂.slotsUsed }
      rw [State.setFrames_self ht]
    subst hg
    refine Or.inr ⟨q, ⟨(({ U with heap := s₂.heap, slotsUsed := s₂.slotsUsed } : State).setVm s₂.vm), Ls ++ L, c0 + mc, s0 + ms⟩,
      ⟨X.admits, X.cas, X.clock, X.frames, X.room, X.hears, X.method, X.code, (X.here.setHeapUsed s₂.heap s₂.slotsUsed).setVm hW'.alike, X.tail, State.WarmedH.trans X.warmed hW', X.limits, X.bytes, X.same.trans (hsame.setVm s.vm)⟩,
      ⟨g, mk, s₂, L, E, ce, rfl, rfl, hx, hce, hcv, hcl, rfl, hL, rfl, rfl⟩, ?_⟩
    show Steps p.tables e below _ (((({ U with heap := s₂.heap, slotsUsed := s₂.slotsUsed } : State).setVm s₂.vm).setTop g).pushFrame (.throwing q))
    rw [← hs₂]
    exact hsteps
end
variable {p : Program} {l : Launch} {e : Env} {R : Room} {s : State} {m : MethodId} {args : Array Value} {below : List Frame} {meth : Method} {c : Code} {T : State} {H : Heap} {locs : List Loc} {cells slots : Nat}
theorem vx_callVX (X : Stand p l e R s m args below meth c T locs cells slots) (hexec : p.tables.exec = Jvm.exec) {own C : String} {index : Nat} {y : MethodName} {bytes : ByteArray} {maxL : Nat} {ret : Option FieldType} {hh : List (Nat × Nat × Nat × Nat)}
    (hown : s.vm.findClass own = some m.cls) (hlink : (Cond.methodLink own index y).before args s = true) (hinst : (Cond.instanceMethod y).before args s = true) (hsel : (Cond.selects C y y).before args s = true)
    (hcode : (Cond.codeWith y bytes maxL ret hh).before args s = true) (hy : y.cls ≠ "java/lang/invoke/MethodHandle" ∧ y.cls ≠ "java/lang/invoke/VarHandle")
    {W9 : Nat} {Pre : Pt → Array Value → Prop} {Post : Pt → Array Value → Option Value → Pt → Prop} {PostX : Pt → Array Value → Addr → Pt → Prop} (hK : vx_Back l R p e below s args y 3 W9 Pre Post PostX)
    {b : Addr} {cellB : Cell} (hcell : T.heap[b]? = some cellB) (hobj : cellB.vm.isStatics = false) (hcls : s.vm.findClass C = some cellB.cls)
    {g : JFrame} (hg : g.method = m) (hsize : g.locals.size = c.maxLocals) {argsL rest : List Value} (hlen : ∀ sig, parseMethodDescriptor y.desc = some sig → argsL.length = sig.parameters.length)
    (hstack : g.stack = argsL.reverse ++ .ref b :: rest) (hW : 2 * g.monitorRoom + (rest.map fun v => v.category).sum ≤ W9) (hdg : decode c.code g.pc = .ok (.invokevirtual index, 3))
    (hpre : ∀ vm₁, s.WarmedH vm₁ → Pre ⟨T.setVm vm₁, locs, cells, slots⟩ (Value.ref b :: argsL).toArray) :
    (∃ (v : Option Value) (vm₁ : Vm) (B : Pt), s.WarmedH vm₁ ∧ Stand p l e R s m args below meth c B.U B.locs B.cells B.slots ∧ Post ⟨T.setVm vm₁, locs, cells, slots⟩ (Value.ref b :: argsL).toArray v B ∧
      ∀ target, Steps p.tables e below (B.U.setTop { g with pc := g.pc + 3, stack := v.toList ++ rest }) target → Steps p.tables e below (T.setTop g) target) ∨
    (∃ (q : Addr) (vm₁ : Vm) (B : Pt), s.WarmedH vm₁ ∧ Stand p l e R s m args below meth c B.U B.locs B.cells B.slots ∧ PostX ⟨T.setVm vm₁, locs, cells, slots⟩ (Value.ref b :: argsL).toArray q B ∧
      Steps p.tables e below (T.setTop g) ((B.U.setTop { g with stack := rest }).pushFrame (.throwing q))) := by
  obtain ⟨mk, methM, hnamed, hmethM, hstM, habM⟩ := Cond.instanceMethod_spec hinst
  obtain ⟨m8, methM', cM, hn8, hmethM', -, -, -, -, -, -, hsigM⟩ := Cond.codeWith_spec hcode
  cases Option.some.inj (hn8.symm.trans hnamed)
  cases hmethM.symm.trans hmethM'
  obtain ⟨c2, r2, m2, q1, q2, q3, q4, kP, hkP, hkPi⟩ := Cond.selects_spec hsel
  cases hcls.symm.trans q1
  cases (State.methodFound?_of_named hnamed hy).symm.trans q2
  cases hnamed.symm.trans q3
  have hselP : selectMethod e.platform s.vm cellB.cls mk = .method mk := by rw [Launch.admits_selectMethod X.admits]; exact q4
  obtain ⟨vm₁, X₁, hstep₁⟩ := X.invokevirtual hexec hown hlink hnamed hmethM hstM hkP hkPi hy (a := b) (cell := cellB) hcell
    (fun z h => by rw [h] at hobj; cases hobj) hselP hmethM habM hkP hkPi (g := g) hg (argsL := argsL) (rest := rest) (hlen _ hsigM) hstack hdg
  rcases hK m meth c ⟨T.setVm vm₁, locs, cells, slots⟩ { g with stack := rest } (.invokevirtual index) mk (Value.ref b :: argsL).toArray X₁ hg hsize hdg hW (X₁.named hnamed) (hpre vm₁ X₁.warmed) with ⟨v, B, X', hpost, hsteps⟩ | ⟨q, B, X', hpost, hsteps⟩
  · exact Or.inl ⟨v, vm₁, B, X₁.warmed, X', hpost, fun target h => hstep₁ _ fun acts => by rw [doInvoke_state]; exact hsteps.trans h⟩
  · exact Or.inr ⟨q, vm₁, B, X₁.warmed, X', hpost, hstep₁ _ fun acts => by rw [doInvoke_state]; exact hsteps⟩
theorem vx_callSX (X : Stand p l e R s m args below meth c T locs cells slots) (hexec : p.tables.exec = Jvm.exec) {own : String} {index : Nat} {y : MethodName} {bytes : ByteArray} {maxL : Nat} {ret : Option FieldType} {hh : List (Nat × Nat × Nat × Nat)}
    (hown : s.vm.findClass own = some m.cls) (hlink : (Cond.methodLink own index y).before args s = true) (hstat : (Cond.static y).before args s = true) (hinit : (Cond.initialized y.cls).before args s = true)
    (hcode : (Cond.codeWith y bytes maxL ret hh).before args s = true) (hy : y.cls ≠ "java/lang/invoke/MethodHandle" ∧ y.cls ≠ "java/lang/invoke/VarHandle")
    {W9 : Nat} {Pre : Pt → Array Value → Prop} {Post : Pt → Array Value → Option Value → Pt → Prop} {PostX : Pt → Array Value → Addr → Pt → Prop} (hK : vx_Back l R p e below s args y 3 W9 Pre Post PostX)
    {g : JFrame} (hg : g.method = m) (hsize : g.locals.size = c.maxLocals) {argsL rest : List Value} (hlen : ∀ sig, parseMethodDescriptor y.desc = some sig → argsL.length = sig.parameters.length)
    (hstack : g.stack = argsL.reverse ++ rest) (hW : 2 * g.monitorRoom + (rest.map fun v => v.category).sum ≤ W9) (hdg : decode c.code g.pc = .ok (.invokestatic index, 3))
    (hpre : ∀ vm₁, s.WarmedH vm₁ → Pre ⟨T.setVm vm₁, locs, cells, slots⟩ argsL.toArray) :
    (∃ (v : Option Value) (vm₁ : Vm) (B : Pt), s.WarmedH vm₁ ∧ Stand p l e R s m args below meth c B.U B.locs B.cells B.slots ∧ Post ⟨T.setVm vm₁, locs, cells, slots⟩ argsL.toArray v B ∧
      ∀ target, Steps p.tables e below (B.U.setTop { g with pc := g.pc + 3, stack := v.toList ++ rest }) target → Steps p.tables e below (T.setTop g) target) ∨
    (∃ (q : Addr) (vm₁ : Vm) (B : Pt), s.WarmedH vm₁ ∧ Stand p l e R s m args below meth c B.U B.locs B.cells B.slots ∧ PostX ⟨T.setVm vm₁, locs, cells, slots⟩ argsL.toArray q B ∧
      Steps p.tables e below (T.setTop g) ((B.U.setTop { g with stack := rest }).pushFrame (.throwing q))) := by
  obtain ⟨mk, methM, cM, hnamed, hmethM, -, -, -, -, -, -, hsigM⟩ := Cond.codeWith_spec hcode
  have hstatic : methM.isStatic = true := Cond.static_spec hnamed hmethM hstat
  obtain ⟨kP, hkP, -⟩ := className_of_methodNamed hnamed
  have hinitP : kP.init = .initialized := Cond.initialized_spec (findClass_of_methodNamed hnamed) hkP hinit
  obtain ⟨vm₁, X₁, hstep₁⟩ := X.invokestatic hexec hown hlink hnamed hmethM hstatic hkP hinitP hy (g := g) hg (argsL := argsL) (rest := rest) (hlen _ hsigM) hstack hdg
  rcases hK m meth c ⟨T.setVm vm₁, locs, cells, slots⟩ { g with stack := rest } (.invokestatic index) mk argsL.toArray X₁ hg hsize hdg hW (X₁.named hnamed) (hpre vm₁ X₁.warmed) with ⟨v, B, X', hpost, hsteps⟩ | ⟨q, B, X', hpost, hsteps⟩
  · exact Or.inl ⟨v, vm₁, B, X₁.warmed, X', hpost, fun target h => hstep₁ _ fun acts => by rw [doInvoke_state]; exact hsteps.trans h⟩
  · exact Or.inr ⟨q, vm₁, B, X₁.warmed, X', hpost, hstep₁ _ fun acts => by rw [doInvoke_state]; exact hsteps⟩
theorem vx_callVW (X : Stand p l e R s m args below meth c T locs cells slots) (hexec : p.tables.exec = Jvm.exec) {own C : String} {index : Nat} {y : MethodName} {bytes : ByteArray} {maxL : Nat} {ret : Option FieldType} {hh : List (Nat × Nat × Nat × Nat)}
    (hown : s.vm.findClass own = some m.cls) (hlink : (Cond.methodLink own index y).before args s = true) (hinst : (Cond.instanceMethod y).before args s = true) (hsel : (Cond.selects C y y).before args s = true)
    (hcode : (Cond.codeWith y bytes maxL ret hh).before args s = true) (hy : y.cls ≠ "java/lang/invoke/MethodHandle" ∧ y.cls ≠ "java/lang/invoke/VarHandle")
    {W9 : Nat} {Pre : Pt → Array Value → Prop} {Post : Pt → Array Value → Option Value → Pt → Prop} (hK : Back l R p e below s args y 3 W9 Pre Post)
    {b : Addr} {cellB : Cell} (hcell : T.heap[b]? = some cellB) (hobj : cellB.vm.isStatics = false) (hcls : s.vm.findClass C = some cellB.cls)
    {g : JFrame} (hg : g.method = m) (hsize : g.locals.size = c.maxLocals) {argsL rest : List Value} (hlen : ∀ sig, parseMethodDescriptor y.desc = some sig → argsL.length = sig.parameters.length)
    (hstack : g.stack = argsL.reverse ++ .ref b :: rest) (hW : 2 * g.monitorRoom + (rest.map fun v => v.category).sum ≤ W9) (hdg : decode c.code g.pc = .ok (.invokevirtual index, 3))
    (hpre : ∀ vm₁, s.WarmedH vm₁ → Pre ⟨T.setVm vm₁, locs, cells, slots⟩ (Value.ref b :: argsL).toArray) :
    ∃ (v : Option Value) (vm₁ : Vm) (B : Pt), s.WarmedH vm₁ ∧ Stand p l e R s m args below meth c B.U B.locs B.cells B.slots ∧ Post ⟨T.setVm vm₁, locs, cells, slots⟩ (Value.ref b :: argsL).toArray v B ∧
      ∀ target, Steps p.tables e below (B.U.setTop { g with pc := g.pc + 3, stack := v.toList ++ rest }) target → Steps p.tables e below (T.setTop g) target := by
  obtain ⟨mk, methM, hnamed, hmethM, hstM, habM⟩ := Cond.instanceMethod_spec hinst
  obtain ⟨m8, methM', cM, hn8, hmethM', -, -, -, -, -, -, hsigM⟩ := Cond.codeWith_spec hcode
  cases Option.some.inj (hn8.symm.trans hnamed)
  cases hmethM.symm.trans hmethM'
  obtain ⟨c2, r2, m2, q1, q2, q3, q4, kP, hkP, hkPi⟩ := Cond.selects_spec hsel
  cases hcls.symm.trans q1
  cases (State.methodFound?_of_named hnamed hy).symm.trans q2
  cases hnamed.symm.trans q3
  have hselP : selectMethod e.platform s.vm cellB.cls mk = .method mk := by rw [Launch.admits_selectMethod X.admits]; exact q4
  obtain ⟨vm₁, X₁, hstep₁⟩ := X.invokevirtual hexec hown hlink hnamed hmethM hstM hkP hkPi hy (a := b) (cell := cellB) hcell
    (fun z h => by rw [h] at hobj; cases hobj) hselP hmethM habM hkP hkPi (g := g) hg (argsL := argsL) (rest := rest) (hlen _ hsigM) hstack hdg
  obtain ⟨v, B, X', hpost, hsteps⟩ := hK m meth c ⟨T.setVm vm₁, locs, cells, slots⟩ { g with stack := rest } (.invokevirtual index) mk (Value.ref b :: argsL).toArray X₁ hg hsize hdg hW (X₁.named hnamed) (hpre vm₁ X₁.warmed)
  exact ⟨v, vm₁, B, X₁.warmed, X', hpost, fun target h => hstep₁ _ fun acts => by rw [doInvoke_state]; exact hsteps.trans h⟩
abbrev vx_CVW (R : Room) (s : State) (args : Array Value) (own C : String) (index : Nat) (y : MethodName) (bytes : ByteArray) (maxL : Nat) (ret : Option FieldType) (hh : List (Nat × Nat × Nat × Nat)) (ws : List Cond) (rm : Room) (mc ms n : Nat) : Prop :=
  (rm.cells = mc ∧ rm.slots = ms ∧ rm.frames + 1 ≤ R.frames ∧ 8 + (maxL + 11) + rm.locals ≤ R.locals ∧ (∀ w ∈ ws, ∀ (a' : Array Value) (U : State), s.WarmedH U.vm → w.before a' U = true) ∧ Cond.codeWith y bytes maxL ret hh ∈ ws) ∧
  (Cond.codeWith y bytes maxL ret hh).before args s = true ∧ (Cond.initialized y.cls).before args s = true ∧ (y.cls ≠ "java/lang/invoke/MethodHandle" ∧ y.cls ≠ "java/lang/invoke/VarHandle") ∧
  (∀ sig, parseMethodDescriptor y.desc = some sig → n = sig.parameters.length) ∧ (Cond.methodLink own index y).before args s = true ∧ (Cond.instanceMethod y).before args s = true ∧ (Cond.selects C y y).before args s = true
theorem vx_cwVW {own C : String} {index maxL mc ms : Nat} {y : MethodName} {bytes : ByteArray} {ret : Option FieldType} {hh : List (Nat × Nat × Nat × Nat)} {Ts ws ws' : List Cond} {rm : Room} (n : Nat) (ht : ∀ w ∈ Ts, w.before args s = true) (hT : GoodIn Ts (wsV own index C y ws)) (hw : ws = Cond.codeWith y bytes maxL ret hh :: ws') (hrc : rm.cells = mc) (hrs : rm.slots = ms)
    (hd : y.cls = C ∧ y.cls ≠ "java/lang/invoke/MethodHandle" ∧ y.cls ≠ "java/lang/invoke/VarHandle" ∧ (parseMethodDescriptor y.desc).map (fun d => d.parameters.length) = some n) (hR : rm.frames + 1 ≤ R.frames ∧ 8 + (maxL + 11) + rm.locals ≤ R.locals) :
    vx_CVW R s args own C index y bytes maxL ret hh ws rm mc ms n := by
  obtain ⟨hC, hd⟩ := hd
  subst hC
  have ok : ∀ w ∈ wsV own index y.cls y ws, w.before args s = true := fun w h => ht w (hT w h).1
  have hG : GoodIn Ts ws := fun w h => hT w (by unfold wsV; exact List.mem_append_right _ h)
  have hc : Cond.codeWith y bytes maxL ret hh ∈ ws := by rw [hw]; exact List.mem_cons_self
  refine ⟨⟨hrc, hrs, hR.1, hR.2, pay_in ht hG, hc⟩, ht _ (hG _ hc).1, ok _ (by simp [wsV]), ⟨hd.1, hd.2.1⟩, fun sig h => ?_, ok _ (by simp [wsV]), ok _ (by simp [wsV]), ok _ (by simp [wsV])⟩
  have h2 := hd.2.2
  rw [h] at h2
  exact (Option.some.inj h2).symm
theorem vx_runVW {y : MethodName} {bytes cc : ByteArray} {maxL nL mc ms n index : Nat} {ret : Option FieldType} {hh : List (Nat × Nat × Nat × Nat)} {ws : List Cond} {rm : Room} {Pc : Array Value → State → Prop} {Qc : Array Value → State → Outcome → State → Prop} {free : Addr → Prop} {Ts : List Cond} {own C : String} {b : Addr} {As rest : List Value} {g : JFrame}
    (S : CallFix p m c cc nL s args Ts own) (hM : Met l y ws rm Pc Qc mc ms free) (cw : vx_CVW R s args own C index y bytes maxL ret hh ws rm mc ms n) (hp : PreV s H C b Pc As)
    (hg : g.method = m) (hn : As.length = n) (hsize : g.locals.size = nL) (hstack : g.stack = As.reverse ++ .ref b :: rest) (hW : 2 * g.monitorRoom + (rest.map fun v => v.category).sum ≤ 8) (hdg : decode cc g.pc = .ok (.invokevirtual index, 3)) (hf : cells + mc ≤ R.cells ∧ slots + ms ≤ R.slots) :
    va_Run p l e R s m args below meth c H locs cells slots mc ms g rest (Qc (Value.ref b :: As).toArray) free := by
  obtain ⟨⟨hrc, hrs, hfr, hlo, hws, hcw⟩, hcode, hini, hy, hlen, hl, hin, hse⟩ := cw
  have hK : Back l R p e below s args y 3 8 (PreOf R mc ms Pc) (PostOf Qc mc ms free) := va_backW (hh := hh) (bytes := bytes) (maxL := maxL) (ret := ret) hM hp.1 hrc hrs hfr hlo hws hcw (fun a' U hW => word_at hW (Or.inl (by first | rfl | simp [Cond.onTables, Cond.keeps, Cond.steady])) hini)
  obtain ⟨hx, hb, hml, ho, -⟩ := S
  obtain ⟨-, ⟨cellB, hcB, hoB, hclB⟩, hPc⟩ := hp
  intro T hT X
  obtain ⟨v, vm₁, ⟨U', l2, c2, s2⟩, hW₁, X', ⟨g', mk, t, L, e1, e2, hq, h1, hL, h2, h3⟩, st⟩ := vx_callVW X hx (C := C) (hh := hh) (bytes := bytes) (maxL := maxL) (ret := ret) ho hl hin hse hcode hy hK (by rw [hT]; exact hcB) hoB hclB hg (hsize.trans hml.symm) (argsL := As) (rest := rest) (fun sig h => hn.trans (hlen sig h)) hstack hW (by rw [hb]; exact hdg)
    (fun vm₁ hW₁ => ⟨hf.1, hf.2, hPc (T.setVm vm₁) hT hW₁⟩)
  dsimp only [Pt.U, Pt.locs, Pt.cells, Pt.slots] at X' e1 e2 h1 h2 h3 st
  subst h1; subst h2; subst h3
  exact ⟨v, (T.setVm vm₁).calling g' mk (Value.ref b :: As).toArray, t, U', L, hT, X', hL, e1, e2, hq, st⟩
section
variable {y : MethodName} {bytes cc : ByteArray} {maxL nL mc ms n index : Nat} {ret : Option FieldType} {ws : List Cond} {rm : Room} {Pc : Array Value → State → Prop} {Qc : Array Value → State → Outcome → State → Prop} {XC : String → State → State → Prop} {free : Addr → Prop} {Ts : List Cond} {own C : String} {b : Addr} {As rest : List Value} {g : JFrame}
theorem vx_runVX {hh : List (Nat × Nat × Nat × Nat)} (S : CallFix p m c cc nL s args Ts own) (hM : vx_Met l y ws rm Pc Qc XC mc ms free) (cw : vx_CVW R s args own C index y bytes maxL ret hh ws rm mc ms n) (hp : PreV s H C b Pc As)
    (hg : g.method = m) (hn : As.length = n) (hsize : g.locals.size = nL) (hstack : g.stack = As.reverse ++ .ref b :: rest) (hW : 2 * g.monitorRoom + (rest.map fun v => v.category).sum ≤ 8) (hdg : decode cc g.pc = .ok (.invokevirtual index, 3)) (hf : cells + mc ≤ R.cells ∧ slots + ms ≤ R.slots) :
    vx_Run p l e R s m args below meth c H locs cells slots mc ms g rest (Qc (Value.ref b :: As).toArray) XC free := by
  obtain ⟨⟨hrc, hrs, hfr, hlo, hws, hcw⟩, hcode, hini, hy, hlen, hl, hin, hse⟩ := cw
  have hK : vx_Back l R p e below s args y 3 8 (PreOf R mc ms Pc) (PostOf Qc mc ms free) (vx_Post XC mc ms free) := vx_backW (hh := hh) (bytes := bytes) (maxL := maxL) (ret := ret) hM hp.1 hrc hrs hfr hlo hws hcw (fun a' U hW => word_at hW (Or.inl (by first | rfl | simp [Cond.onTables, Cond.keeps, Cond.steady])) hini)
  obtain ⟨hx, hb, hml, ho, -⟩ := S
  obtain ⟨-, ⟨cellB, hcB, hoB, hclB⟩, hPc⟩ := hp
  intro T hT X
  rcases vx_callVX X hx (C := C) (hh := hh) (bytes := bytes) (maxL := maxL) (ret := ret) ho hl hin hse hcode hy hK (by rw [hT]; exact hcB) hoB hclB hg (hsize.trans hml.symm) (argsL := As) (rest := rest) (fun sig h => hn.trans (hlen sig h)) hstack hW (by rw [hb]; exact hdg)
    (fun vm₁ hW₁ => ⟨hf.1, hf.2, hPc (T.setVm vm₁) hT hW₁⟩) with ⟨v, vm₁, ⟨U', l2, c2, s2⟩, hW₁, X', ⟨g', mk, t, L, e1, e2, hq, h1, hL, h2, h3⟩, st⟩ | ⟨q, vm₁, ⟨U', l2, c2, s2⟩, hW₁, X', ⟨g', mk, t, L, E, ce, e1, e2, hq, hce, hcv, hcl, h1, hL, h2, h3⟩, st⟩
  · dsimp only [Pt.U, Pt.locs, Pt.cells, Pt.slots] at X' e1 e2 h1 h2 h3 st
    subst h1; subst h2; subst h3
    exact Or.inl ⟨v, (T.setVm vm₁).calling g' mk (Value.ref b :: As).toArray, t, U', L, hT, X', hL, e1, e2, hq, st⟩
  · dsimp only [Pt.U, Pt.locs, Pt.cells, Pt.slots] at X' e1 e2 h1 h2 h3 st hcl
    subst h1; subst h2; subst h3
    exact Or.inr ⟨q, (T.setVm vm₁).calling g' mk (Value.ref b :: As).toArray, t, U', L, E, ce, hT, X', hL, e1, e2, hq, hce, hcv, vx_cls hW₁ hcl, st⟩
theorem vx_runSX {hh : List (Nat × Nat × Nat × Nat)} (S : CallFix p m c cc nL s args Ts own) (hM : vx_Met l y ws rm Pc Qc XC mc ms free) (cw : vx_CSW R s args own index y bytes maxL ret hh ws rm mc ms n) (hp : PreS s H Pc As)
    (hg : g.method = m) (hn : As.length = n) (hsize : g.locals.size = nL) (hstack : g.stack = As.reverse ++ rest) (hW : 2 * g.monitorRoom + (rest.map fun v => v.category).sum ≤ 8) (hdg : decode cc g.pc = .ok (.invokestatic index, 3)) (hf : cells + mc ≤ R.cells ∧ slots + ms ≤ R.slots) :
    vx_Run p l e R s m args below meth c H locs cells slots mc ms g rest (Qc As.toArray) XC free := by
  obtain ⟨⟨hrc, hrs, hfr, hlo, hws, hcw⟩, hcode, hini, hy, hlen, hl, hstt⟩ := cw
  have hK : vx_Back l R p e below s args y 3 8 (PreOf R mc ms Pc) (PostOf Qc mc ms free) (vx_Post XC mc ms free) := vx_backW (hh := hh) (bytes := bytes) (maxL := maxL) (ret := ret) hM hp.1 hrc hrs hfr hlo hws hcw (fun a' U hW => word_at hW (Or.inl (by first | rfl | simp [Cond.onTables, Cond.keeps, Cond.steady])) hini)
  obtain ⟨hx, hb, hml, ho, -⟩ := S
  intro T hT X
  rcases vx_callSX X hx (hh := hh) (bytes := bytes) (maxL := maxL) (ret := ret) ho hl hstt hini hcode hy hK hg (hsize.trans hml.symm) (argsL := As) (rest := rest) (fun sig h => hn.trans (hlen sig h)) hstack hW (by rw [hb]; exact hdg)
    (fun vm₁ hW₁ => ⟨hf.1, hf.2, hp.2 (T.setVm vm₁) hT hW₁⟩) with ⟨v, vm₁, ⟨U', l2, c2, s2⟩, hW₁, X', ⟨g', mk, t, L, e1, e2, hq, h1, hL, h2, h3⟩, st⟩ | ⟨q, vm₁, ⟨U', l2, c2, s2⟩, hW₁, X', ⟨g', mk, t, L, E, ce, e1, e2, hq, hce, hcv, hcl, h1, hL, h2, h3⟩, st⟩
  · dsimp only [Pt.U, Pt.locs, Pt.cells, Pt.slots] at X' e1 e2 h1 h2 h3 st
    subst h1; subst h2; subst h3
    exact Or.inl ⟨v, (T.setVm vm₁).calling g' mk As.toArray, t, U', L, hT, X', hL, e1, e2, hq, st⟩
  · dsimp only [Pt.U, Pt.locs, Pt.cells, Pt.slots] at X' e1 e2 h1 h2 h3 st hcl
    subst h1; subst h2; subst h3
    exact Or.inr ⟨q, (T.setVm vm₁).calling g' mk As.toArray, t, U', L, E, ce, hT, X', hL, e1, e2, hq, hce, hcv, vx_cls hW₁ hcl, st⟩
end
end VXH
theorem vx_ofWH {l : Launch} {y : MethodName} {ws ws' : List Cond} {rm : Room} {Pc : Array Value → State → Prop} {Qc : Array Value → State → Outcome → State → Prop} {XC : String → State → State → Prop} {mc ms : Nat} {free : Addr → Prop} {cc : ByteArray} {maxL : Nat} {ret : Option FieldType} {hh : List (Nat × Nat × Nat × Nat)}
    (hy : plainName y.cls = true) (hw : ws = Cond.codeWith y cc maxL ret hh :: ws')
    (body : ∀ p e s m args below meth c s₁, BodyLoose p l y (headSpec ws rm) cc maxL ret e s m args below meth c s₁ → c.maxLocals = maxL → Pc args s →
      W p l e (headSpec ws rm).room s m args below meth c s.heap [] 0 0 (vx_MQ below Qc XC args s mc ms free) (entryFrame m args maxL)) : vx_Met l y ws rm Pc Qc XC mc ms free := by
  refine MetFree.of_bodyS (code := cc) (maxLocals := maxL) (ret := ret) hy ?_ ?_
  · intro args s m h hn
    obtain ⟨m9, meth, c, hn9, h1, h2, h3, h4, -, h5, h6, -⟩ := Cond.codeWith_spec (atoms_spec (ws := ws) h _ (by rw [hw]; exact List.mem_cons_self))
    cases hn.symm.trans hn9
    exact ⟨meth, c, h1, h2, h3, h4, h5, h6⟩
  · intro p e s m args below meth c s₁ B hml hP _
    have hh0 : s₁.heap = s.heap := by rw [B.state]; rfl
    obtain ⟨t, a1, o, b1, b2, b3⟩ := body p e s m args below meth c s₁ B hml hP s₁ hh0 (Stand.of_body B)
    exact ⟨t, o, a1, b1, b2, b3⟩
/-! ===== END ===== -/
end
section
/-! ===== BEGIN printed: names, fields, word lists, decode rows ===== -/
def RX0 : String := "ApologyLedger"
def TX0 : u_T := fun k => match k with
  | 0 => ("ApologyLedger", "prides", "[I", true)
  | 1 => ("ApologyLedger", "present", "[Z", true)
  | 2 => ("ApologyLedger", "personCount", "I", false)
  | 3 => ("ApologyLedger", "offenders", "[I", true)
  | 4 => ("ApologyLedger", "offendedOnes", "[I", true)
  | 5 => ("ApologyLedger", "weights", "[I", true)
  | 6 => ("ApologyLedger", "states", "[I", true)
  | 7 => ("ApologyLedger", "daysBorne", "[I", true)
  | 8 => ("ApologyLedger", "daysQuiet", "[I", true)
  | 9 => ("ApologyLedger", "slightCount", "I", false)
  | 10 => ("ApologyLedger", "today", "I", false)
  | _ => ("ApologyLedger", "scornedCount", "I", false)
def tyX0 : Nat → FieldType := fun k => match k with
  | 0 => .array .int
  | 1 => .array .boolean
  | 2 => .int
  | 3 => .array .int
  | 4 => .array .int
  | 5 => .array .int
  | 6 => .array .int
  | 7 => .array .int
  | 8 => .array .int
  | 9 => .int
  | 10 => .int
  | _ => .int
abbrev wsX00 : List Cond := u_ws RX0 TX0 12
theorem nmX0 : ∀ a, a < 12 → ∀ b, b < 12 → a ≠ b → (TX0 a).2.1 ≠ (TX0 b).2.1 := by decide +kernel
theorem tyX0_ok : ∀ k, k < 12 → parseFieldDescriptor (TX0 k).2.2.1 = some (tyX0 k) := by decide +kernel
abbrev cX0_init : ByteArray := prog_1_method_1_code
def yX0_init : MethodName := ⟨RX0, "<init>", "()V"⟩
abbrev cX0_addPerson : ByteArray := prog_1_method_2_code
def yX0_addPerson : MethodName := ⟨RX0, "addPerson", "(I)I"⟩
abbrev cX0_enter : ByteArray := prog_1_method_3_code
def yX0_enter : MethodName := ⟨RX0, "enter", "(I)Z"⟩
abbrev cX0_slight : ByteArray := prog_1_method_4_code
def yX0_slight : MethodName := ⟨RX0, "slight", "(III)I"⟩
abbrev cX0_mention : ByteArray := prog_1_method_5_code
def yX0_mention : MethodName := ⟨RX0, "mention", "(I)I"⟩
abbrev cX0_apologize : ByteArray := prog_1_method_6_code
def yX0_apologize : MethodName := ⟨RX0, "apologize", "(II)I"⟩
abbrev cX0_setOff : ByteArray := prog_1_method_7_code
def yX0_setOff : MethodName := ⟨RX0, "setOff", "(II)I"⟩
abbrev cX0_setPride : ByteArray := prog_1_method_8_code
def yX0_setPride : MethodName := ⟨RX0, "setPride", "(II)I"⟩
abbrev cX0_pass : ByteArray := prog_1_method_9_code
def yX0_pass : MethodName := ⟨RX0, "pass", "(I)I"⟩
abbrev cX0_day : ByteArray := prog_1_method_10_code
def yX0_day : MethodName := ⟨RX0, "day", "()I"⟩
abbrev cX0_persons : ByteArray := prog_1_method_11_code
def yX0_persons : MethodName := ⟨RX0, "persons", "()I"⟩
abbrev cX0_slights : ByteArray := prog_1_method_12_code
def yX0_slights : MethodName := ⟨RX0, "slights", "()I"⟩
abbrev cX0_inHall : ByteArray := prog_1_method_13_code
def yX0_inHall : MethodName := ⟨RX0, "inHall", "()I"⟩
abbrev cX0_scorned : ByteArray := prog_1_method_14_code
def yX0_scorned : MethodName := ⟨RX0, "scorned", "()I"⟩
abbrev cX0_isInHall : ByteArray := prog_1_method_15_code
def yX0_isInHall : MethodName := ⟨RX0, "isInHall", "(I)Z"⟩
abbrev cX0_prideOf : ByteArray := prog_1_method_16_code
def yX0_prideOf : MethodName := ⟨RX0, "prideOf", "(I)I"⟩
abbrev cX0_borneBy : ByteArray := prog_1_method_17_code
def yX0_borneBy : MethodName := ⟨RX0, "borneBy", "(I)I"⟩
abbrev cX0_owedBy : ByteArray := prog_1_method_18_code
def yX0_owedBy : MethodName := ⟨RX0, "owedBy", "(I)I"⟩
abbrev cX0_balance : ByteArray := prog_1_method_19_code
def yX0_balance : MethodName := ⟨RX0, "balance", "(II)I"⟩
abbrev cX0_sorest : ByteArray := prog_1_method_20_code
def yX0_sorest : MethodName := ⟨RX0, "sorest", "()I"⟩
abbrev cX0_offenderOf : ByteArray := prog_1_method_21_code
def yX0_offenderOf : MethodName := ⟨RX0, "offenderOf", "(I)I"⟩
abbrev cX0_offendedOf : ByteArray := prog_1_method_22_code
def yX0_offendedOf : MethodName := ⟨RX0, "offendedOf", "(I)I"⟩
abbrev cX0_weightOf : ByteArray := prog_1_method_23_code
def yX0_weightOf : MethodName := ⟨RX0, "weightOf", "(I)I"⟩
abbrev cX0_stateOf : ByteArray := prog_1_method_24_code
def yX0_stateOf : MethodName := ⟨RX0, "stateOf", "(I)I"⟩
abbrev cX0_borneFor : ByteArray := prog_1_method_25_code
def yX0_borneFor : MethodName := ⟨RX0, "borneFor", "(I)I"⟩
abbrev cX0_quietFor : ByteArray := prog_1_method_26_code
def yX0_quietFor : MethodName := ⟨RX0, "quietFor", "(I)I"⟩
abbrev cX0_witnessesFor : ByteArray := prog_1_method_27_code
def yX0_witnessesFor : MethodName := ⟨RX0, "witnessesFor", "(I)I"⟩
abbrev cX0_inState : ByteArray := prog_1_method_28_code
def yX0_inState : MethodName := ⟨RX0, "inState", "(I)I"⟩
abbrev cX0_heaviest : ByteArray := prog_1_method_29_code
def yX0_heaviest : MethodName := ⟨RX0, "heaviest", "()I"⟩
abbrev cX0_pairsToSetOff : ByteArray := prog_1_method_30_code
def yX0_pairsToSetOff : MethodName := ⟨RX0, "pairsToSetOff", "()I"⟩
abbrev cX0_wordsWanted : ByteArray := prog_1_method_31_code
def yX0_wordsWanted : MethodName := ⟨RX0, "wordsWanted", "(I)I"⟩
abbrev cX0_wouldBeScorned : ByteArray := prog_1_method_32_code
def yX0_wouldBeScorned : MethodName := ⟨RX0, "wouldBeScorned", "(II)Z"⟩
abbrev cX0_weightIn : ByteArray := prog_1_method_33_code
def yX0_weightIn : MethodName := ⟨RX0, "weightIn", "(II)I"⟩
abbrev cX0_daysUntilForgotten : ByteArray := prog_1_method_34_code
def yX0_daysUntilForgotten : MethodName := ⟨RX0, "daysUntilForgotten", "(I)I"⟩
abbrev cX0_borneIn : ByteArray := prog_1_method_35_code
def yX0_borneIn : MethodName := ⟨RX0, "borneIn", "(II)I"⟩
abbrev cX0_worstToKeep : ByteArray := prog_1_method_36_code
def yX0_worstToKeep : MethodName := ⟨RX0, "worstToKeep", "(I)I"⟩
abbrev cX0_meanWeight : ByteArray := prog_1_method_37_code
def yX0_meanWeight : MethodName := ⟨RX0, "meanWeight", "()D"⟩
abbrev cX0_digest : ByteArray := prog_1_method_38_code
def yX0_digest : MethodName := ⟨RX0, "digest", "()J"⟩
abbrev cX0_requirePerson : ByteArray := prog_1_method_39_code
def yX0_requirePerson : MethodName := ⟨RX0, "requirePerson", "(I)V"⟩
abbrev cX0_requireSlight : ByteArray := prog_1_method_40_code
def yX0_requireSlight : MethodName := ⟨RX0, "requireSlight", "(I)V"⟩
abbrev cX0_requireOpen : ByteArray := prog_1_method_41_code
def yX0_requireOpen : MethodName := ⟨RX0, "requireOpen", "(I)V"⟩
abbrev cX0_requirePride : ByteArray := prog_1_method_42_code
def yX0_requirePride : MethodName := ⟨RX0, "requirePride", "(I)V"⟩
abbrev cX0_requireWords : ByteArray := prog_1_method_43_code
def yX0_requireWords : MethodName := ⟨RX0, "requireWords", "(I)V"⟩
abbrev cX0_requireDays : ByteArray := prog_1_method_44_code
def yX0_requireDays : MethodName := ⟨RX0, "requireDays", "(I)V"⟩
abbrev cX0_speakOf : ByteArray := prog_1_method_45_code
def yX0_speakOf : MethodName := ⟨RX0, "speakOf", "(I)V"⟩
abbrev cX0_lighten : ByteArray := prog_1_method_46_code
def yX0_lighten : MethodName := ⟨RX0, "lighten", "(III)V"⟩
abbrev cX0_close : ByteArray := prog_1_method_47_code
def yX0_close : MethodName := ⟨RX0, "close", "(II)V"⟩
abbrev cX0_passOneDay : ByteArray := prog_1_method_48_code
def yX0_passOneDay : MethodName := ⟨RX0, "passOneDay", "()I"⟩
abbrev cX0_bearOneDay : ByteArray := prog_1_method_49_code
def yX0_bearOneDay : MethodName := ⟨RX0, "bearOneDay", "(I)V"⟩
abbrev cX0_weightWhenBorne : ByteArray := prog_1_method_50_code
def yX0_weightWhenBorne : MethodName := ⟨RX0, "weightWhenBorne", "(II)I"⟩
abbrev cX0_worthOf : ByteArray := prog_1_method_51_code
def yX0_worthOf : MethodName := ⟨RX0, "worthOf", "(II)I"⟩
abbrev cX0_leastWorthHeard : ByteArray := prog_1_method_52_code
def yX0_leastWorthHeard : MethodName := ⟨RX0, "leastWorthHeard", "(I)I"⟩
abbrev cX0_areAgainstEachOther : ByteArray := prog_1_method_53_code
def yX0_areAgainstEachOther : MethodName := ⟨RX0, "areAgainstEachOther", "(II)Z"⟩
abbrev cX0_weightBetween : ByteArray := prog_1_method_54_code
def yX0_weightBetween : MethodName := ⟨RX0, "weightBetween", "(II)I"⟩
abbrev cX0_digestWith : ByteArray := prog_1_method_55_code
def yX0_digestWith : MethodName := ⟨RX0, "digestWith", "(JJ)J"⟩
abbrev cX0_digestOfTheWhole : ByteArray := prog_1_method_56_code
def yX0_digestOfTheWhole : MethodName := ⟨RX0, "digestOfTheWhole", "(J)J"⟩
abbrev cX0_digestOfPerson : ByteArray := prog_1_method_57_code
def yX0_digestOfPerson : MethodName := ⟨RX0, "digestOfPerson", "(JI)J"⟩
abbrev cX0_digestOfSlight : ByteArray := prog_1_method_58_code
def yX0_digestOfSlight : MethodName := ⟨RX0, "digestOfSlight", "(JI)J"⟩
def RX1 : String := "ApologyLedgerModel"
def TX1 : u_T := fun k => match k with
  | 0 => ("ApologyLedgerModel", "thrown", "I", false)
  | 1 => ("ApologyLedgerModel", "day", "I", false)
  | 2 => ("ApologyLedgerModel", "scorned", "I", false)
  | 3 => ("ApologyLedgerModel", "persons", "I", false)
  | 4 => ("ApologyLedgerModel", "pride", "[I", true)
  | 5 => ("ApologyLedgerModel", "isHere", "[Z", true)
  | 6 => ("ApologyLedgerModel", "slights", "I", false)
  | 7 => ("ApologyLedgerModel", "by", "[I", true)
  | 8 => ("ApologyLedgerModel", "against", "[I", true)
  | 9 => ("ApologyLedgerModel", "weight", "[I", true)
  | 10 => ("ApologyLedgerModel", "state", "[I", true)
  | 11 => ("ApologyLedgerModel", "borne", "[I", true)
  | _ => ("ApologyLedgerModel", "quiet", "[I", true)
def tyX1 : Nat → FieldType := fun k => match k with
  | 0 => .int
  | 1 => .int
  | 2 => .int
  | 3 => .int
  | 4 => .array .int
  | 5 => .array .boolean
  | 6 => .int
  | 7 => .array .int
  | 8 => .array .int
  | 9 => .array .int
  | 10 => .array .int
  | 11 => .array .int
  | _ => .array .int
abbrev wsX10 : List Cond := u_ws RX1 TX1 13
theorem nmX1 : ∀ a, a < 13 → ∀ b, b < 13 → a ≠ b → (TX1 a).2.1 ≠ (TX1 b).2.1 := by decide +kernel
theorem tyX1_ok : ∀ k, k < 13 → parseFieldDescriptor (TX1 k).2.2.1 = some (tyX1 k) := by decide +kernel
abbrev cX1_init : ByteArray := prog_3_method_1_code
def yX1_init : MethodName := ⟨RX1, "<init>", "()V"⟩
abbrev cX1_thrown : ByteArray := prog_3_method_2_code
def yX1_thrown : MethodName := ⟨RX1, "thrown", "()I"⟩
abbrev cX1_no : ByteArray := prog_3_method_3_code
def yX1_no : MethodName := ⟨RX1, "no", "(I)I"⟩
abbrev cX1_isNot : ByteArray := prog_3_method_4_code
def yX1_isNot : MethodName := ⟨RX1, "isNot", "(I)Z"⟩
abbrev cX1_ok : ByteArray := prog_3_method_5_code
def yX1_ok : MethodName := ⟨RX1, "ok", "(I)I"⟩
abbrev cX1_isIn : ByteArray := prog_3_method_6_code
def yX1_isIn : MethodName := ⟨RX1, "isIn", "(III)Z"⟩
abbrev cX1_isPerson : ByteArray := prog_3_method_7_code
def yX1_isPerson : MethodName := ⟨RX1, "isPerson", "(I)Z"⟩
abbrev cX1_isSlight : ByteArray := prog_3_method_8_code
def yX1_isSlight : MethodName := ⟨RX1, "isSlight", "(I)Z"⟩
abbrev cX1_isOpen : ByteArray := prog_3_method_9_code
def yX1_isOpen : MethodName := ⟨RX1, "isOpen", "(I)Z"⟩
abbrev cX1_close : ByteArray := prog_3_method_10_code
def yX1_close : MethodName := ⟨RX1, "close", "(II)V"⟩
abbrev cX1_speak : ByteArray := prog_3_method_11_code
def yX1_speak : MethodName := ⟨RX1, "speak", "(I)V"⟩
abbrev cX1_witnesses : ByteArray := prog_3_method_12_code
def yX1_witnesses : MethodName := ⟨RX1, "witnesses", "(I)I"⟩
abbrev cX1_grown : ByteArray := prog_3_method_13_code
def yX1_grown : MethodName := ⟨RX1, "grown", "(I)I"⟩
abbrev cX1_later : ByteArray := prog_3_method_14_code
def yX1_later : MethodName := ⟨RX1, "later", "(II)I"⟩
abbrev cX1_isScorned : ByteArray := prog_3_method_15_code
def yX1_isScorned : MethodName := ⟨RX1, "isScorned", "(II)Z"⟩
abbrev cX1_addPerson : ByteArray := prog_3_method_16_code
def yX1_addPerson : MethodName := ⟨RX1, "addPerson", "(I)I"⟩
abbrev cX1_enter : ByteArray := prog_3_method_17_code
def yX1_enter : MethodName := ⟨RX1, "enter", "(I)Z"⟩
abbrev cX1_slight : ByteArray := prog_3_method_18_code
def yX1_slight : MethodName := ⟨RX1, "slight", "(III)I"⟩
abbrev cX1_mention : ByteArray := prog_3_method_19_code
def yX1_mention : MethodName := ⟨RX1, "mention", "(I)I"⟩
abbrev cX1_apologize : ByteArray := prog_3_method_20_code
def yX1_apologize : MethodName := ⟨RX1, "apologize", "(II)I"⟩
abbrev cX1_areOpposite : ByteArray := prog_3_method_21_code
def yX1_areOpposite : MethodName := ⟨RX1, "areOpposite", "(II)Z"⟩
abbrev cX1_setOff : ByteArray := prog_3_method_22_code
def yX1_setOff : MethodName := ⟨RX1, "setOff", "(II)I"⟩
abbrev cX1_setPride : ByteArray := prog_3_method_23_code
def yX1_setPride : MethodName := ⟨RX1, "setPride", "(II)I"⟩
abbrev cX1_pass : ByteArray := prog_3_method_24_code
def yX1_pass : MethodName := ⟨RX1, "pass", "(I)I"⟩
abbrev cX1_day : ByteArray := prog_3_method_25_code
def yX1_day : MethodName := ⟨RX1, "day", "()I"⟩
abbrev cX1_persons : ByteArray := prog_3_method_26_code
def yX1_persons : MethodName := ⟨RX1, "persons", "()I"⟩
abbrev cX1_slights : ByteArray := prog_3_method_27_code
def yX1_slights : MethodName := ⟨RX1, "slights", "()I"⟩
abbrev cX1_here : ByteArray := prog_3_method_28_code
def yX1_here : MethodName := ⟨RX1, "here", "()I"⟩
abbrev cX1_inHall : ByteArray := prog_3_method_29_code
def yX1_inHall : MethodName := ⟨RX1, "inHall", "()I"⟩
abbrev cX1_scorned : ByteArray := prog_3_method_30_code
def yX1_scorned : MethodName := ⟨RX1, "scorned", "()I"⟩
abbrev cX1_isInHall : ByteArray := prog_3_method_31_code
def yX1_isInHall : MethodName := ⟨RX1, "isInHall", "(I)Z"⟩
abbrev cX1_prideOf : ByteArray := prog_3_method_32_code
def yX1_prideOf : MethodName := ⟨RX1, "prideOf", "(I)I"⟩
abbrev cX1_done : ByteArray := prog_3_method_33_code
def yX1_done : MethodName := ⟨RX1, "done", "(II)I"⟩
abbrev cX1_borneBy : ByteArray := prog_3_method_34_code
def yX1_borneBy : MethodName := ⟨RX1, "borneBy", "(I)I"⟩
abbrev cX1_owedBy : ByteArray := prog_3_method_35_code
def yX1_owedBy : MethodName := ⟨RX1, "owedBy", "(I)I"⟩
abbrev cX1_balance : ByteArray := prog_3_method_36_code
def yX1_balance : MethodName := ⟨RX1, "balance", "(II)I"⟩
abbrev cX1_sore : ByteArray := prog_3_method_37_code
def yX1_sore : MethodName := ⟨RX1, "sore", "()I"⟩
abbrev cX1_sorest : ByteArray := prog_3_method_38_code
def yX1_sorest : MethodName := ⟨RX1, "sorest", "()I"⟩
abbrev cX1_of : ByteArray := prog_3_method_39_code
def yX1_of : MethodName := ⟨RX1, "of", "(I[I)I"⟩
abbrev cX1_offenderOf : ByteArray := prog_3_method_40_code
def yX1_offenderOf : MethodName := ⟨RX1, "offenderOf", "(I)I"⟩
abbrev cX1_offendedOf : ByteArray := prog_3_method_41_code
def yX1_offendedOf : MethodName := ⟨RX1, "offendedOf", "(I)I"⟩
abbrev cX1_weightOf : ByteArray := prog_3_method_42_code
def yX1_weightOf : MethodName := ⟨RX1, "weightOf", "(I)I"⟩
abbrev cX1_stateOf : ByteArray := prog_3_method_43_code
def yX1_stateOf : MethodName := ⟨RX1, "stateOf", "(I)I"⟩
abbrev cX1_borneFor : ByteArray := prog_3_method_44_code
def yX1_borneFor : MethodName := ⟨RX1, "borneFor", "(I)I"⟩
abbrev cX1_quietFor : ByteArray := prog_3_method_45_code
def yX1_quietFor : MethodName := ⟨RX1, "quietFor", "(I)I"⟩
abbrev cX1_witnessesFor : ByteArray := prog_3_method_46_code
def yX1_witnessesFor : MethodName := ⟨RX1, "witnessesFor", "(I)I"⟩
abbrev cX1_count : ByteArray := prog_3_method_47_code
def yX1_count : MethodName := ⟨RX1, "count", "(I)I"⟩
abbrev cX1_inState : ByteArray := prog_3_method_48_code
def yX1_inState : MethodName := ⟨RX1, "inState", "(I)I"⟩
abbrev cX1_heavy : ByteArray := prog_3_method_49_code
def yX1_heavy : MethodName := ⟨RX1, "heavy", "()I"⟩
abbrev cX1_heaviest : ByteArray := prog_3_method_50_code
def yX1_heaviest : MethodName := ⟨RX1, "heaviest", "()I"⟩
abbrev cX1_pairs : ByteArray := prog_3_method_51_code
def yX1_pairs : MethodName := ⟨RX1, "pairs", "()I"⟩
abbrev cX1_pairsToSetOff : ByteArray := prog_3_method_52_code
def yX1_pairsToSetOff : MethodName := ⟨RX1, "pairsToSetOff", "()I"⟩
abbrev cX1_wanted : ByteArray := prog_3_method_53_code
def yX1_wanted : MethodName := ⟨RX1, "wanted", "(I)I"⟩
abbrev cX1_wordsWanted : ByteArray := prog_3_method_54_code
def yX1_wordsWanted : MethodName := ⟨RX1, "wordsWanted", "(I)I"⟩
abbrev cX1_wouldBeScorned : ByteArray := prog_3_method_55_code
def yX1_wouldBeScorned : MethodName := ⟨RX1, "wouldBeScorned", "(II)Z"⟩
abbrev cX1_weightIn : ByteArray := prog_3_method_56_code
def yX1_weightIn : MethodName := ⟨RX1, "weightIn", "(II)I"⟩
abbrev cX1_until : ByteArray := prog_3_method_57_code
def yX1_until : MethodName := ⟨RX1, "until", "(I)I"⟩
abbrev cX1_daysUntilForgotten : ByteArray := prog_3_method_58_code
def yX1_daysUntilForgotten : MethodName := ⟨RX1, "daysUntilForgotten", "(I)I"⟩
abbrev cX1_borneThen : ByteArray := prog_3_method_59_code
def yX1_borneThen : MethodName := ⟨RX1, "borneThen", "(II)I"⟩
abbrev cX1_borneIn : ByteArray := prog_3_method_60_code
def yX1_borneIn : MethodName := ⟨RX1, "borneIn", "(II)I"⟩
abbrev cX1_worst : ByteArray := prog_3_method_61_code
def yX1_worst : MethodName := ⟨RX1, "worst", "(I)I"⟩
abbrev cX1_worstToKeep : ByteArray := prog_3_method_62_code
def yX1_worstToKeep : MethodName := ⟨RX1, "worstToKeep", "(I)I"⟩
abbrev cX1_meanWeight : ByteArray := prog_3_method_63_code
def yX1_meanWeight : MethodName := ⟨RX1, "meanWeight", "()D"⟩
abbrev cX1_digest : ByteArray := prog_3_method_64_code
def yX1_digest : MethodName := ⟨RX1, "digest", "()J"⟩
def RJ9 : String := "java/lang/Math"
def TJ9 : u_T := fun k => match k with
  | _ => ("", "", "", false)
def tyJ9 : Nat → FieldType := fun k => match k with
  | _ => .int
abbrev wsJ90 : List Cond := u_ws RJ9 TJ9 0
theorem nmJ9 : ∀ a, a < 0 → ∀ b, b < 0 → a ≠ b → (TJ9 a).2.1 ≠ (TJ9 b).2.1 := by decide +kernel
theorem tyJ9_ok : ∀ k, k < 0 → parseFieldDescriptor (TJ9 k).2.2.1 = some (tyJ9 k) := by decide +kernel
abbrev cJ9_max_7cf53 : ByteArray := prog_8_method_65_code
def yJ9_max_7cf53 : MethodName := ⟨RJ9, "max", "(II)I"⟩
abbrev cJ9_min_7cf53 : ByteArray := prog_8_method_69_code
def yJ9_min_7cf53 : MethodName := ⟨RJ9, "min", "(II)I"⟩
def RJ0 : String := "java/lang/String"
def TJ0 : u_T := fun k => match k with
  | _ => ("", "", "", false)
def tyJ0 : Nat → FieldType := fun k => match k with
  | _ => .int
abbrev wsJ00 : List Cond := u_ws RJ0 TJ0 0
theorem nmJ0 : ∀ a, a < 0 → ∀ b, b < 0 → a ≠ b → (TJ0 a).2.1 ≠ (TJ0 b).2.1 := by decide +kernel
theorem tyJ0_ok : ∀ k, k < 0 → parseFieldDescriptor (TJ0 k).2.2.1 = some (tyJ0 k) := by decide +kernel
def RL : String := "ApologyLedgerLaw"
abbrev cL_addPerson : ByteArray := method_3_code
def yL_addPerson : MethodName := ⟨RL, "addPerson", "(LApologyLedger;I[J)I"⟩
abbrev cL_enter : ByteArray := method_4_code
def yL_enter : MethodName := ⟨RL, "enter", "(LApologyLedger;I[J)I"⟩
abbrev cL_slight : ByteArray := method_5_code
def yL_slight : MethodName := ⟨RL, "slight", "(LApologyLedger;III[J)I"⟩
abbrev cL_mention : ByteArray := method_6_code
def yL_mention : MethodName := ⟨RL, "mention", "(LApologyLedger;I[J)I"⟩
abbrev cL_apologize : ByteArray := method_7_code
def yL_apologize : MethodName := ⟨RL, "apologize", "(LApologyLedger;II[J)I"⟩
abbrev cL_setOff : ByteArray := method_8_code
def yL_setOff : MethodName := ⟨RL, "setOff", "(LApologyLedger;II[J)I"⟩
abbrev cL_setPride : ByteArray := method_9_code
def yL_setPride : MethodName := ⟨RL, "setPride", "(LApologyLedger;II[J)I"⟩
abbrev cL_pass : ByteArray := method_10_code
def yL_pass : MethodName := ⟨RL, "pass", "(LApologyLedger;I[J)I"⟩
abbrev cL_isInHall : ByteArray := method_11_code
def yL_isInHall : MethodName := ⟨RL, "isInHall", "(LApologyLedger;I[J)I"⟩
abbrev cL_prideOf : ByteArray := method_12_code
def yL_prideOf : MethodName := ⟨RL, "prideOf", "(LApologyLedger;I[J)I"⟩
abbrev cL_borneBy : ByteArray := method_13_code
def yL_borneBy : MethodName := ⟨RL, "borneBy", "(LApologyLedger;I[J)I"⟩
abbrev cL_owedBy : ByteArray := method_14_code
def yL_owedBy : MethodName := ⟨RL, "owedBy", "(LApologyLedger;I[J)I"⟩
abbrev cL_balance : ByteArray := method_15_code
def yL_balance : MethodName := ⟨RL, "balance", "(LApologyLedger;II[J)I"⟩
abbrev cL_offenderOf : ByteArray := method_16_code
def yL_offenderOf : MethodName := ⟨RL, "offenderOf", "(LApologyLedger;I[J)I"⟩
abbrev cL_offendedOf : ByteArray := method_17_code
def yL_offendedOf : MethodName := ⟨RL, "offendedOf", "(LApologyLedger;I[J)I"⟩
abbrev cL_weightOf : ByteArray := method_18_code
def yL_weightOf : MethodName := ⟨RL, "weightOf", "(LApologyLedger;I[J)I"⟩
abbrev cL_stateOf : ByteArray := method_19_code
def yL_stateOf : MethodName := ⟨RL, "stateOf", "(LApologyLedger;I[J)I"⟩
abbrev cL_borneFor : ByteArray := method_20_code
def yL_borneFor : MethodName := ⟨RL, "borneFor", "(LApologyLedger;I[J)I"⟩
abbrev cL_quietFor : ByteArray := method_21_code
def yL_quietFor : MethodName := ⟨RL, "quietFor", "(LApologyLedger;I[J)I"⟩
abbrev cL_witnessesFor : ByteArray := method_22_code
def yL_witnessesFor : MethodName := ⟨RL, "witnessesFor", "(LApologyLedger;I[J)I"⟩
abbrev cL_inState : ByteArray := method_23_code
def yL_inState : MethodName := ⟨RL, "inState", "(LApologyLedger;I[J)I"⟩
abbrev cL_wordsWanted : ByteArray := method_24_code
def yL_wordsWanted : MethodName := ⟨RL, "wordsWanted", "(LApologyLedger;I[J)I"⟩
abbrev cL_wouldBeScorned : ByteArray := method_25_code
def yL_wouldBeScorned : MethodName := ⟨RL, "wouldBeScorned", "(LApologyLedger;II[J)I"⟩
abbrev cL_weightIn : ByteArray := method_26_code
def yL_weightIn : MethodName := ⟨RL, "weightIn", "(LApologyLedger;II[J)I"⟩
abbrev cL_daysUntilForgotten : ByteArray := method_27_code
def yL_daysUntilForgotten : MethodName := ⟨RL, "daysUntilForgotten", "(LApologyLedger;I[J)I"⟩
abbrev cL_borneIn : ByteArray := method_28_code
def yL_borneIn : MethodName := ⟨RL, "borneIn", "(LApologyLedger;II[J)I"⟩
abbrev cL_worstToKeep : ByteArray := method_29_code
def yL_worstToKeep : MethodName := ⟨RL, "worstToKeep", "(LApologyLedger;I[J)I"⟩
abbrev cL_law : ByteArray := code
def yL_law : MethodName := ⟨RL, "law", "([I)Z"⟩
def wsX0_init : List Cond := .code yX0_init cX0_init 1 none :: ([.methodLink RX0 1 objectInit, .instanceMethod objectInit, .code objectInit ⟨#[0xb1]⟩ 1 none, .arrayClass .int, .fieldLink RX0 9 "ApologyLedger" "prides" "[I", .arrayClass .boolean, .fieldLink RX0 13 "ApologyLedger" "present" "[Z", .fieldLink RX0 17 "ApologyLedger" "offenders" "[I", .fieldLink RX0 20 "ApologyLedger" "offendedOnes" "[I", .fieldLink RX0 23 "ApologyLedger" "weights" "[I", .fieldLink RX0 26 "ApologyLedger" "states" "[I", .fieldLink RX0 29 "ApologyLedger" "daysBorne" "[I", .fieldLink RX0 32 "ApologyLedger" "daysQuiet" "[I"] ++ wsX00)
def wsX0_requirePride : List Cond := .code yX0_requirePride cX0_requirePride 1 none :: ([.classLink RX0 53 "java/lang/IllegalArgumentException", .initialized "java/lang/IllegalArgumentException"] ++ (vx_atS RX0 57 "java/lang/IllegalArgumentException" ["java/lang/RuntimeException", "java/lang/Exception"]).filter goodWord)
def wsX0_addPerson : List Cond := .code yX0_addPerson cX0_addPerson 3 (some .int) :: ([.classLink RX0 43 "java/lang/IllegalStateException", .initialized "java/lang/IllegalStateException", .fieldLink RX0 39 "ApologyLedger" "personCount" "I", .fieldLink RX0 9 "ApologyLedger" "prides" "[I", .methodLink RX0 35 yX0_requirePride, .static yX0_requirePride, .initialized RX0, .code yX0_requirePride cX0_requirePride 1 none, .classLink RX0 53 "java/lang/IllegalArgumentException", .initialized "java/lang/IllegalArgumentException"] ++ wsX00 ++ (vx_atS RX0 47 "java/lang/IllegalStateException" ["java/lang/RuntimeException", "java/lang/Exception"]).filter goodWord ++ (vx_atS RX0 57 "java/lang/IllegalArgumentException" ["java/lang/RuntimeException", "java/lang/Exception"]).filter goodWord)
def wsX0_requirePerson : List Cond := .code yX0_requirePerson cX0_requirePerson 2 none :: ([.classLink RX0 143 "java/lang/IndexOutOfBoundsException", .initialized "java/lang/IndexOutOfBoundsException", .fieldLink RX0 39 "ApologyLedger" "personCount" "I"] ++ wsX00 ++ (vx_atS RX0 147 "java/lang/IndexOutOfBoundsException" ["java/lang/RuntimeException", "java/lang/Exception"]).filter goodWord)
def wsX0_enter : List Cond := .code yX0_enter cX0_enter 2 (some .boolean) :: ([.fieldLink RX0 13 "ApologyLedger" "present" "[Z", .methodLink RX0 50 yX0_requirePerson, .instanceMethod yX0_requirePerson, .selects RX0 yX0_requirePerson yX0_requirePerson, .initialized RX0, .code yX0_requirePerson cX0_requirePerson 2 none, .classLink RX0 143 "java/lang/IndexOutOfBoundsException", .initialized "java/lang/IndexOutOfBoundsException", .fieldLink RX0 39 "ApologyLedger" "personCount" "I"] ++ wsX00 ++ (vx_atS RX0 147 "java/lang/IndexOutOfBoundsException" ["java/lang/RuntimeException", "java/lang/Exception"]).filter goodWord)
def wsX0_slight : List Cond := .code yX0_slight cX0_slight 5 (some .int) :: ([.classLink RX0 53 "java/lang/IllegalArgumentException", .initialized "java/lang/IllegalArgumentException", .classLink RX0 43 "java/lang/IllegalStateException", .initialized "java/lang/IllegalStateException", .fieldLink RX0 60 "ApologyLedger" "slightCount" "I", .fieldLink RX0 17 "ApologyLedger" "offenders" "[I", .fieldLink RX0 20 "ApologyLedger" "offendedOnes" "[I", .fieldLink RX0 23 "ApologyLedger" "weights" "[I", .methodLink RX0 50 yX0_requirePerson, .instanceMethod yX0_requirePerson, .selects RX0 yX0_requirePerson yX0_requirePerson, .initialized RX0, .code yX0_requirePerson cX0_requirePerson 2 none, .classLink RX0 143 "java/lang/IndexOutOfBoundsException", .initialized "java/lang/IndexOutOfBoundsException", .fieldLink RX0 39 "ApologyLedger" "personCount" "I"] ++ wsX00 ++ (vx_atS RX0 57 "java/lang/IllegalArgumentException" ["java/lang/RuntimeException", "java/lang/Exception"]).filter goodWord ++ (vx_atS RX0 47 "java/lang/IllegalStateException" ["java/lang/RuntimeException", "java/lang/Exception"]).filter goodWord ++ (vx_atS RX0 147 "java/lang/IndexOutOfBoundsException" ["java/lang/RuntimeException", "java/lang/Exception"]).filter goodWord)
def wsX0_requireSlight : List Cond := .code yX0_requireSlight cX0_requireSlight 2 none :: ([.classLink RX0 143 "java/lang/IndexOutOfBoundsException", .initialized "java/lang/IndexOutOfBoundsException", .fieldLink RX0 60 "ApologyLedger" "slightCount" "I"] ++ wsX00 ++ (vx_atS RX0 147 "java/lang/IndexOutOfBoundsException" ["java/lang/RuntimeException", "java/lang/Exception"]).filter goodWord)
def wsX0_stateOf : List Cond := .code yX0_stateOf cX0_stateOf 2 (some .int) :: ([.fieldLink RX0 26 "ApologyLedger" "states" "[I", .methodLink RX0 65 yX0_requireSlight, .instanceMethod yX0_requireSlight, .selects RX0 yX0_requireSlight yX0_requireSlight, .initialized RX0, .code yX0_requireSlight cX0_requireSlight 2 none, .classLink RX0 143 "java/lang/IndexOutOfBoundsException", .initialized "java/lang/IndexOutOfBoundsException", .fieldLink RX0 60 "ApologyLedger" "slightCount" "I"] ++ wsX00 ++ (vx_atS RX0 147 "java/lang/IndexOutOfBoundsException" ["java/lang/RuntimeException", "java/lang/Exception"]).filter goodWord)
def wsX0_requireOpen : List Cond := .code yX0_requireOpen cX0_requireOpen 2 none :: ([.classLink RX0 43 "java/lang/IllegalStateException", .initialized "java/lang/IllegalStateException", .methodLink RX0 150 yX0_stateOf, .instanceMethod yX0_stateOf, .selects RX0 yX0_stateOf yX0_stateOf, .initialized RX0, .code yX0_stateOf cX0_stateOf 2 (some .int), .fieldLink RX0 26 "ApologyLedger" "states" "[I", .methodLink RX0 65 yX0_requireSlight, .instanceMethod yX0_requireSlight, .selects RX0 yX0_requireSlight yX0_requireSlight, .code yX0_requireSlight cX0_requireSlight 2 none, .classLink RX0 143 "java/lang/IndexOutOfBoundsException", .initialized "java/lang/IndexOutOfBoundsException", .fieldLink RX0 60 "ApologyLedger" "slightCount" "I"] ++ wsX00 ++ (vx_atS RX0 47 "java/lang/IllegalStateException" ["java/lang/RuntimeException", "java/lang/Exception"]).filter goodWord ++ (vx_atS RX0 147 "java/lang/IndexOutOfBoundsException" ["java/lang/RuntimeException", "java/lang/Exception"]).filter goodWord)
def wsX0_speakOf : List Cond := .code yX0_speakOf cX0_speakOf 2 none :: ([.fieldLink RX0 23 "ApologyLedger" "weights" "[I", .methodLink RX0 98 Lib.Math.min.name, .static Lib.Math.min.name, .initialized "java/lang/Math", .code Lib.Math.min.name Lib.Math.min.code 2 (some .int), .fieldLink RX0 32 "ApologyLedger" "daysQuiet" "[I", .methodLink RX0 65 yX0_requireSlight, .instanceMethod yX0_requireSlight, .selects RX0 yX0_requireSlight yX0_requireSlight, .initialized RX0, .code yX0_requireSlight cX0_requireSlight 2 none, .classLink RX0 143 "java/lang/IndexOutOfBoundsException", .initialized "java/lang/IndexOutOfBoundsException", .fieldLink RX0 60 "ApologyLedger" "slightCount" "I"] ++ wsX00 ++ (vx_atS RX0 147 "java/lang/IndexOutOfBoundsException" ["java/lang/RuntimeException", "java/lang/Exception"]).filter goodWord)
def wsX0_mention_r1 : List Cond := [Cond.fieldLink RX0 23 "ApologyLedger" "weights" "[I", Cond.methodLink RX0 65 yX0_requireSlight, Cond.instanceMethod yX0_requireSlight, Cond.selects RX0 yX0_requireSlight yX0_requireSlight, Cond.initialized RX0, Cond.code yX0_requireSlight cX0_requireSlight 2 none, Cond.classLink RX0 143 "java/lang/IndexOutOfBoundsException", Cond.initialized "java/lang/IndexOutOfBoundsException", Cond.fieldLink RX0 60 "ApologyLedger" "slightCount" "I", Cond.methodLink RX0 68 yX0_requireOpen, Cond.instanceMethod yX0_requireOpen, Cond.selects RX0 yX0_requireOpen yX0_requireOpen, Cond.code yX0_requireOpen cX0_requireOpen 2 none, Cond.classLink RX0 43 "java/lang/IllegalStateException", Cond.initialized "java/lang/IllegalStateException", Cond.methodLink RX0 150 yX0_stateOf, Cond.instanceMethod yX0_stateOf, Cond.selects RX0 yX0_stateOf yX0_stateOf, Cond.code yX0_stateOf cX0_stateOf 2 (some .int), Cond.fieldLink RX0 26 "ApologyLedger" "states" "[I", Cond.methodLink RX0 71 yX0_speakOf, Cond.instanceMethod yX0_speakOf, Cond.selects RX0 yX0_speakOf yX0_speakOf, Cond.code yX0_speakOf cX0_speakOf 2 none]
def wsX0_mention_r2 : List Cond := [Cond.methodLink RX0 98 Lib.Math.min.name, Cond.static Lib.Math.min.name, Cond.initialized "java/lang/Math", Cond.code Lib.Math.min.name Lib.Math.min.code 2 (some .int), Cond.fieldLink RX0 32 "ApologyLedger" "daysQuiet" "[I"]
def wsX0_mention : List Cond := .code yX0_mention cX0_mention 2 (some .int) :: ((wsX0_mention_r1 ++ wsX0_mention_r2) ++ wsX00 ++ (vx_atS RX0 147 "java/lang/IndexOutOfBoundsException" ["java/lang/RuntimeException", "java/lang/Exception"]).filter goodWord ++ (vx_atS RX0 47 "java/lang/IllegalStateException" ["java/lang/RuntimeException", "java/lang/Exception"]).filter goodWord)
def wsX0_requireWords : List Cond := .code yX0_requireWords cX0_requireWords 1 none :: ([.classLink RX0 53 "java/lang/IllegalArgumentException", .initialized "java/lang/IllegalArgumentException"] ++ (vx_atS RX0 57 "java/lang/IllegalArgumentException" ["java/lang/RuntimeException", "java/lang/Exception"]).filter goodWord)
def wsX0_witnessesFor : List Cond := .code yX0_witnessesFor cX0_witnessesFor 4 (some .int) :: ([.fieldLink RX0 39 "ApologyLedger" "personCount" "I", .fieldLink RX0 13 "ApologyLedger" "present" "[Z", .fieldLink RX0 17 "ApologyLedger" "offenders" "[I", .fieldLink RX0 20 "ApologyLedger" "offendedOnes" "[I", .methodLink RX0 65 yX0_requireSlight, .instanceMethod yX0_requireSlight, .selects RX0 yX0_requireSlight yX0_requireSlight, .initialized RX0, .code yX0_requireSlight cX0_requireSlight 2 none, .classLink RX0 143 "java/lang/IndexOutOfBoundsException", .initialized "java/lang/IndexOutOfBoundsException", .fieldLink RX0 60 "ApologyLedger" "slightCount" "I"] ++ wsX00 ++ (vx_atS RX0 147 "java/lang/IndexOutOfBoundsException" ["java/lang/RuntimeException", "java/lang/Exception"]).filter goodWord)
def wsX0_worthOf : List Cond := .code yX0_worthOf cX0_worthOf 3 (some .int) :: ([.methodLink RX0 168 yX0_witnessesFor, .instanceMethod yX0_witnessesFor, .selects RX0 yX0_witnessesFor yX0_witnessesFor, .initialized RX0, .code yX0_witnessesFor cX0_witnessesFor 4 (some .int), .fieldLink RX0 39 "ApologyLedger" "personCount" "I", .fieldLink RX0 13 "ApologyLedger" "present" "[Z", .fieldLink RX0 17 "ApologyLedger" "offenders" "[I", .fieldLink RX0 20 "ApologyLedger" "offendedOnes" "[I", .methodLink RX0 65 yX0_requireSlight, .instanceMethod yX0_requireSlight, .selects RX0 yX0_requireSlight yX0_requireSlight, .code yX0_requireSlight cX0_requireSlight 2 none, .classLink RX0 143 "java/lang/IndexOutOfBoundsException", .initialized "java/lang/IndexOutOfBoundsException", .fieldLink RX0 60 "ApologyLedger" "slightCount" "I"] ++ wsX00 ++ (vx_atS RX0 147 "java/lang/IndexOutOfBoundsException" ["java/lang/RuntimeException", "java/lang/Exception"]).filter goodWord)
def wsX0_offendedOf : List Cond := .code yX0_offendedOf cX0_offendedOf 2 (some .int) :: ([.fieldLink RX0 20 "ApologyLedger" "offendedOnes" "[I", .methodLink RX0 65 yX0_requireSlight, .instanceMethod yX0_requireSlight, .selects RX0 yX0_requireSlight yX0_requireSlight, .initialized RX0, .code yX0_requireSlight cX0_requireSlight 2 none, .classLink RX0 143 "java/lang/IndexOutOfBoundsException", .initialized "java/lang/IndexOutOfBoundsException", .fieldLink RX0 60 "ApologyLedger" "slightCount" "I"] ++ wsX00 ++ (vx_atS RX0 147 "java/lang/IndexOutOfBoundsException" ["java/lang/RuntimeException", "java/lang/Exception"]).filter goodWord)
def wsX0_prideOf : List Cond := .code yX0_prideOf cX0_prideOf 2 (some .int) :: ([.fieldLink RX0 9 "ApologyLedger" "prides" "[I", .methodLink RX0 50 yX0_requirePerson, .instanceMethod yX0_requirePerson, .selects RX0 yX0_requirePerson yX0_requirePerson, .initialized RX0, .code yX0_requirePerson cX0_requirePerson 2 none, .classLink RX0 143 "java/lang/IndexOutOfBoundsException", .initialized "java/lang/IndexOutOfBoundsException", .fieldLink RX0 39 "ApologyLedger" "personCount" "I"] ++ wsX00 ++ (vx_atS RX0 147 "java/lang/IndexOutOfBoundsException" ["java/lang/RuntimeException", "java/lang/Exception"]).filter goodWord)
def wsX0_weightOf : List Cond := .code yX0_weightOf cX0_weightOf 2 (some .int) :: ([.fieldLink RX0 23 "ApologyLedger" "weights" "[I", .methodLink RX0 65 yX0_requireSlight, .instanceMethod yX0_requireSlight, .selects RX0 yX0_requireSlight yX0_requireSlight, .initialized RX0, .code yX0_requireSlight cX0_requireSlight 2 none, .classLink RX0 143 "java/lang/IndexOutOfBoundsException", .initialized "java/lang/IndexOutOfBoundsException", .fieldLink RX0 60 "ApologyLedger" "slightCount" "I"] ++ wsX00 ++ (vx_atS RX0 147 "java/lang/IndexOutOfBoundsException" ["java/lang/RuntimeException", "java/lang/Exception"]).filter goodWord)
def wsX0_leastWorthHeard_r1 : List Cond := [Cond.methodLink RX0 121 Lib.Math.max.name, Cond.static Lib.Math.max.name, Cond.initialized "java/lang/Math", Cond.code Lib.Math.max.name Lib.Math.max.code 2 (some .int), Cond.methodLink RX0 171 yX0_offendedOf, Cond.instanceMethod yX0_offendedOf, Cond.selects RX0 yX0_offendedOf yX0_offendedOf, Cond.initialized RX0, Cond.code yX0_offendedOf cX0_offendedOf 2 (some .int), Cond.fieldLink RX0 20 "ApologyLedger" "offendedOnes" "[I", Cond.methodLink RX0 65 yX0_requireSlight, Cond.instanceMethod yX0_requireSlight, Cond.selects RX0 yX0_requireSlight yX0_requireSlight, Cond.code yX0_requireSlight cX0_requireSlight 2 none, Cond.classLink RX0 143 "java/lang/IndexOutOfBoundsException", Cond.initialized "java/lang/IndexOutOfBoundsException", Cond.fieldLink RX0 60 "ApologyLedger" "slightCount" "I", Cond.methodLink RX0 174 yX0_prideOf, Cond.instanceMethod yX0_prideOf, Cond.selects RX0 yX0_prideOf yX0_prideOf, Cond.code yX0_prideOf cX0_prideOf 2 (some .int), Cond.fieldLink RX0 9 "ApologyLedger" "prides" "[I", Cond.methodLink RX0 50 yX0_requirePerson, Cond.instanceMethod yX0_requirePerson]
def wsX0_leastWorthHeard_r2 : List Cond := [Cond.selects RX0 yX0_requirePerson yX0_requirePerson, Cond.code yX0_requirePerson cX0_requirePerson 2 none, Cond.fieldLink RX0 39 "ApologyLedger" "personCount" "I", Cond.methodLink RX0 177 yX0_weightOf, Cond.instanceMethod yX0_weightOf, Cond.selects RX0 yX0_weightOf yX0_weightOf, Cond.code yX0_weightOf cX0_weightOf 2 (some .int), Cond.fieldLink RX0 23 "ApologyLedger" "weights" "[I"]
def wsX0_leastWorthHeard : List Cond := .code yX0_leastWorthHeard cX0_leastWorthHeard 2 (some .int) :: ((wsX0_leastWorthHeard_r1 ++ wsX0_leastWorthHeard_r2) ++ wsX00 ++ (vx_atS RX0 147 "java/lang/IndexOutOfBoundsException" ["java/lang/RuntimeException", "java/lang/Exception"]).filter goodWord)
def wsX0_close : List Cond := .code yX0_close cX0_close 3 none :: ([.fieldLink RX0 26 "ApologyLedger" "states" "[I", .fieldLink RX0 23 "ApologyLedger" "weights" "[I", .methodLink RX0 65 yX0_requireSlight, .instanceMethod yX0_requireSlight, .selects RX0 yX0_requireSlight yX0_requireSlight, .initialized RX0, .code yX0_requireSlight cX0_requireSlight 2 none, .classLink RX0 143 "java/lang/IndexOutOfBoundsException", .initialized "java/lang/IndexOutOfBoundsException", .fieldLink RX0 60 "ApologyLedger" "slightCount" "I"] ++ wsX00 ++ (vx_atS RX0 147 "java/lang/IndexOutOfBoundsException" ["java/lang/RuntimeException", "java/lang/Exception"]).filter goodWord)
def wsX0_lighten : List Cond := .code yX0_lighten cX0_lighten 5 none :: ([.fieldLink RX0 23 "ApologyLedger" "weights" "[I", .methodLink RX0 65 yX0_requireSlight, .instanceMethod yX0_requireSlight, .selects RX0 yX0_requireSlight yX0_requireSlight, .initialized RX0, .code yX0_requireSlight cX0_requireSlight 2 none, .classLink RX0 143 "java/lang/IndexOutOfBoundsException", .initialized "java/lang/IndexOutOfBoundsException", .fieldLink RX0 60 "ApologyLedger" "slightCount" "I", .methodLink RX0 161 yX0_close, .instanceMethod yX0_close, .selects RX0 yX0_close yX0_close, .code yX0_close cX0_close 3 none, .fieldLink RX0 26 "ApologyLedger" "states" "[I"] ++ wsX00 ++ (vx_atS RX0 147 "java/lang/IndexOutOfBoundsException" ["java/lang/RuntimeException", "java/lang/Exception"]).filter goodWord)
def wsX0_apologize_r1 : List Cond := [Cond.fieldLink RX0 85 "ApologyLedger" "scornedCount" "I", Cond.fieldLink RX0 23 "ApologyLedger" "weights" "[I", Cond.methodLink RX0 65 yX0_requireSlight, Cond.instanceMethod yX0_requireSlight, Cond.selects RX0 yX0_requireSlight yX0_requireSlight, Cond.initialized RX0, Cond.code yX0_requireSlight cX0_requireSlight 2 none, Cond.classLink RX0 143 "java/lang/IndexOutOfBoundsException", Cond.initialized "java/lang/IndexOutOfBoundsException", Cond.fieldLink RX0 60 "ApologyLedger" "slightCount" "I", Cond.methodLink RX0 74 yX0_requireWords, Cond.static yX0_requireWords, Cond.code yX0_requireWords cX0_requireWords 1 none, Cond.classLink RX0 53 "java/lang/IllegalArgumentException", Cond.initialized "java/lang/IllegalArgumentException", Cond.methodLink RX0 68 yX0_requireOpen, Cond.instanceMethod yX0_requireOpen, Cond.selects RX0 yX0_requireOpen yX0_requireOpen, Cond.code yX0_requireOpen cX0_requireOpen 2 none, Cond.classLink RX0 43 "java/lang/IllegalStateException", Cond.initialized "java/lang/IllegalStateException", Cond.methodLink RX0 150 yX0_stateOf, Cond.instanceMethod yX0_stateOf, Cond.selects RX0 yX0_stateOf yX0_stateOf]
def wsX0_apologize_r2 : List Cond := [Cond.code yX0_stateOf cX0_stateOf 2 (some .int), Cond.fieldLink RX0 26 "ApologyLedger" "states" "[I", Cond.methodLink RX0 77 yX0_worthOf, Cond.instanceMethod yX0_worthOf, Cond.selects RX0 yX0_worthOf yX0_worthOf, Cond.code yX0_worthOf cX0_worthOf 3 (some .int), Cond.methodLink RX0 168 yX0_witnessesFor, Cond.instanceMethod yX0_witnessesFor, Cond.selects RX0 yX0_witnessesFor yX0_witnessesFor, Cond.code yX0_witnessesFor cX0_witnessesFor 4 (some .int), Cond.fieldLink RX0 39 "ApologyLedger" "personCount" "I", Cond.fieldLink RX0 13 "ApologyLedger" "present" "[Z", Cond.fieldLink RX0 17 "ApologyLedger" "offenders" "[I", Cond.fieldLink RX0 20 "ApologyLedger" "offendedOnes" "[I", Cond.methodLink RX0 81 yX0_leastWorthHeard, Cond.instanceMethod yX0_leastWorthHeard, Cond.selects RX0 yX0_leastWorthHeard yX0_leastWorthHeard, Cond.code yX0_leastWorthHeard cX0_leastWorthHeard 2 (some .int), Cond.methodLink RX0 121 Lib.Math.max.name, Cond.static Lib.Math.max.name, Cond.initialized "java/lang/Math", Cond.code Lib.Math.max.name Lib.Math.max.code 2 (some .int), Cond.methodLink RX0 171 yX0_offendedOf, Cond.instanceMethod yX0_offendedOf]
def wsX0_apologize_r3 : List Cond := [Cond.selects RX0 yX0_offendedOf yX0_offendedOf, Cond.code yX0_offendedOf cX0_offendedOf 2 (some .int), Cond.methodLink RX0 174 yX0_prideOf, Cond.instanceMethod yX0_prideOf, Cond.selects RX0 yX0_prideOf yX0_prideOf, Cond.code yX0_prideOf cX0_prideOf 2 (some .int), Cond.fieldLink RX0 9 "ApologyLedger" "prides" "[I", Cond.methodLink RX0 50 yX0_requirePerson, Cond.instanceMethod yX0_requirePerson, Cond.selects RX0 yX0_requirePerson yX0_requirePerson, Cond.code yX0_requirePerson cX0_requirePerson 2 none, Cond.methodLink RX0 177 yX0_weightOf, Cond.instanceMethod yX0_weightOf, Cond.selects RX0 yX0_weightOf yX0_weightOf, Cond.code yX0_weightOf cX0_weightOf 2 (some .int), Cond.methodLink RX0 71 yX0_speakOf, Cond.instanceMethod yX0_speakOf, Cond.selects RX0 yX0_speakOf yX0_speakOf, Cond.code yX0_speakOf cX0_speakOf 2 none, Cond.methodLink RX0 98 Lib.Math.min.name, Cond.static Lib.Math.min.name, Cond.code Lib.Math.min.name Lib.Math.min.code 2 (some .int), Cond.fieldLink RX0 32 "ApologyLedger" "daysQuiet" "[I", Cond.methodLink RX0 88 yX0_lighten]
def wsX0_apologize_r4 : List Cond := [Cond.instanceMethod yX0_lighten, Cond.selects RX0 yX0_lighten yX0_lighten, Cond.code yX0_lighten cX0_lighten 5 none, Cond.methodLink RX0 161 yX0_close, Cond.instanceMethod yX0_close, Cond.selects RX0 yX0_close yX0_close, Cond.code yX0_close cX0_close 3 none]
def wsX0_apologize : List Cond := .code yX0_apologize cX0_apologize 4 (some .int) :: ((wsX0_apologize_r1 ++ (wsX0_apologize_r2 ++ (wsX0_apologize_r3 ++ wsX0_apologize_r4))) ++ wsX00 ++ (vx_atS RX0 147 "java/lang/IndexOutOfBoundsException" ["java/lang/RuntimeException", "java/lang/Exception"]).filter goodWord ++ (vx_atS RX0 57 "java/lang/IllegalArgumentException" ["java/lang/RuntimeException", "java/lang/Exception"]).filter goodWord ++ (vx_atS RX0 47 "java/lang/IllegalStateException" ["java/lang/RuntimeException", "java/lang/Exception"]).filter goodWord)
def wsX0_offenderOf : List Cond := .code yX0_offenderOf cX0_offenderOf 2 (some .int) :: ([.fieldLink RX0 17 "ApologyLedger" "offenders" "[I", .methodLink RX0 65 yX0_requireSlight, .instanceMethod yX0_requireSlight, .selects RX0 yX0_requireSlight yX0_requireSlight, .initialized RX0, .code yX0_requireSlight cX0_requireSlight 2 none, .classLink RX0 143 "java/lang/IndexOutOfBoundsException", .initialized "java/lang/IndexOutOfBoundsException", .fieldLink RX0 60 "ApologyLedger" "slightCount" "I"] ++ wsX00 ++ (vx_atS RX0 147 "java/lang/IndexOutOfBoundsException" ["java/lang/RuntimeException", "java/lang/Exception"]).filter goodWord)
def wsX0_areAgainstEachOther : List Cond := .code yX0_areAgainstEachOther cX0_areAgainstEachOther 3 (some .boolean) :: ([.methodLink RX0 180 yX0_offenderOf, .instanceMethod yX0_offenderOf, .selects RX0 yX0_offenderOf yX0_offenderOf, .initialized RX0, .code yX0_offenderOf cX0_offenderOf 2 (some .int), .fieldLink RX0 17 "ApologyLedger" "offenders" "[I", .methodLink RX0 65 yX0_requireSlight, .instanceMethod yX0_requireSlight, .selects RX0 yX0_requireSlight yX0_requireSlight, .code yX0_requireSlight cX0_requireSlight 2 none, .classLink RX0 143 "java/lang/IndexOutOfBoundsException", .initialized "java/lang/IndexOutOfBoundsException", .fieldLink RX0 60 "ApologyLedger" "slightCount" "I", .methodLink RX0 171 yX0_offendedOf, .instanceMethod yX0_offendedOf, .selects RX0 yX0_offendedOf yX0_offendedOf, .code yX0_offendedOf cX0_offendedOf 2 (some .int), .fieldLink RX0 20 "ApologyLedger" "offendedOnes" "[I"] ++ wsX00 ++ (vx_atS RX0 147 "java/lang/IndexOutOfBoundsException" ["java/lang/RuntimeException", "java/lang/Exception"]).filter goodWord)
def wsX0_setOff_r1 : List Cond := [Cond.classLink RX0 43 "java/lang/IllegalStateException", Cond.initialized "java/lang/IllegalStateException", Cond.fieldLink RX0 23 "ApologyLedger" "weights" "[I", Cond.methodLink RX0 98 Lib.Math.min.name, Cond.static Lib.Math.min.name, Cond.initialized "java/lang/Math", Cond.code Lib.Math.min.name Lib.Math.min.code 2 (some .int), Cond.methodLink RX0 65 yX0_requireSlight, Cond.instanceMethod yX0_requireSlight, Cond.selects RX0 yX0_requireSlight yX0_requireSlight, Cond.initialized RX0, Cond.code yX0_requireSlight cX0_requireSlight 2 none, Cond.classLink RX0 143 "java/lang/IndexOutOfBoundsException", Cond.initialized "java/lang/IndexOutOfBoundsException", Cond.fieldLink RX0 60 "ApologyLedger" "slightCount" "I", Cond.methodLink RX0 68 yX0_requireOpen, Cond.instanceMethod yX0_requireOpen, Cond.selects RX0 yX0_requireOpen yX0_requireOpen, Cond.code yX0_requireOpen cX0_requireOpen 2 none, Cond.methodLink RX0 150 yX0_stateOf, Cond.instanceMethod yX0_stateOf, Cond.selects RX0 yX0_stateOf yX0_stateOf, Cond.code yX0_stateOf cX0_stateOf 2 (some .int), Cond.fieldLink RX0 26 "ApologyLedger" "states" "[I"]
def wsX0_setOff_r2 : List Cond := [Cond.methodLink RX0 92 yX0_areAgainstEachOther, Cond.instanceMethod yX0_areAgainstEachOther, Cond.selects RX0 yX0_areAgainstEachOther yX0_areAgainstEachOther, Cond.code yX0_areAgainstEachOther cX0_areAgainstEachOther 3 (some .boolean), Cond.methodLink RX0 180 yX0_offenderOf, Cond.instanceMethod yX0_offenderOf, Cond.selects RX0 yX0_offenderOf yX0_offenderOf, Cond.code yX0_offenderOf cX0_offenderOf 2 (some .int), Cond.fieldLink RX0 17 "ApologyLedger" "offenders" "[I", Cond.methodLink RX0 171 yX0_offendedOf, Cond.instanceMethod yX0_offendedOf, Cond.selects RX0 yX0_offendedOf yX0_offendedOf, Cond.code yX0_offendedOf cX0_offendedOf 2 (some .int), Cond.fieldLink RX0 20 "ApologyLedger" "offendedOnes" "[I", Cond.methodLink RX0 88 yX0_lighten, Cond.instanceMethod yX0_lighten, Cond.selects RX0 yX0_lighten yX0_lighten, Cond.code yX0_lighten cX0_lighten 5 none, Cond.methodLink RX0 161 yX0_close, Cond.instanceMethod yX0_close, Cond.selects RX0 yX0_close yX0_close, Cond.code yX0_close cX0_close 3 none]
def wsX0_setOff : List Cond := .code yX0_setOff cX0_setOff 4 (some .int) :: ((wsX0_setOff_r1 ++ wsX0_setOff_r2) ++ wsX00 ++ (vx_atS RX0 47 "java/lang/IllegalStateException" ["java/lang/RuntimeException", "java/lang/Exception"]).filter goodWord ++ (vx_atS RX0 147 "java/lang/IndexOutOfBoundsException" ["java/lang/RuntimeException", "java/lang/Exception"]).filter goodWord)
def wsX0_setPride : List Cond := .code yX0_setPride cX0_setPride 4 (some .int) :: ([.fieldLink RX0 9 "ApologyLedger" "prides" "[I", .methodLink RX0 50 yX0_requirePerson, .instanceMethod yX0_requirePerson, .selects RX0 yX0_requirePerson yX0_requirePerson, .initialized RX0, .code yX0_requirePerson cX0_requirePerson 2 none, .classLink RX0 143 "java/lang/IndexOutOfBoundsException", .initialized "java/lang/IndexOutOfBoundsException", .fieldLink RX0 39 "ApologyLedger" "personCount" "I", .methodLink RX0 35 yX0_requirePride, .static yX0_requirePride, .code yX0_requirePride cX0_requirePride 1 none, .classLink RX0 53 "java/lang/IllegalArgumentException", .initialized "java/lang/IllegalArgumentException"] ++ wsX00 ++ (vx_atS RX0 147 "java/lang/IndexOutOfBoundsException" ["java/lang/RuntimeException", "java/lang/Exception"]).filter goodWord ++ (vx_atS RX0 57 "java/lang/IllegalArgumentException" ["java/lang/RuntimeException", "java/lang/Exception"]).filter goodWord)
def wsX0_requireDays : List Cond := .code yX0_requireDays cX0_requireDays 1 none :: ([.classLink RX0 53 "java/lang/IllegalArgumentException", .initialized "java/lang/IllegalArgumentException"] ++ (vx_atS RX0 57 "java/lang/IllegalArgumentException" ["java/lang/RuntimeException", "java/lang/Exception"]).filter goodWord)
def wsX0_weightWhenBorne : List Cond := .code yX0_weightWhenBorne cX0_weightWhenBorne 2 (some .int) :: ([.methodLink RX0 121 Lib.Math.max.name, .static Lib.Math.max.name, .initialized "java/lang/Math", .code Lib.Math.max.name Lib.Math.max.code 2 (some .int), .methodLink RX0 98 Lib.Math.min.name, .static Lib.Math.min.name, .code Lib.Math.min.name Lib.Math.min.code 2 (some .int)])
def wsX0_bearOneDay_r1 : List Cond := [Cond.fieldLink RX0 29 "ApologyLedger" "daysBorne" "[I", Cond.fieldLink RX0 32 "ApologyLedger" "daysQuiet" "[I", Cond.fieldLink RX0 23 "ApologyLedger" "weights" "[I", Cond.methodLink RX0 65 yX0_requireSlight, Cond.instanceMethod yX0_requireSlight, Cond.selects RX0 yX0_requireSlight yX0_requireSlight, Cond.initialized RX0, Cond.code yX0_requireSlight cX0_requireSlight 2 none, Cond.classLink RX0 143 "java/lang/IndexOutOfBoundsException", Cond.initialized "java/lang/IndexOutOfBoundsException", Cond.fieldLink RX0 60 "ApologyLedger" "slightCount" "I", Cond.methodLink RX0 124 yX0_weightWhenBorne, Cond.static yX0_weightWhenBorne, Cond.code yX0_weightWhenBorne cX0_weightWhenBorne 2 (some .int), Cond.methodLink RX0 121 Lib.Math.max.name, Cond.static Lib.Math.max.name, Cond.initialized "java/lang/Math", Cond.code Lib.Math.max.name Lib.Math.max.code 2 (some .int), Cond.methodLink RX0 98 Lib.Math.min.name, Cond.static Lib.Math.min.name, Cond.code Lib.Math.min.name Lib.Math.min.code 2 (some .int), Cond.methodLink RX0 161 yX0_close, Cond.instanceMethod yX0_close, Cond.selects RX0 yX0_close yX0_close]
def wsX0_bearOneDay_r2 : List Cond := [Cond.code yX0_close cX0_close 3 none, Cond.fieldLink RX0 26 "ApologyLedger" "states" "[I"]
def wsX0_bearOneDay : List Cond := .code yX0_bearOneDay cX0_bearOneDay 2 none :: ((wsX0_bearOneDay_r1 ++ wsX0_bearOneDay_r2) ++ wsX00 ++ (vx_atS RX0 147 "java/lang/IndexOutOfBoundsException" ["java/lang/RuntimeException", "java/lang/Exception"]).filter goodWord)
def wsX0_passOneDay_r1 : List Cond := [Cond.fieldLink RX0 60 "ApologyLedger" "slightCount" "I", Cond.fieldLink RX0 26 "ApologyLedger" "states" "[I", Cond.fieldLink RX0 110 "ApologyLedger" "today" "I", Cond.methodLink RX0 165 yX0_bearOneDay, Cond.instanceMethod yX0_bearOneDay, Cond.selects RX0 yX0_bearOneDay yX0_bearOneDay, Cond.initialized RX0, Cond.code yX0_bearOneDay cX0_bearOneDay 2 none, Cond.fieldLink RX0 29 "ApologyLedger" "daysBorne" "[I", Cond.fieldLink RX0 32 "ApologyLedger" "daysQuiet" "[I", Cond.fieldLink RX0 23 "ApologyLedger" "weights" "[I", Cond.methodLink RX0 65 yX0_requireSlight, Cond.instanceMethod yX0_requireSlight, Cond.selects RX0 yX0_requireSlight yX0_requireSlight, Cond.code yX0_requireSlight cX0_requireSlight 2 none, Cond.classLink RX0 143 "java/lang/IndexOutOfBoundsException", Cond.initialized "java/lang/IndexOutOfBoundsException", Cond.methodLink RX0 124 yX0_weightWhenBorne, Cond.static yX0_weightWhenBorne, Cond.code yX0_weightWhenBorne cX0_weightWhenBorne 2 (some .int), Cond.methodLink RX0 121 Lib.Math.max.name, Cond.static Lib.Math.max.name, Cond.initialized "java/lang/Math", Cond.code Lib.Math.max.name Lib.Math.max.code 2 (some .int)]
def wsX0_passOneDay_r2 : List Cond := [Cond.methodLink RX0 98 Lib.Math.min.name, Cond.static Lib.Math.min.name, Cond.code Lib.Math.min.name Lib.Math.min.code 2 (some .int), Cond.methodLink RX0 161 yX0_close, Cond.instanceMethod yX0_close, Cond.selects RX0 yX0_close yX0_close, Cond.code yX0_close cX0_close 3 none]
def wsX0_passOneDay : List Cond := .code yX0_passOneDay cX0_passOneDay 3 (some .int) :: ((wsX0_passOneDay_r1 ++ wsX0_passOneDay_r2) ++ wsX00 ++ (vx_atS RX0 147 "java/lang/IndexOutOfBoundsException" ["java/lang/RuntimeException", "java/lang/Exception"]).filter goodWord)
def wsX0_pass_r1 : List Cond := [Cond.methodLink RX0 103 yX0_requireDays, Cond.static yX0_requireDays, Cond.initialized RX0, Cond.code yX0_requireDays cX0_requireDays 1 none, Cond.classLink RX0 53 "java/lang/IllegalArgumentException", Cond.initialized "java/lang/IllegalArgumentException", Cond.methodLink RX0 106 yX0_passOneDay, Cond.instanceMethod yX0_passOneDay, Cond.selects RX0 yX0_passOneDay yX0_passOneDay, Cond.code yX0_passOneDay cX0_passOneDay 3 (some .int), Cond.fieldLink RX0 60 "ApologyLedger" "slightCount" "I", Cond.fieldLink RX0 26 "ApologyLedger" "states" "[I", Cond.fieldLink RX0 110 "ApologyLedger" "today" "I", Cond.methodLink RX0 165 yX0_bearOneDay, Cond.instanceMethod yX0_bearOneDay, Cond.selects RX0 yX0_bearOneDay yX0_bearOneDay, Cond.code yX0_bearOneDay cX0_bearOneDay 2 none, Cond.fieldLink RX0 29 "ApologyLedger" "daysBorne" "[I", Cond.fieldLink RX0 32 "ApologyLedger" "daysQuiet" "[I", Cond.fieldLink RX0 23 "ApologyLedger" "weights" "[I", Cond.methodLink RX0 65 yX0_requireSlight, Cond.instanceMethod yX0_requireSlight, Cond.selects RX0 yX0_requireSlight yX0_requireSlight, Cond.code yX0_requireSlight cX0_requireSlight 2 none]
def wsX0_pass_r2 : List Cond := [Cond.classLink RX0 143 "java/lang/IndexOutOfBoundsException", Cond.initialized "java/lang/IndexOutOfBoundsException", Cond.methodLink RX0 124 yX0_weightWhenBorne, Cond.static yX0_weightWhenBorne, Cond.code yX0_weightWhenBorne cX0_weightWhenBorne 2 (some .int), Cond.methodLink RX0 121 Lib.Math.max.name, Cond.static Lib.Math.max.name, Cond.initialized "java/lang/Math", Cond.code Lib.Math.max.name Lib.Math.max.code 2 (some .int), Cond.methodLink RX0 98 Lib.Math.min.name, Cond.static Lib.Math.min.name, Cond.code Lib.Math.min.name Lib.Math.min.code 2 (some .int), Cond.methodLink RX0 161 yX0_close, Cond.instanceMethod yX0_close, Cond.selects RX0 yX0_close yX0_close, Cond.code yX0_close cX0_close 3 none]
def wsX0_pass : List Cond := .code yX0_pass cX0_pass 4 (some .int) :: ((wsX0_pass_r1 ++ wsX0_pass_r2) ++ wsX00 ++ (vx_atS RX0 57 "java/lang/IllegalArgumentException" ["java/lang/RuntimeException", "java/lang/Exception"]).filter goodWord ++ (vx_atS RX0 147 "java/lang/IndexOutOfBoundsException" ["java/lang/RuntimeException", "java/lang/Exception"]).filter goodWord)
def wsX0_day : List Cond := .code yX0_day cX0_day 1 (some .int) :: ([.fieldLink RX0 110 "ApologyLedger" "today" "I"] ++ wsX00)
def wsX0_persons : List Cond := .code yX0_persons cX0_persons 1 (some .int) :: ([.fieldLink RX0 39 "ApologyLedger" "personCount" "I"] ++ wsX00)
def wsX0_slights : List Cond := .code yX0_slights cX0_slights 1 (some .int) :: ([.fieldLink RX0 60 "ApologyLedger" "slightCount" "I"] ++ wsX00)
def wsX0_inHall : List Cond := .code yX0_inHall cX0_inHall 3 (some .int) :: ([.fieldLink RX0 39 "ApologyLedger" "personCount" "I", .fieldLink RX0 13 "ApologyLedger" "present" "[Z"] ++ wsX00)
def wsX0_scorned : List Cond := .code yX0_scorned cX0_scorned 1 (some .int) :: ([.fieldLink RX0 85 "ApologyLedger" "scornedCount" "I"] ++ wsX00)
def wsX0_isInHall : List Cond := .code yX0_isInHall cX0_isInHall 2 (some .boolean) :: ([.fieldLink RX0 13 "ApologyLedger" "present" "[Z", .methodLink RX0 50 yX0_requirePerson, .instanceMethod yX0_requirePerson, .selects RX0 yX0_requirePerson yX0_requirePerson, .initialized RX0, .code yX0_requirePerson cX0_requirePerson 2 none, .classLink RX0 143 "java/lang/IndexOutOfBoundsException", .initialized "java/lang/IndexOutOfBoundsException", .fieldLink RX0 39 "ApologyLedger" "personCount" "I"] ++ wsX00 ++ (vx_atS RX0 147 "java/lang/IndexOutOfBoundsException" ["java/lang/RuntimeException", "java/lang/Exception"]).filter goodWord)
def wsX0_borneBy : List Cond := .code yX0_borneBy cX0_borneBy 4 (some .int) :: ([.fieldLink RX0 60 "ApologyLedger" "slightCount" "I", .fieldLink RX0 26 "ApologyLedger" "states" "[I", .fieldLink RX0 20 "ApologyLedger" "offendedOnes" "[I", .fieldLink RX0 23 "ApologyLedger" "weights" "[I", .methodLink RX0 50 yX0_requirePerson, .instanceMethod yX0_requirePerson, .selects RX0 yX0_requirePerson yX0_requirePerson, .initialized RX0, .code yX0_requirePerson cX0_requirePerson 2 none, .classLink RX0 143 "java/lang/IndexOutOfBoundsException", .initialized "java/lang/IndexOutOfBoundsException", .fieldLink RX0 39 "ApologyLedger" "personCount" "I"] ++ wsX00 ++ (vx_atS RX0 147 "java/lang/IndexOutOfBoundsException" ["java/lang/RuntimeException", "java/lang/Exception"]).filter goodWord)
def wsX0_owedBy : List Cond := .code yX0_owedBy cX0_owedBy 4 (some .int) :: ([.fieldLink RX0 60 "ApologyLedger" "slightCount" "I", .fieldLink RX0 26 "ApologyLedger" "states" "[I", .fieldLink RX0 17 "ApologyLedger" "offenders" "[I", .fieldLink RX0 23 "ApologyLedger" "weights" "[I", .methodLink RX0 50 yX0_requirePerson, .instanceMethod yX0_requirePerson, .selects RX0 yX0_requirePerson yX0_requirePerson, .initialized RX0, .code yX0_requirePerson cX0_requirePerson 2 none, .classLink RX0 143 "java/lang/IndexOutOfBoundsException", .initialized "java/lang/IndexOutOfBoundsException", .fieldLink RX0 39 "ApologyLedger" "personCount" "I"] ++ wsX00 ++ (vx_atS RX0 147 "java/lang/IndexOutOfBoundsException" ["java/lang/RuntimeException", "java/lang/Exception"]).filter goodWord)
def wsX0_weightBetween : List Cond := .code yX0_weightBetween cX0_weightBetween 5 (some .int) :: ([.fieldLink RX0 60 "ApologyLedger" "slightCount" "I", .fieldLink RX0 26 "ApologyLedger" "states" "[I", .fieldLink RX0 17 "ApologyLedger" "offenders" "[I", .fieldLink RX0 20 "ApologyLedger" "offendedOnes" "[I", .fieldLink RX0 23 "ApologyLedger" "weights" "[I"] ++ wsX00)
def wsX0_balance : List Cond := .code yX0_balance cX0_balance 3 (some .int) :: ([.methodLink RX0 50 yX0_requirePerson, .instanceMethod yX0_requirePerson, .selects RX0 yX0_requirePerson yX0_requirePerson, .initialized RX0, .code yX0_requirePerson cX0_requirePerson 2 none, .classLink RX0 143 "java/lang/IndexOutOfBoundsException", .initialized "java/lang/IndexOutOfBoundsException", .fieldLink RX0 39 "ApologyLedger" "personCount" "I", .methodLink RX0 113 yX0_weightBetween, .instanceMethod yX0_weightBetween, .selects RX0 yX0_weightBetween yX0_weightBetween, .code yX0_weightBetween cX0_weightBetween 5 (some .int), .fieldLink RX0 60 "ApologyLedger" "slightCount" "I", .fieldLink RX0 26 "ApologyLedger" "states" "[I", .fieldLink RX0 17 "ApologyLedger" "offenders" "[I", .fieldLink RX0 20 "ApologyLedger" "offendedOnes" "[I", .fieldLink RX0 23 "ApologyLedger" "weights" "[I"] ++ wsX00 ++ (vx_atS RX0 147 "java/lang/IndexOutOfBoundsException" ["java/lang/RuntimeException", "java/lang/Exception"]).filter goodWord)
def wsX0_sorest : List Cond := .code yX0_sorest cX0_sorest 5 (some .int) :: ([.fieldLink RX0 39 "ApologyLedger" "personCount" "I", .methodLink RX0 116 yX0_borneBy, .instanceMethod yX0_borneBy, .selects RX0 yX0_borneBy yX0_borneBy, .initialized RX0, .code yX0_borneBy cX0_borneBy 4 (some .int), .fieldLink RX0 60 "ApologyLedger" "slightCount" "I", .fieldLink RX0 26 "ApologyLedger" "states" "[I", .fieldLink RX0 20 "ApologyLedger" "offendedOnes" "[I", .fieldLink RX0 23 "ApologyLedger" "weights" "[I", .methodLink RX0 50 yX0_requirePerson, .instanceMethod yX0_requirePerson, .selects RX0 yX0_requirePerson yX0_requirePerson, .code yX0_requirePerson cX0_requirePerson 2 none, .classLink RX0 143 "java/lang/IndexOutOfBoundsException", .initialized "java/lang/IndexOutOfBoundsException"] ++ wsX00 ++ (vx_atS RX0 147 "java/lang/IndexOutOfBoundsException" ["java/lang/RuntimeException", "java/lang/Exception"]).filter goodWord)
def wsX0_borneFor : List Cond := .code yX0_borneFor cX0_borneFor 2 (some .int) :: ([.fieldLink RX0 29 "ApologyLedger" "daysBorne" "[I", .methodLink RX0 65 yX0_requireSlight, .instanceMethod yX0_requireSlight, .selects RX0 yX0_requireSlight yX0_requireSlight, .initialized RX0, .code yX0_requireSlight cX0_requireSlight 2 none, .classLink RX0 143 "java/lang/IndexOutOfBoundsException", .initialized "java/lang/IndexOutOfBoundsException", .fieldLink RX0 60 "ApologyLedger" "slightCount" "I"] ++ wsX00 ++ (vx_atS RX0 147 "java/lang/IndexOutOfBoundsException" ["java/lang/RuntimeException", "java/lang/Exception"]).filter goodWord)
def wsX0_quietFor : List Cond := .code yX0_quietFor cX0_quietFor 2 (some .int) :: ([.fieldLink RX0 32 "ApologyLedger" "daysQuiet" "[I", .methodLink RX0 65 yX0_requireSlight, .instanceMethod yX0_requireSlight, .selects RX0 yX0_requireSlight yX0_requireSlight, .initialized RX0, .code yX0_requireSlight cX0_requireSlight 2 none, .classLink RX0 143 "java/lang/IndexOutOfBoundsException", .initialized "java/lang/IndexOutOfBoundsException", .fieldLink RX0 60 "ApologyLedger" "slightCount" "I"] ++ wsX00 ++ (vx_atS RX0 147 "java/lang/IndexOutOfBoundsException" ["java/lang/RuntimeException", "java/lang/Exception"]).filter goodWord)
def wsX0_inState : List Cond := .code yX0_inState cX0_inState 4 (some .int) :: ([.classLink RX0 53 "java/lang/IllegalArgumentException", .initialized "java/lang/IllegalArgumentException", .fieldLink RX0 60 "ApologyLedger" "slightCount" "I", .fieldLink RX0 26 "ApologyLedger" "states" "[I"] ++ wsX00 ++ (vx_atS RX0 57 "java/lang/IllegalArgumentException" ["java/lang/RuntimeException", "java/lang/Exception"]).filter goodWord)
def wsX0_heaviest : List Cond := .code yX0_heaviest cX0_heaviest 4 (some .int) :: ([.fieldLink RX0 60 "ApologyLedger" "slightCount" "I", .fieldLink RX0 26 "ApologyLedger" "states" "[I", .fieldLink RX0 23 "ApologyLedger" "weights" "[I"] ++ wsX00)
def wsX0_pairsToSetOff : List Cond := .code yX0_pairsToSetOff cX0_pairsToSetOff 4 (some .int) :: ([.fieldLink RX0 60 "ApologyLedger" "slightCount" "I", .fieldLink RX0 26 "ApologyLedger" "states" "[I", .methodLink RX0 92 yX0_areAgainstEachOther, .instanceMethod yX0_areAgainstEachOther, .selects RX0 yX0_areAgainstEachOther yX0_areAgainstEachOther, .initialized RX0, .code yX0_areAgainstEachOther cX0_areAgainstEachOther 3 (some .boolean), .methodLink RX0 180 yX0_offenderOf, .instanceMethod yX0_offenderOf, .selects RX0 yX0_offenderOf yX0_offenderOf, .code yX0_offenderOf cX0_offenderOf 2 (some .int), .fieldLink RX0 17 "ApologyLedger" "offenders" "[I", .methodLink RX0 65 yX0_requireSlight, .instanceMethod yX0_requireSlight, .selects RX0 yX0_requireSlight yX0_requireSlight, .code yX0_requireSlight cX0_requireSlight 2 none, .classLink RX0 143 "java/lang/IndexOutOfBoundsException", .initialized "java/lang/IndexOutOfBoundsException", .methodLink RX0 171 yX0_offendedOf, .instanceMethod yX0_offendedOf, .selects RX0 yX0_offendedOf yX0_offendedOf, .code yX0_offendedOf cX0_offendedOf 2 (some .int), .fieldLink RX0 20 "ApologyLedger" "offendedOnes" "[I"] ++ wsX00 ++ (vx_atS RX0 147 "java/lang/IndexOutOfBoundsException" ["java/lang/RuntimeException", "java/lang/Exception"]).filter goodWord)
def wsX0_wordsWanted_r1 : List Cond := [Cond.fieldLink RX0 26 "ApologyLedger" "states" "[I", Cond.fieldLink RX0 23 "ApologyLedger" "weights" "[I", Cond.methodLink RX0 121 Lib.Math.max.name, Cond.static Lib.Math.max.name, Cond.initialized "java/lang/Math", Cond.code Lib.Math.max.name Lib.Math.max.code 2 (some .int), Cond.methodLink RX0 65 yX0_requireSlight, Cond.instanceMethod yX0_requireSlight, Cond.selects RX0 yX0_requireSlight yX0_requireSlight, Cond.initialized RX0, Cond.code yX0_requireSlight cX0_requireSlight 2 none, Cond.classLink RX0 143 "java/lang/IndexOutOfBoundsException", Cond.initialized "java/lang/IndexOutOfBoundsException", Cond.fieldLink RX0 60 "ApologyLedger" "slightCount" "I", Cond.methodLink RX0 81 yX0_leastWorthHeard, Cond.instanceMethod yX0_leastWorthHeard, Cond.selects RX0 yX0_leastWorthHeard yX0_leastWorthHeard, Cond.code yX0_leastWorthHeard cX0_leastWorthHeard 2 (some .int), Cond.methodLink RX0 171 yX0_offendedOf, Cond.instanceMethod yX0_offendedOf, Cond.selects RX0 yX0_offendedOf yX0_offendedOf, Cond.code yX0_offendedOf cX0_offendedOf 2 (some .int), Cond.fieldLink RX0 20 "ApologyLedger" "offendedOnes" "[I", Cond.methodLink RX0 174 yX0_prideOf]
def wsX0_wordsWanted_r2 : List Cond := [Cond.instanceMethod yX0_prideOf, Cond.selects RX0 yX0_prideOf yX0_prideOf, Cond.code yX0_prideOf cX0_prideOf 2 (some .int), Cond.fieldLink RX0 9 "ApologyLedger" "prides" "[I", Cond.methodLink RX0 50 yX0_requirePerson, Cond.instanceMethod yX0_requirePerson, Cond.selects RX0 yX0_requirePerson yX0_requirePerson, Cond.code yX0_requirePerson cX0_requirePerson 2 none, Cond.fieldLink RX0 39 "ApologyLedger" "personCount" "I", Cond.methodLink RX0 177 yX0_weightOf, Cond.instanceMethod yX0_weightOf, Cond.selects RX0 yX0_weightOf yX0_weightOf, Cond.code yX0_weightOf cX0_weightOf 2 (some .int), Cond.methodLink RX0 77 yX0_worthOf, Cond.instanceMethod yX0_worthOf, Cond.selects RX0 yX0_worthOf yX0_worthOf, Cond.code yX0_worthOf cX0_worthOf 3 (some .int), Cond.methodLink RX0 168 yX0_witnessesFor, Cond.instanceMethod yX0_witnessesFor, Cond.selects RX0 yX0_witnessesFor yX0_witnessesFor, Cond.code yX0_witnessesFor cX0_witnessesFor 4 (some .int), Cond.fieldLink RX0 13 "ApologyLedger" "present" "[Z", Cond.fieldLink RX0 17 "ApologyLedger" "offenders" "[I"]
def wsX0_wordsWanted : List Cond := .code yX0_wordsWanted cX0_wordsWanted 4 (some .int) :: ((wsX0_wordsWanted_r1 ++ wsX0_wordsWanted_r2) ++ wsX00 ++ (vx_atS RX0 147 "java/lang/IndexOutOfBoundsException" ["java/lang/RuntimeException", "java/lang/Exception"]).filter goodWord)
def wsX0_wouldBeScorned_r1 : List Cond := [Cond.fieldLink RX0 26 "ApologyLedger" "states" "[I", Cond.methodLink RX0 65 yX0_requireSlight, Cond.instanceMethod yX0_requireSlight, Cond.selects RX0 yX0_requireSlight yX0_requireSlight, Cond.initialized RX0, Cond.code yX0_requireSlight cX0_requireSlight 2 none, Cond.classLink RX0 143 "java/lang/IndexOutOfBoundsException", Cond.initialized "java/lang/IndexOutOfBoundsException", Cond.fieldLink RX0 60 "ApologyLedger" "slightCount" "I", Cond.methodLink RX0 74 yX0_requireWords, Cond.static yX0_requireWords, Cond.code yX0_requireWords cX0_requireWords 1 none, Cond.classLink RX0 53 "java/lang/IllegalArgumentException", Cond.initialized "java/lang/IllegalArgumentException", Cond.methodLink RX0 77 yX0_worthOf, Cond.instanceMethod yX0_worthOf, Cond.selects RX0 yX0_worthOf yX0_worthOf, Cond.code yX0_worthOf cX0_worthOf 3 (some .int), Cond.methodLink RX0 168 yX0_witnessesFor, Cond.instanceMethod yX0_witnessesFor, Cond.selects RX0 yX0_witnessesFor yX0_witnessesFor, Cond.code yX0_witnessesFor cX0_witnessesFor 4 (some .int), Cond.fieldLink RX0 39 "ApologyLedger" "personCount" "I", Cond.fieldLink RX0 13 "ApologyLedger" "present" "[Z"]
def wsX0_wouldBeScorned_r2 : List Cond := [Cond.fieldLink RX0 17 "ApologyLedger" "offenders" "[I", Cond.fieldLink RX0 20 "ApologyLedger" "offendedOnes" "[I", Cond.methodLink RX0 81 yX0_leastWorthHeard, Cond.instanceMethod yX0_leastWorthHeard, Cond.selects RX0 yX0_leastWorthHeard yX0_leastWorthHeard, Cond.code yX0_leastWorthHeard cX0_leastWorthHeard 2 (some .int), Cond.methodLink RX0 121 Lib.Math.max.name, Cond.static Lib.Math.max.name, Cond.initialized "java/lang/Math", Cond.code Lib.Math.max.name Lib.Math.max.code 2 (some .int), Cond.methodLink RX0 171 yX0_offendedOf, Cond.instanceMethod yX0_offendedOf, Cond.selects RX0 yX0_offendedOf yX0_offendedOf, Cond.code yX0_offendedOf cX0_offendedOf 2 (some .int), Cond.methodLink RX0 174 yX0_prideOf, Cond.instanceMethod yX0_prideOf, Cond.selects RX0 yX0_prideOf yX0_prideOf, Cond.code yX0_prideOf cX0_prideOf 2 (some .int), Cond.fieldLink RX0 9 "ApologyLedger" "prides" "[I", Cond.methodLink RX0 50 yX0_requirePerson, Cond.instanceMethod yX0_requirePerson, Cond.selects RX0 yX0_requirePerson yX0_requirePerson, Cond.code yX0_requirePerson cX0_requirePerson 2 none, Cond.methodLink RX0 177 yX0_weightOf]
def wsX0_wouldBeScorned_r3 : List Cond := [Cond.instanceMethod yX0_weightOf, Cond.selects RX0 yX0_weightOf yX0_weightOf, Cond.code yX0_weightOf cX0_weightOf 2 (some .int), Cond.fieldLink RX0 23 "ApologyLedger" "weights" "[I"]
def wsX0_wouldBeScorned : List Cond := .code yX0_wouldBeScorned cX0_wouldBeScorned 3 (some .boolean) :: ((wsX0_wouldBeScorned_r1 ++ (wsX0_wouldBeScorned_r2 ++ wsX0_wouldBeScorned_r3)) ++ wsX00 ++ (vx_atS RX0 147 "java/lang/IndexOutOfBoundsException" ["java/lang/RuntimeException", "java/lang/Exception"]).filter goodWord ++ (vx_atS RX0 57 "java/lang/IllegalArgumentException" ["java/lang/RuntimeException", "java/lang/Exception"]).filter goodWord)
def wsX0_weightIn_r1 : List Cond := [Cond.fieldLink RX0 26 "ApologyLedger" "states" "[I", Cond.fieldLink RX0 32 "ApologyLedger" "daysQuiet" "[I", Cond.fieldLink RX0 23 "ApologyLedger" "weights" "[I", Cond.fieldLink RX0 29 "ApologyLedger" "daysBorne" "[I", Cond.methodLink RX0 65 yX0_requireSlight, Cond.instanceMethod yX0_requireSlight, Cond.selects RX0 yX0_requireSlight yX0_requireSlight, Cond.initialized RX0, Cond.code yX0_requireSlight cX0_requireSlight 2 none, Cond.classLink RX0 143 "java/lang/IndexOutOfBoundsException", Cond.initialized "java/lang/IndexOutOfBoundsException", Cond.fieldLink RX0 60 "ApologyLedger" "slightCount" "I", Cond.methodLink RX0 103 yX0_requireDays, Cond.static yX0_requireDays, Cond.code yX0_requireDays cX0_requireDays 1 none, Cond.classLink RX0 53 "java/lang/IllegalArgumentException", Cond.initialized "java/lang/IllegalArgumentException", Cond.methodLink RX0 124 yX0_weightWhenBorne, Cond.static yX0_weightWhenBorne, Cond.code yX0_weightWhenBorne cX0_weightWhenBorne 2 (some .int), Cond.methodLink RX0 121 Lib.Math.max.name, Cond.static Lib.Math.max.name, Cond.initialized "java/lang/Math", Cond.code Lib.Math.max.name Lib.Math.max.code 2 (some .int)]
def wsX0_weightIn_r2 : List Cond := [Cond.methodLink RX0 98 Lib.Math.min.name, Cond.static Lib.Math.min.name, Cond.code Lib.Math.min.name Lib.Math.min.code 2 (some .int)]
def wsX0_weightIn : List Cond := .code yX0_weightIn cX0_weightIn 5 (some .int) :: ((wsX0_weightIn_r1 ++ wsX0_weightIn_r2) ++ wsX00 ++ (vx_atS RX0 147 "java/lang/IndexOutOfBoundsException" ["java/lang/RuntimeException", "java/lang/Exception"]).filter goodWord ++ (vx_atS RX0 57 "java/lang/IllegalArgumentException" ["java/lang/RuntimeException", "java/lang/Exception"]).filter goodWord)
def wsX0_daysUntilForgotten : List Cond := .code yX0_daysUntilForgotten cX0_daysUntilForgotten 2 (some .int) :: ([.fieldLink RX0 26 "ApologyLedger" "states" "[I", .fieldLink RX0 32 "ApologyLedger" "daysQuiet" "[I", .methodLink RX0 65 yX0_requireSlight, .instanceMethod yX0_requireSlight, .selects RX0 yX0_requireSlight yX0_requireSlight, .initialized RX0, .code yX0_requireSlight cX0_requireSlight 2 none, .classLink RX0 143 "java/lang/IndexOutOfBoundsException", .initialized "java/lang/IndexOutOfBoundsException", .fieldLink RX0 60 "ApologyLedger" "slightCount" "I"] ++ wsX00 ++ (vx_atS RX0 147 "java/lang/IndexOutOfBoundsException" ["java/lang/RuntimeException", "java/lang/Exception"]).filter goodWord)
def wsX0_borneIn_r1 : List Cond := [Cond.fieldLink RX0 60 "ApologyLedger" "slightCount" "I", Cond.fieldLink RX0 20 "ApologyLedger" "offendedOnes" "[I", Cond.methodLink RX0 50 yX0_requirePerson, Cond.instanceMethod yX0_requirePerson, Cond.selects RX0 yX0_requirePerson yX0_requirePerson, Cond.initialized RX0, Cond.code yX0_requirePerson cX0_requirePerson 2 none, Cond.classLink RX0 143 "java/lang/IndexOutOfBoundsException", Cond.initialized "java/lang/IndexOutOfBoundsException", Cond.fieldLink RX0 39 "ApologyLedger" "personCount" "I", Cond.methodLink RX0 103 yX0_requireDays, Cond.static yX0_requireDays, Cond.code yX0_requireDays cX0_requireDays 1 none, Cond.classLink RX0 53 "java/lang/IllegalArgumentException", Cond.initialized "java/lang/IllegalArgumentException", Cond.methodLink RX0 127 yX0_weightIn, Cond.instanceMethod yX0_weightIn, Cond.selects RX0 yX0_weightIn yX0_weightIn, Cond.code yX0_weightIn cX0_weightIn 5 (some .int), Cond.fieldLink RX0 26 "ApologyLedger" "states" "[I", Cond.fieldLink RX0 32 "ApologyLedger" "daysQuiet" "[I", Cond.fieldLink RX0 23 "ApologyLedger" "weights" "[I", Cond.fieldLink RX0 29 "ApologyLedger" "daysBorne" "[I", Cond.methodLink RX0 65 yX0_requireSlight]
def wsX0_borneIn_r2 : List Cond := [Cond.instanceMethod yX0_requireSlight, Cond.selects RX0 yX0_requireSlight yX0_requireSlight, Cond.code yX0_requireSlight cX0_requireSlight 2 none, Cond.methodLink RX0 124 yX0_weightWhenBorne, Cond.static yX0_weightWhenBorne, Cond.code yX0_weightWhenBorne cX0_weightWhenBorne 2 (some .int), Cond.methodLink RX0 121 Lib.Math.max.name, Cond.static Lib.Math.max.name, Cond.initialized "java/lang/Math", Cond.code Lib.Math.max.name Lib.Math.max.code 2 (some .int), Cond.methodLink RX0 98 Lib.Math.min.name, Cond.static Lib.Math.min.name, Cond.code Lib.Math.min.name Lib.Math.min.code 2 (some .int)]
def wsX0_borneIn : List Cond := .code yX0_borneIn cX0_borneIn 5 (some .int) :: ((wsX0_borneIn_r1 ++ wsX0_borneIn_r2) ++ wsX00 ++ (vx_atS RX0 147 "java/lang/IndexOutOfBoundsException" ["java/lang/RuntimeException", "java/lang/Exception"]).filter goodWord ++ (vx_atS RX0 57 "java/lang/IllegalArgumentException" ["java/lang/RuntimeException", "java/lang/Exception"]).filter goodWord)
def wsX0_worstToKeep_r1 : List Cond := [Cond.fieldLink RX0 60 "ApologyLedger" "slightCount" "I", Cond.fieldLink RX0 26 "ApologyLedger" "states" "[I", Cond.fieldLink RX0 17 "ApologyLedger" "offenders" "[I", Cond.fieldLink RX0 23 "ApologyLedger" "weights" "[I", Cond.methodLink RX0 50 yX0_requirePerson, Cond.instanceMethod yX0_requirePerson, Cond.selects RX0 yX0_requirePerson yX0_requirePerson, Cond.initialized RX0, Cond.code yX0_requirePerson cX0_requirePerson 2 none, Cond.classLink RX0 143 "java/lang/IndexOutOfBoundsException", Cond.initialized "java/lang/IndexOutOfBoundsException", Cond.fieldLink RX0 39 "ApologyLedger" "personCount" "I", Cond.methodLink RX0 127 yX0_weightIn, Cond.instanceMethod yX0_weightIn, Cond.selects RX0 yX0_weightIn yX0_weightIn, Cond.code yX0_weightIn cX0_weightIn 5 (some .int), Cond.fieldLink RX0 32 "ApologyLedger" "daysQuiet" "[I", Cond.fieldLink RX0 29 "ApologyLedger" "daysBorne" "[I", Cond.methodLink RX0 65 yX0_requireSlight, Cond.instanceMethod yX0_requireSlight, Cond.selects RX0 yX0_requireSlight yX0_requireSlight, Cond.code yX0_requireSlight cX0_requireSlight 2 none, Cond.methodLink RX0 103 yX0_requireDays, Cond.static yX0_requireDays]
def wsX0_worstToKeep_r2 : List Cond := [Cond.code yX0_requireDays cX0_requireDays 1 none, Cond.classLink RX0 53 "java/lang/IllegalArgumentException", Cond.initialized "java/lang/IllegalArgumentException", Cond.methodLink RX0 124 yX0_weightWhenBorne, Cond.static yX0_weightWhenBorne, Cond.code yX0_weightWhenBorne cX0_weightWhenBorne 2 (some .int), Cond.methodLink RX0 121 Lib.Math.max.name, Cond.static Lib.Math.max.name, Cond.initialized "java/lang/Math", Cond.code Lib.Math.max.name Lib.Math.max.code 2 (some .int), Cond.methodLink RX0 98 Lib.Math.min.name, Cond.static Lib.Math.min.name, Cond.code Lib.Math.min.name Lib.Math.min.code 2 (some .int)]
def wsX0_worstToKeep : List Cond := .code yX0_worstToKeep cX0_worstToKeep 6 (some .int) :: ((wsX0_worstToKeep_r1 ++ wsX0_worstToKeep_r2) ++ wsX00 ++ (vx_atS RX0 147 "java/lang/IndexOutOfBoundsException" ["java/lang/RuntimeException", "java/lang/Exception"]).filter goodWord ++ (vx_atS RX0 57 "java/lang/IllegalArgumentException" ["java/lang/RuntimeException", "java/lang/Exception"]).filter goodWord)
def wsX0_meanWeight : List Cond := .code yX0_meanWeight cX0_meanWeight 4 (some .double) :: ([.fieldLink RX0 60 "ApologyLedger" "slightCount" "I", .fieldLink RX0 26 "ApologyLedger" "states" "[I", .fieldLink RX0 23 "ApologyLedger" "weights" "[I"] ++ wsX00)
def wsX0_digestWith : List Cond := .code yX0_digestWith cX0_digestWith 4 (some .long) :: ([.constantLong RX0 183 (31)])
def wsX0_digestOfTheWhole_r1 : List Cond := [Cond.methodLink RX0 185 yX0_day, Cond.instanceMethod yX0_day, Cond.selects RX0 yX0_day yX0_day, Cond.initialized RX0, Cond.code yX0_day cX0_day 1 (some .int), Cond.fieldLink RX0 110 "ApologyLedger" "today" "I", Cond.methodLink RX0 188 yX0_digestWith, Cond.static yX0_digestWith, Cond.code yX0_digestWith cX0_digestWith 4 (some .long), Cond.constantLong RX0 183 (31), Cond.methodLink RX0 192 yX0_persons, Cond.instanceMethod yX0_persons, Cond.selects RX0 yX0_persons yX0_persons, Cond.code yX0_persons cX0_persons 1 (some .int), Cond.fieldLink RX0 39 "ApologyLedger" "personCount" "I", Cond.methodLink RX0 195 yX0_slights, Cond.instanceMethod yX0_slights, Cond.selects RX0 yX0_slights yX0_slights, Cond.code yX0_slights cX0_slights 1 (some .int), Cond.fieldLink RX0 60 "ApologyLedger" "slightCount" "I", Cond.methodLink RX0 198 yX0_inHall, Cond.instanceMethod yX0_inHall, Cond.selects RX0 yX0_inHall yX0_inHall, Cond.code yX0_inHall cX0_inHall 3 (some .int)]
def wsX0_digestOfTheWhole_r2 : List Cond := [Cond.fieldLink RX0 13 "ApologyLedger" "present" "[Z", Cond.methodLink RX0 201 yX0_scorned, Cond.instanceMethod yX0_scorned, Cond.selects RX0 yX0_scorned yX0_scorned, Cond.code yX0_scorned cX0_scorned 1 (some .int), Cond.fieldLink RX0 85 "ApologyLedger" "scornedCount" "I", Cond.methodLink RX0 204 yX0_sorest, Cond.instanceMethod yX0_sorest, Cond.selects RX0 yX0_sorest yX0_sorest, Cond.code yX0_sorest cX0_sorest 5 (some .int), Cond.methodLink RX0 116 yX0_borneBy, Cond.instanceMethod yX0_borneBy, Cond.selects RX0 yX0_borneBy yX0_borneBy, Cond.code yX0_borneBy cX0_borneBy 4 (some .int), Cond.fieldLink RX0 26 "ApologyLedger" "states" "[I", Cond.fieldLink RX0 20 "ApologyLedger" "offendedOnes" "[I", Cond.fieldLink RX0 23 "ApologyLedger" "weights" "[I", Cond.methodLink RX0 50 yX0_requirePerson, Cond.instanceMethod yX0_requirePerson, Cond.selects RX0 yX0_requirePerson yX0_requirePerson, Cond.code yX0_requirePerson cX0_requirePerson 2 none, Cond.classLink RX0 143 "java/lang/IndexOutOfBoundsException", Cond.initialized "java/lang/IndexOutOfBoundsException", Cond.methodLink RX0 207 yX0_inState]
def wsX0_digestOfTheWhole_r3 : List Cond := [Cond.instanceMethod yX0_inState, Cond.selects RX0 yX0_inState yX0_inState, Cond.code yX0_inState cX0_inState 4 (some .int), Cond.classLink RX0 53 "java/lang/IllegalArgumentException", Cond.initialized "java/lang/IllegalArgumentException", Cond.methodLink RX0 210 yX0_heaviest, Cond.instanceMethod yX0_heaviest, Cond.selects RX0 yX0_heaviest yX0_heaviest, Cond.code yX0_heaviest cX0_heaviest 4 (some .int), Cond.methodLink RX0 213 yX0_pairsToSetOff, Cond.instanceMethod yX0_pairsToSetOff, Cond.selects RX0 yX0_pairsToSetOff yX0_pairsToSetOff, Cond.code yX0_pairsToSetOff cX0_pairsToSetOff 4 (some .int), Cond.methodLink RX0 92 yX0_areAgainstEachOther, Cond.instanceMethod yX0_areAgainstEachOther, Cond.selects RX0 yX0_areAgainstEachOther yX0_areAgainstEachOther, Cond.code yX0_areAgainstEachOther cX0_areAgainstEachOther 3 (some .boolean), Cond.methodLink RX0 180 yX0_offenderOf, Cond.instanceMethod yX0_offenderOf, Cond.selects RX0 yX0_offenderOf yX0_offenderOf, Cond.code yX0_offenderOf cX0_offenderOf 2 (some .int), Cond.fieldLink RX0 17 "ApologyLedger" "offenders" "[I", Cond.methodLink RX0 65 yX0_requireSlight, Cond.instanceMethod yX0_requireSlight]
def wsX0_digestOfTheWhole_r4 : List Cond := [Cond.selects RX0 yX0_requireSlight yX0_requireSlight, Cond.code yX0_requireSlight cX0_requireSlight 2 none, Cond.methodLink RX0 171 yX0_offendedOf, Cond.instanceMethod yX0_offendedOf, Cond.selects RX0 yX0_offendedOf yX0_offendedOf, Cond.code yX0_offendedOf cX0_offendedOf 2 (some .int)]
def wsX0_digestOfTheWhole : List Cond := .code yX0_digestOfTheWhole cX0_digestOfTheWhole 6 (some .long) :: ((wsX0_digestOfTheWhole_r1 ++ (wsX0_digestOfTheWhole_r2 ++ (wsX0_digestOfTheWhole_r3 ++ wsX0_digestOfTheWhole_r4))) ++ wsX00 ++ (vx_atS RX0 147 "java/lang/IndexOutOfBoundsException" ["java/lang/RuntimeException", "java/lang/Exception"]).filter goodWord ++ (vx_atS RX0 57 "java/lang/IllegalArgumentException" ["java/lang/RuntimeException", "java/lang/Exception"]).filter goodWord)
def wsX0_digestOfPerson_r1 : List Cond := [Cond.methodLink RX0 216 yX0_isInHall, Cond.instanceMethod yX0_isInHall, Cond.selects RX0 yX0_isInHall yX0_isInHall, Cond.initialized RX0, Cond.code yX0_isInHall cX0_isInHall 2 (some .boolean), Cond.fieldLink RX0 13 "ApologyLedger" "present" "[Z", Cond.methodLink RX0 50 yX0_requirePerson, Cond.instanceMethod yX0_requirePerson, Cond.selects RX0 yX0_requirePerson yX0_requirePerson, Cond.code yX0_requirePerson cX0_requirePerson 2 none, Cond.classLink RX0 143 "java/lang/IndexOutOfBoundsException", Cond.initialized "java/lang/IndexOutOfBoundsException", Cond.fieldLink RX0 39 "ApologyLedger" "personCount" "I", Cond.methodLink RX0 188 yX0_digestWith, Cond.static yX0_digestWith, Cond.code yX0_digestWith cX0_digestWith 4 (some .long), Cond.constantLong RX0 183 (31), Cond.methodLink RX0 174 yX0_prideOf, Cond.instanceMethod yX0_prideOf, Cond.selects RX0 yX0_prideOf yX0_prideOf, Cond.code yX0_prideOf cX0_prideOf 2 (some .int), Cond.fieldLink RX0 9 "ApologyLedger" "prides" "[I", Cond.methodLink RX0 116 yX0_borneBy, Cond.instanceMethod yX0_borneBy]
def wsX0_digestOfPerson_r2 : List Cond := [Cond.selects RX0 yX0_borneBy yX0_borneBy, Cond.code yX0_borneBy cX0_borneBy 4 (some .int), Cond.fieldLink RX0 60 "ApologyLedger" "slightCount" "I", Cond.fieldLink RX0 26 "ApologyLedger" "states" "[I", Cond.fieldLink RX0 20 "ApologyLedger" "offendedOnes" "[I", Cond.fieldLink RX0 23 "ApologyLedger" "weights" "[I", Cond.methodLink RX0 220 yX0_owedBy, Cond.instanceMethod yX0_owedBy, Cond.selects RX0 yX0_owedBy yX0_owedBy, Cond.code yX0_owedBy cX0_owedBy 4 (some .int), Cond.fieldLink RX0 17 "ApologyLedger" "offenders" "[I", Cond.methodLink RX0 223 yX0_borneIn, Cond.instanceMethod yX0_borneIn, Cond.selects RX0 yX0_borneIn yX0_borneIn, Cond.code yX0_borneIn cX0_borneIn 5 (some .int), Cond.methodLink RX0 103 yX0_requireDays, Cond.static yX0_requireDays, Cond.code yX0_requireDays cX0_requireDays 1 none, Cond.classLink RX0 53 "java/lang/IllegalArgumentException", Cond.initialized "java/lang/IllegalArgumentException", Cond.methodLink RX0 127 yX0_weightIn, Cond.instanceMethod yX0_weightIn, Cond.selects RX0 yX0_weightIn yX0_weightIn, Cond.code yX0_weightIn cX0_weightIn 5 (some .int)]
def wsX0_digestOfPerson_r3 : List Cond := [Cond.fieldLink RX0 32 "ApologyLedger" "daysQuiet" "[I", Cond.fieldLink RX0 29 "ApologyLedger" "daysBorne" "[I", Cond.methodLink RX0 65 yX0_requireSlight, Cond.instanceMethod yX0_requireSlight, Cond.selects RX0 yX0_requireSlight yX0_requireSlight, Cond.code yX0_requireSlight cX0_requireSlight 2 none, Cond.methodLink RX0 124 yX0_weightWhenBorne, Cond.static yX0_weightWhenBorne, Cond.code yX0_weightWhenBorne cX0_weightWhenBorne 2 (some .int), Cond.methodLink RX0 121 Lib.Math.max.name, Cond.static Lib.Math.max.name, Cond.initialized "java/lang/Math", Cond.code Lib.Math.max.name Lib.Math.max.code 2 (some .int), Cond.methodLink RX0 98 Lib.Math.min.name, Cond.static Lib.Math.min.name, Cond.code Lib.Math.min.name Lib.Math.min.code 2 (some .int), Cond.methodLink RX0 226 yX0_worstToKeep, Cond.instanceMethod yX0_worstToKeep, Cond.selects RX0 yX0_worstToKeep yX0_worstToKeep, Cond.code yX0_worstToKeep cX0_worstToKeep 6 (some .int)]
def wsX0_digestOfPerson : List Cond := .code yX0_digestOfPerson cX0_digestOfPerson 6 (some .long) :: ((wsX0_digestOfPerson_r1 ++ (wsX0_digestOfPerson_r2 ++ wsX0_digestOfPerson_r3)) ++ wsX00 ++ (vx_atS RX0 147 "java/lang/IndexOutOfBoundsException" ["java/lang/RuntimeException", "java/lang/Exception"]).filter goodWord ++ (vx_atS RX0 57 "java/lang/IllegalArgumentException" ["java/lang/RuntimeException", "java/lang/Exception"]).filter goodWord)
def wsX0_digestOfSlight_r1 : List Cond := [Cond.methodLink RX0 177 yX0_weightOf, Cond.instanceMethod yX0_weightOf, Cond.selects RX0 yX0_weightOf yX0_weightOf, Cond.initialized RX0, Cond.code yX0_weightOf cX0_weightOf 2 (some .int), Cond.fieldLink RX0 23 "ApologyLedger" "weights" "[I", Cond.methodLink RX0 65 yX0_requireSlight, Cond.instanceMethod yX0_requireSlight, Cond.selects RX0 yX0_requireSlight yX0_requireSlight, Cond.code yX0_requireSlight cX0_requireSlight 2 none, Cond.classLink RX0 143 "java/lang/IndexOutOfBoundsException", Cond.initialized "java/lang/IndexOutOfBoundsException", Cond.fieldLink RX0 60 "ApologyLedger" "slightCount" "I", Cond.methodLink RX0 188 yX0_digestWith, Cond.static yX0_digestWith, Cond.code yX0_digestWith cX0_digestWith 4 (some .long), Cond.constantLong RX0 183 (31), Cond.methodLink RX0 150 yX0_stateOf, Cond.instanceMethod yX0_stateOf, Cond.selects RX0 yX0_stateOf yX0_stateOf, Cond.code yX0_stateOf cX0_stateOf 2 (some .int), Cond.fieldLink RX0 26 "ApologyLedger" "states" "[I", Cond.methodLink RX0 229 yX0_borneFor, Cond.instanceMethod yX0_borneFor]
def wsX0_digestOfSlight_r2 : List Cond := [Cond.selects RX0 yX0_borneFor yX0_borneFor, Cond.code yX0_borneFor cX0_borneFor 2 (some .int), Cond.fieldLink RX0 29 "ApologyLedger" "daysBorne" "[I", Cond.methodLink RX0 232 yX0_quietFor, Cond.instanceMethod yX0_quietFor, Cond.selects RX0 yX0_quietFor yX0_quietFor, Cond.code yX0_quietFor cX0_quietFor 2 (some .int), Cond.fieldLink RX0 32 "ApologyLedger" "daysQuiet" "[I", Cond.methodLink RX0 168 yX0_witnessesFor, Cond.instanceMethod yX0_witnessesFor, Cond.selects RX0 yX0_witnessesFor yX0_witnessesFor, Cond.code yX0_witnessesFor cX0_witnessesFor 4 (some .int), Cond.fieldLink RX0 39 "ApologyLedger" "personCount" "I", Cond.fieldLink RX0 13 "ApologyLedger" "present" "[Z", Cond.fieldLink RX0 17 "ApologyLedger" "offenders" "[I", Cond.fieldLink RX0 20 "ApologyLedger" "offendedOnes" "[I", Cond.methodLink RX0 235 yX0_wordsWanted, Cond.instanceMethod yX0_wordsWanted, Cond.selects RX0 yX0_wordsWanted yX0_wordsWanted, Cond.code yX0_wordsWanted cX0_wordsWanted 4 (some .int), Cond.methodLink RX0 121 Lib.Math.max.name, Cond.static Lib.Math.max.name, Cond.initialized "java/lang/Math", Cond.code Lib.Math.max.name Lib.Math.max.code 2 (some .int)]
def wsX0_digestOfSlight_r3 : List Cond := [Cond.methodLink RX0 81 yX0_leastWorthHeard, Cond.instanceMethod yX0_leastWorthHeard, Cond.selects RX0 yX0_leastWorthHeard yX0_leastWorthHeard, Cond.code yX0_leastWorthHeard cX0_leastWorthHeard 2 (some .int), Cond.methodLink RX0 171 yX0_offendedOf, Cond.instanceMethod yX0_offendedOf, Cond.selects RX0 yX0_offendedOf yX0_offendedOf, Cond.code yX0_offendedOf cX0_offendedOf 2 (some .int), Cond.methodLink RX0 174 yX0_prideOf, Cond.instanceMethod yX0_prideOf, Cond.selects RX0 yX0_prideOf yX0_prideOf, Cond.code yX0_prideOf cX0_prideOf 2 (some .int), Cond.fieldLink RX0 9 "ApologyLedger" "prides" "[I", Cond.methodLink RX0 50 yX0_requirePerson, Cond.instanceMethod yX0_requirePerson, Cond.selects RX0 yX0_requirePerson yX0_requirePerson, Cond.code yX0_requirePerson cX0_requirePerson 2 none, Cond.methodLink RX0 77 yX0_worthOf, Cond.instanceMethod yX0_worthOf, Cond.selects RX0 yX0_worthOf yX0_worthOf, Cond.code yX0_worthOf cX0_worthOf 3 (some .int), Cond.methodLink RX0 127 yX0_weightIn, Cond.instanceMethod yX0_weightIn, Cond.selects RX0 yX0_weightIn yX0_weightIn]
def wsX0_digestOfSlight_r4 : List Cond := [Cond.code yX0_weightIn cX0_weightIn 5 (some .int), Cond.methodLink RX0 103 yX0_requireDays, Cond.static yX0_requireDays, Cond.code yX0_requireDays cX0_requireDays 1 none, Cond.classLink RX0 53 "java/lang/IllegalArgumentException", Cond.initialized "java/lang/IllegalArgumentException", Cond.methodLink RX0 124 yX0_weightWhenBorne, Cond.static yX0_weightWhenBorne, Cond.code yX0_weightWhenBorne cX0_weightWhenBorne 2 (some .int), Cond.methodLink RX0 98 Lib.Math.min.name, Cond.static Lib.Math.min.name, Cond.code Lib.Math.min.name Lib.Math.min.code 2 (some .int), Cond.methodLink RX0 238 yX0_daysUntilForgotten, Cond.instanceMethod yX0_daysUntilForgotten, Cond.selects RX0 yX0_daysUntilForgotten yX0_daysUntilForgotten, Cond.code yX0_daysUntilForgotten cX0_daysUntilForgotten 2 (some .int)]
def wsX0_digestOfSlight : List Cond := .code yX0_digestOfSlight cX0_digestOfSlight 6 (some .long) :: ((wsX0_digestOfSlight_r1 ++ (wsX0_digestOfSlight_r2 ++ (wsX0_digestOfSlight_r3 ++ wsX0_digestOfSlight_r4))) ++ wsX00 ++ (vx_atS RX0 147 "java/lang/IndexOutOfBoundsException" ["java/lang/RuntimeException", "java/lang/Exception"]).filter goodWord ++ (vx_atS RX0 57 "java/lang/IllegalArgumentException" ["java/lang/RuntimeException", "java/lang/Exception"]).filter goodWord)
def wsX0_digest_r1 : List Cond := [Cond.constantLong RX0 130 (2027), Cond.fieldLink RX0 39 "ApologyLedger" "personCount" "I", Cond.fieldLink RX0 60 "ApologyLedger" "slightCount" "I", Cond.methodLink RX0 132 yX0_digestOfTheWhole, Cond.instanceMethod yX0_digestOfTheWhole, Cond.selects RX0 yX0_digestOfTheWhole yX0_digestOfTheWhole, Cond.initialized RX0, Cond.code yX0_digestOfTheWhole cX0_digestOfTheWhole 6 (some .long), Cond.methodLink RX0 185 yX0_day, Cond.instanceMethod yX0_day, Cond.selects RX0 yX0_day yX0_day, Cond.code yX0_day cX0_day 1 (some .int), Cond.fieldLink RX0 110 "ApologyLedger" "today" "I", Cond.methodLink RX0 188 yX0_digestWith, Cond.static yX0_digestWith, Cond.code yX0_digestWith cX0_digestWith 4 (some .long), Cond.constantLong RX0 183 (31), Cond.methodLink RX0 192 yX0_persons, Cond.instanceMethod yX0_persons, Cond.selects RX0 yX0_persons yX0_persons, Cond.code yX0_persons cX0_persons 1 (some .int), Cond.methodLink RX0 195 yX0_slights, Cond.instanceMethod yX0_slights, Cond.selects RX0 yX0_slights yX0_slights]
def wsX0_digest_r2 : List Cond := [Cond.code yX0_slights cX0_slights 1 (some .int), Cond.methodLink RX0 198 yX0_inHall, Cond.instanceMethod yX0_inHall, Cond.selects RX0 yX0_inHall yX0_inHall, Cond.code yX0_inHall cX0_inHall 3 (some .int), Cond.fieldLink RX0 13 "ApologyLedger" "present" "[Z", Cond.methodLink RX0 201 yX0_scorned, Cond.instanceMethod yX0_scorned, Cond.selects RX0 yX0_scorned yX0_scorned, Cond.code yX0_scorned cX0_scorned 1 (some .int), Cond.fieldLink RX0 85 "ApologyLedger" "scornedCount" "I", Cond.methodLink RX0 204 yX0_sorest, Cond.instanceMethod yX0_sorest, Cond.selects RX0 yX0_sorest yX0_sorest, Cond.code yX0_sorest cX0_sorest 5 (some .int), Cond.methodLink RX0 116 yX0_borneBy, Cond.instanceMethod yX0_borneBy, Cond.selects RX0 yX0_borneBy yX0_borneBy, Cond.code yX0_borneBy cX0_borneBy 4 (some .int), Cond.fieldLink RX0 26 "ApologyLedger" "states" "[I", Cond.fieldLink RX0 20 "ApologyLedger" "offendedOnes" "[I", Cond.fieldLink RX0 23 "ApologyLedger" "weights" "[I", Cond.methodLink RX0 50 yX0_requirePerson, Cond.instanceMethod yX0_requirePerson]
def wsX0_digest_r3 : List Cond := [Cond.selects RX0 yX0_requirePerson yX0_requirePerson, Cond.code yX0_requirePerson cX0_requirePerson 2 none, Cond.classLink RX0 143 "java/lang/IndexOutOfBoundsException", Cond.initialized "java/lang/IndexOutOfBoundsException", Cond.methodLink RX0 207 yX0_inState, Cond.instanceMethod yX0_inState, Cond.selects RX0 yX0_inState yX0_inState, Cond.code yX0_inState cX0_inState 4 (some .int), Cond.classLink RX0 53 "java/lang/IllegalArgumentException", Cond.initialized "java/lang/IllegalArgumentException", Cond.methodLink RX0 210 yX0_heaviest, Cond.instanceMethod yX0_heaviest, Cond.selects RX0 yX0_heaviest yX0_heaviest, Cond.code yX0_heaviest cX0_heaviest 4 (some .int), Cond.methodLink RX0 213 yX0_pairsToSetOff, Cond.instanceMethod yX0_pairsToSetOff, Cond.selects RX0 yX0_pairsToSetOff yX0_pairsToSetOff, Cond.code yX0_pairsToSetOff cX0_pairsToSetOff 4 (some .int), Cond.methodLink RX0 92 yX0_areAgainstEachOther, Cond.instanceMethod yX0_areAgainstEachOther, Cond.selects RX0 yX0_areAgainstEachOther yX0_areAgainstEachOther, Cond.code yX0_areAgainstEachOther cX0_areAgainstEachOther 3 (some .boolean), Cond.methodLink RX0 180 yX0_offenderOf, Cond.instanceMethod yX0_offenderOf]
def wsX0_digest_r4 : List Cond := [Cond.selects RX0 yX0_offenderOf yX0_offenderOf, Cond.code yX0_offenderOf cX0_offenderOf 2 (some .int), Cond.fieldLink RX0 17 "ApologyLedger" "offenders" "[I", Cond.methodLink RX0 65 yX0_requireSlight, Cond.instanceMethod yX0_requireSlight, Cond.selects RX0 yX0_requireSlight yX0_requireSlight, Cond.code yX0_requireSlight cX0_requireSlight 2 none, Cond.methodLink RX0 171 yX0_offendedOf, Cond.instanceMethod yX0_offendedOf, Cond.selects RX0 yX0_offendedOf yX0_offendedOf, Cond.code yX0_offendedOf cX0_offendedOf 2 (some .int), Cond.methodLink RX0 136 yX0_digestOfPerson, Cond.instanceMethod yX0_digestOfPerson, Cond.selects RX0 yX0_digestOfPerson yX0_digestOfPerson, Cond.code yX0_digestOfPerson cX0_digestOfPerson 6 (some .long), Cond.methodLink RX0 216 yX0_isInHall, Cond.instanceMethod yX0_isInHall, Cond.selects RX0 yX0_isInHall yX0_isInHall, Cond.code yX0_isInHall cX0_isInHall 2 (some .boolean), Cond.methodLink RX0 174 yX0_prideOf, Cond.instanceMethod yX0_prideOf, Cond.selects RX0 yX0_prideOf yX0_prideOf, Cond.code yX0_prideOf cX0_prideOf 2 (some .int), Cond.fieldLink RX0 9 "ApologyLedger" "prides" "[I"]
def wsX0_digest_r5 : List Cond := [Cond.methodLink RX0 220 yX0_owedBy, Cond.instanceMethod yX0_owedBy, Cond.selects RX0 yX0_owedBy yX0_owedBy, Cond.code yX0_owedBy cX0_owedBy 4 (some .int), Cond.methodLink RX0 223 yX0_borneIn, Cond.instanceMethod yX0_borneIn, Cond.selects RX0 yX0_borneIn yX0_borneIn, Cond.code yX0_borneIn cX0_borneIn 5 (some .int), Cond.methodLink RX0 103 yX0_requireDays, Cond.static yX0_requireDays, Cond.code yX0_requireDays cX0_requireDays 1 none, Cond.methodLink RX0 127 yX0_weightIn, Cond.instanceMethod yX0_weightIn, Cond.selects RX0 yX0_weightIn yX0_weightIn, Cond.code yX0_weightIn cX0_weightIn 5 (some .int), Cond.fieldLink RX0 32 "ApologyLedger" "daysQuiet" "[I", Cond.fieldLink RX0 29 "ApologyLedger" "daysBorne" "[I", Cond.methodLink RX0 124 yX0_weightWhenBorne, Cond.static yX0_weightWhenBorne, Cond.code yX0_weightWhenBorne cX0_weightWhenBorne 2 (some .int), Cond.methodLink RX0 121 Lib.Math.max.name, Cond.static Lib.Math.max.name, Cond.initialized "java/lang/Math", Cond.code Lib.Math.max.name Lib.Math.max.code 2 (some .int)]
def wsX0_digest_r6 : List Cond := [Cond.methodLink RX0 98 Lib.Math.min.name, Cond.static Lib.Math.min.name, Cond.code Lib.Math.min.name Lib.Math.min.code 2 (some .int), Cond.methodLink RX0 226 yX0_worstToKeep, Cond.instanceMethod yX0_worstToKeep, Cond.selects RX0 yX0_worstToKeep yX0_worstToKeep, Cond.code yX0_worstToKeep cX0_worstToKeep 6 (some .int), Cond.methodLink RX0 140 yX0_digestOfSlight, Cond.instanceMethod yX0_digestOfSlight, Cond.selects RX0 yX0_digestOfSlight yX0_digestOfSlight, Cond.code yX0_digestOfSlight cX0_digestOfSlight 6 (some .long), Cond.methodLink RX0 177 yX0_weightOf, Cond.instanceMethod yX0_weightOf, Cond.selects RX0 yX0_weightOf yX0_weightOf, Cond.code yX0_weightOf cX0_weightOf 2 (some .int), Cond.methodLink RX0 150 yX0_stateOf, Cond.instanceMethod yX0_stateOf, Cond.selects RX0 yX0_stateOf yX0_stateOf, Cond.code yX0_stateOf cX0_stateOf 2 (some .int), Cond.methodLink RX0 229 yX0_borneFor, Cond.instanceMethod yX0_borneFor, Cond.selects RX0 yX0_borneFor yX0_borneFor, Cond.code yX0_borneFor cX0_borneFor 2 (some .int), Cond.methodLink RX0 232 yX0_quietFor]
def wsX0_digest_r7 : List Cond := [Cond.instanceMethod yX0_quietFor, Cond.selects RX0 yX0_quietFor yX0_quietFor, Cond.code yX0_quietFor cX0_quietFor 2 (some .int), Cond.methodLink RX0 168 yX0_witnessesFor, Cond.instanceMethod yX0_witnessesFor, Cond.selects RX0 yX0_witnessesFor yX0_witnessesFor, Cond.code yX0_witnessesFor cX0_witnessesFor 4 (some .int), Cond.methodLink RX0 235 yX0_wordsWanted, Cond.instanceMethod yX0_wordsWanted, Cond.selects RX0 yX0_wordsWanted yX0_wordsWanted, Cond.code yX0_wordsWanted cX0_wordsWanted 4 (some .int), Cond.methodLink RX0 81 yX0_leastWorthHeard, Cond.instanceMethod yX0_leastWorthHeard, Cond.selects RX0 yX0_leastWorthHeard yX0_leastWorthHeard, Cond.code yX0_leastWorthHeard cX0_leastWorthHeard 2 (some .int), Cond.methodLink RX0 77 yX0_worthOf, Cond.instanceMethod yX0_worthOf, Cond.selects RX0 yX0_worthOf yX0_worthOf, Cond.code yX0_worthOf cX0_worthOf 3 (some .int), Cond.methodLink RX0 238 yX0_daysUntilForgotten, Cond.instanceMethod yX0_daysUntilForgotten, Cond.selects RX0 yX0_daysUntilForgotten yX0_daysUntilForgotten, Cond.code yX0_daysUntilForgotten cX0_daysUntilForgotten 2 (some .int)]
def wsX0_digest : List Cond := .code yX0_digest cX0_digest 4 (some .long) :: ((wsX0_digest_r1 ++ (wsX0_digest_r2 ++ (wsX0_digest_r3 ++ (wsX0_digest_r4 ++ (wsX0_digest_r5 ++ (wsX0_digest_r6 ++ wsX0_digest_r7)))))) ++ wsX00 ++ (vx_atS RX0 147 "java/lang/IndexOutOfBoundsException" ["java/lang/RuntimeException", "java/lang/Exception"]).filter goodWord ++ (vx_atS RX0 57 "java/lang/IllegalArgumentException" ["java/lang/RuntimeException", "java/lang/Exception"]).filter goodWord)
def wsX1_init : List Cond := .code yX1_init cX1_init 1 none :: ([.methodLink RX1 1 objectInit, .instanceMethod objectInit, .code objectInit ⟨#[0xb1]⟩ 1 none, .arrayClass .int, .fieldLink RX1 9 "ApologyLedgerModel" "pride" "[I", .arrayClass .boolean, .fieldLink RX1 13 "ApologyLedgerModel" "isHere" "[Z", .fieldLink RX1 17 "ApologyLedgerModel" "by" "[I", .fieldLink RX1 20 "ApologyLedgerModel" "against" "[I", .fieldLink RX1 23 "ApologyLedgerModel" "weight" "[I", .fieldLink RX1 26 "ApologyLedgerModel" "state" "[I", .fieldLink RX1 29 "ApologyLedgerModel" "borne" "[I", .fieldLink RX1 32 "ApologyLedgerModel" "quiet" "[I"] ++ wsX10)
def wsX1_thrown : List Cond := .code yX1_thrown cX1_thrown 1 (some .int) :: ([.fieldLink RX1 35 "ApologyLedgerModel" "thrown" "I"] ++ wsX10)
def wsX1_no : List Cond := .code yX1_no cX1_no 2 (some .int) :: ([.fieldLink RX1 35 "ApologyLedgerModel" "thrown" "I"] ++ wsX10)
def wsX1_isNot : List Cond := .code yX1_isNot cX1_isNot 2 (some .boolean) :: ([.fieldLink RX1 35 "ApologyLedgerModel" "thrown" "I"] ++ wsX10)
def wsX1_ok : List Cond := .code yX1_ok cX1_ok 2 (some .int) :: ([.fieldLink RX1 35 "ApologyLedgerModel" "thrown" "I"] ++ wsX10)
def wsX1_isIn : List Cond := .code yX1_isIn cX1_isIn 3 (some .boolean) :: ([])
def wsX1_isPerson : List Cond := .code yX1_isPerson cX1_isPerson 2 (some .boolean) :: ([.fieldLink RX1 39 "ApologyLedgerModel" "persons" "I", .methodLink RX1 42 yX1_isIn, .static yX1_isIn, .initialized RX1, .code yX1_isIn cX1_isIn 3 (some .boolean)] ++ wsX10)
def wsX1_isSlight : List Cond := .code yX1_isSlight cX1_isSlight 2 (some .boolean) :: ([.fieldLink RX1 46 "ApologyLedgerModel" "slights" "I", .methodLink RX1 42 yX1_isIn, .static yX1_isIn, .initialized RX1, .code yX1_isIn cX1_isIn 3 (some .boolean)] ++ wsX10)
def wsX1_isOpen : List Cond := .code yX1_isOpen cX1_isOpen 2 (some .boolean) :: ([.fieldLink RX1 26 "ApologyLedgerModel" "state" "[I"] ++ wsX10)
def wsX1_close : List Cond := .code yX1_close cX1_close 3 none :: ([.fieldLink RX1 26 "ApologyLedgerModel" "state" "[I", .fieldLink RX1 23 "ApologyLedgerModel" "weight" "[I"] ++ wsX10)
def wsX1_speak : List Cond := .code yX1_speak cX1_speak 2 none :: ([.fieldLink RX1 23 "ApologyLedgerModel" "weight" "[I", .methodLink RX1 49 Lib.Math.min.name, .static Lib.Math.min.name, .initialized "java/lang/Math", .code Lib.Math.min.name Lib.Math.min.code 2 (some .int), .fieldLink RX1 32 "ApologyLedgerModel" "quiet" "[I"] ++ wsX10)
def wsX1_witnesses : List Cond := .code yX1_witnesses cX1_witnesses 4 (some .int) :: ([.fieldLink RX1 39 "ApologyLedgerModel" "persons" "I", .fieldLink RX1 13 "ApologyLedgerModel" "isHere" "[Z", .fieldLink RX1 17 "ApologyLedgerModel" "by" "[I", .fieldLink RX1 20 "ApologyLedgerModel" "against" "[I"] ++ wsX10)
def wsX1_grown : List Cond := .code yX1_grown cX1_grown 1 (some .int) :: ([.methodLink RX1 55 Lib.Math.max.name, .static Lib.Math.max.name, .initialized "java/lang/Math", .code Lib.Math.max.name Lib.Math.max.code 2 (some .int), .methodLink RX1 49 Lib.Math.min.name, .static Lib.Math.min.name, .code Lib.Math.min.name Lib.Math.min.code 2 (some .int)])
def wsX1_later : List Cond := .code yX1_later cX1_later 5 (some .int) :: ([.fieldLink RX1 32 "ApologyLedgerModel" "quiet" "[I", .fieldLink RX1 23 "ApologyLedgerModel" "weight" "[I", .fieldLink RX1 29 "ApologyLedgerModel" "borne" "[I", .methodLink RX1 58 yX1_isOpen, .instanceMethod yX1_isOpen, .selects RX1 yX1_isOpen yX1_isOpen, .initialized RX1, .code yX1_isOpen cX1_isOpen 2 (some .boolean), .fieldLink RX1 26 "ApologyLedgerModel" "state" "[I", .methodLink RX1 62 yX1_grown, .static yX1_grown, .code yX1_grown cX1_grown 1 (some .int), .methodLink RX1 55 Lib.Math.max.name, .static Lib.Math.max.name, .initialized "java/lang/Math", .code Lib.Math.max.name Lib.Math.max.code 2 (some .int), .methodLink RX1 49 Lib.Math.min.name, .static Lib.Math.min.name, .code Lib.Math.min.name Lib.Math.min.code 2 (some .int)] ++ wsX10)
def wsX1_isScorned : List Cond := .code yX1_isScorned cX1_isScorned 4 (some .boolean) :: ([.fieldLink RX1 9 "ApologyLedgerModel" "pride" "[I", .fieldLink RX1 20 "ApologyLedgerModel" "against" "[I", .fieldLink RX1 23 "ApologyLedgerModel" "weight" "[I", .methodLink RX1 66 yX1_witnesses, .instanceMethod yX1_witnesses, .selects RX1 yX1_witnesses yX1_witnesses, .initialized RX1, .code yX1_witnesses cX1_witnesses 4 (some .int), .fieldLink RX1 39 "ApologyLedgerModel" "persons" "I", .fieldLink RX1 13 "ApologyLedgerModel" "isHere" "[Z", .fieldLink RX1 17 "ApologyLedgerModel" "by" "[I"] ++ wsX10)
def wsX1_addPerson : List Cond := .code yX1_addPerson cX1_addPerson 2 (some .int) :: ([.fieldLink RX1 35 "ApologyLedgerModel" "thrown" "I", .fieldLink RX1 39 "ApologyLedgerModel" "persons" "I", .fieldLink RX1 9 "ApologyLedgerModel" "pride" "[I", .methodLink RX1 42 yX1_isIn, .static yX1_isIn, .initialized RX1, .code yX1_isIn cX1_isIn 3 (some .boolean), .methodLink RX1 69 yX1_no, .instanceMethod yX1_no, .selects RX1 yX1_no yX1_no, .code yX1_no cX1_no 2 (some .int)] ++ wsX10)
def wsX1_enter : List Cond := .code yX1_enter cX1_enter 2 (some .boolean) :: ([.fieldLink RX1 35 "ApologyLedgerModel" "thrown" "I", .fieldLink RX1 13 "ApologyLedgerModel" "isHere" "[Z", .methodLink RX1 72 yX1_isPerson, .instanceMethod yX1_isPerson, .selects RX1 yX1_isPerson yX1_isPerson, .initialized RX1, .code yX1_isPerson cX1_isPerson 2 (some .boolean), .fieldLink RX1 39 "ApologyLedgerModel" "persons" "I", .methodLink RX1 42 yX1_isIn, .static yX1_isIn, .code yX1_isIn cX1_isIn 3 (some .boolean), .methodLink RX1 75 yX1_isNot, .instanceMethod yX1_isNot, .selects RX1 yX1_isNot yX1_isNot, .code yX1_isNot cX1_isNot 2 (some .boolean)] ++ wsX10)
def wsX1_slight : List Cond := .code yX1_slight cX1_slight 4 (some .int) :: ([.fieldLink RX1 35 "ApologyLedgerModel" "thrown" "I", .fieldLink RX1 46 "ApologyLedgerModel" "slights" "I", .fieldLink RX1 17 "ApologyLedgerModel" "by" "[I", .fieldLink RX1 20 "ApologyLedgerModel" "against" "[I", .fieldLink RX1 23 "ApologyLedgerModel" "weight" "[I", .methodLink RX1 72 yX1_isPerson, .instanceMethod yX1_isPerson, .selects RX1 yX1_isPerson yX1_isPerson, .initialized RX1, .code yX1_isPerson cX1_isPerson 2 (some .boolean), .fieldLink RX1 39 "ApologyLedgerModel" "persons" "I", .methodLink RX1 42 yX1_isIn, .static yX1_isIn, .code yX1_isIn cX1_isIn 3 (some .boolean), .methodLink RX1 69 yX1_no, .instanceMethod yX1_no, .selects RX1 yX1_no yX1_no, .code yX1_no cX1_no 2 (some .int)] ++ wsX10)
def wsX1_mention_r1 : List Cond := [Cond.fieldLink RX1 35 "ApologyLedgerModel" "thrown" "I", Cond.fieldLink RX1 23 "ApologyLedgerModel" "weight" "[I", Cond.methodLink RX1 78 yX1_isSlight, Cond.instanceMethod yX1_isSlight, Cond.selects RX1 yX1_isSlight yX1_isSlight, Cond.initialized RX1, Cond.code yX1_isSlight cX1_isSlight 2 (some .boolean), Cond.fieldLink RX1 46 "ApologyLedgerModel" "slights" "I", Cond.methodLink RX1 42 yX1_isIn, Cond.static yX1_isIn, Cond.code yX1_isIn cX1_isIn 3 (some .boolean), Cond.methodLink RX1 69 yX1_no, Cond.instanceMethod yX1_no, Cond.selects RX1 yX1_no yX1_no, Cond.code yX1_no cX1_no 2 (some .int), Cond.methodLink RX1 58 yX1_isOpen, Cond.instanceMethod yX1_isOpen, Cond.selects RX1 yX1_isOpen yX1_isOpen, Cond.code yX1_isOpen cX1_isOpen 2 (some .boolean), Cond.fieldLink RX1 26 "ApologyLedgerModel" "state" "[I", Cond.methodLink RX1 81 yX1_speak, Cond.instanceMethod yX1_speak, Cond.selects RX1 yX1_speak yX1_speak, Cond.code yX1_speak cX1_speak 2 none]
def wsX1_mention_r2 : List Cond := [Cond.methodLink RX1 49 Lib.Math.min.name, Cond.static Lib.Math.min.name, Cond.initialized "java/lang/Math", Cond.code Lib.Math.min.name Lib.Math.min.code 2 (some .int), Cond.fieldLink RX1 32 "ApologyLedgerModel" "quiet" "[I"]
def wsX1_mention : List Cond := .code yX1_mention cX1_mention 2 (some .int) :: ((wsX1_mention_r1 ++ wsX1_mention_r2) ++ wsX10)
def wsX1_apologize_r1 : List Cond := [Cond.fieldLink RX1 35 "ApologyLedgerModel" "thrown" "I", Cond.fieldLink RX1 89 "ApologyLedgerModel" "scorned" "I", Cond.fieldLink RX1 23 "ApologyLedgerModel" "weight" "[I", Cond.methodLink RX1 78 yX1_isSlight, Cond.instanceMethod yX1_isSlight, Cond.selects RX1 yX1_isSlight yX1_isSlight, Cond.initialized RX1, Cond.code yX1_isSlight cX1_isSlight 2 (some .boolean), Cond.fieldLink RX1 46 "ApologyLedgerModel" "slights" "I", Cond.methodLink RX1 42 yX1_isIn, Cond.static yX1_isIn, Cond.code yX1_isIn cX1_isIn 3 (some .boolean), Cond.methodLink RX1 69 yX1_no, Cond.instanceMethod yX1_no, Cond.selects RX1 yX1_no yX1_no, Cond.code yX1_no cX1_no 2 (some .int), Cond.methodLink RX1 58 yX1_isOpen, Cond.instanceMethod yX1_isOpen, Cond.selects RX1 yX1_isOpen yX1_isOpen, Cond.code yX1_isOpen cX1_isOpen 2 (some .boolean), Cond.fieldLink RX1 26 "ApologyLedgerModel" "state" "[I", Cond.methodLink RX1 85 yX1_isScorned, Cond.instanceMethod yX1_isScorned, Cond.selects RX1 yX1_isScorned yX1_isScorned]
def wsX1_apologize_r2 : List Cond := [Cond.code yX1_isScorned cX1_isScorned 4 (some .boolean), Cond.fieldLink RX1 9 "ApologyLedgerModel" "pride" "[I", Cond.fieldLink RX1 20 "ApologyLedgerModel" "against" "[I", Cond.methodLink RX1 66 yX1_witnesses, Cond.instanceMethod yX1_witnesses, Cond.selects RX1 yX1_witnesses yX1_witnesses, Cond.code yX1_witnesses cX1_witnesses 4 (some .int), Cond.fieldLink RX1 39 "ApologyLedgerModel" "persons" "I", Cond.fieldLink RX1 13 "ApologyLedgerModel" "isHere" "[Z", Cond.fieldLink RX1 17 "ApologyLedgerModel" "by" "[I", Cond.methodLink RX1 81 yX1_speak, Cond.instanceMethod yX1_speak, Cond.selects RX1 yX1_speak yX1_speak, Cond.code yX1_speak cX1_speak 2 none, Cond.methodLink RX1 49 Lib.Math.min.name, Cond.static Lib.Math.min.name, Cond.initialized "java/lang/Math", Cond.code Lib.Math.min.name Lib.Math.min.code 2 (some .int), Cond.fieldLink RX1 32 "ApologyLedgerModel" "quiet" "[I", Cond.methodLink RX1 92 yX1_close, Cond.instanceMethod yX1_close, Cond.selects RX1 yX1_close yX1_close, Cond.code yX1_close cX1_close 3 none]
def wsX1_apologize : List Cond := .code yX1_apologize cX1_apologize 3 (some .int) :: ((wsX1_apologize_r1 ++ wsX1_apologize_r2) ++ wsX10)
def wsX1_areOpposite : List Cond := .code yX1_areOpposite cX1_areOpposite 3 (some .boolean) :: ([.fieldLink RX1 17 "ApologyLedgerModel" "by" "[I", .fieldLink RX1 20 "ApologyLedgerModel" "against" "[I", .methodLink RX1 58 yX1_isOpen, .instanceMethod yX1_isOpen, .selects RX1 yX1_isOpen yX1_isOpen, .initialized RX1, .code yX1_isOpen cX1_isOpen 2 (some .boolean), .fieldLink RX1 26 "ApologyLedgerModel" "state" "[I"] ++ wsX10)
def wsX1_setOff_r1 : List Cond := [Cond.fieldLink RX1 35 "ApologyLedgerModel" "thrown" "I", Cond.fieldLink RX1 23 "ApologyLedgerModel" "weight" "[I", Cond.methodLink RX1 49 Lib.Math.min.name, Cond.static Lib.Math.min.name, Cond.initialized "java/lang/Math", Cond.code Lib.Math.min.name Lib.Math.min.code 2 (some .int), Cond.methodLink RX1 78 yX1_isSlight, Cond.instanceMethod yX1_isSlight, Cond.selects RX1 yX1_isSlight yX1_isSlight, Cond.initialized RX1, Cond.code yX1_isSlight cX1_isSlight 2 (some .boolean), Cond.fieldLink RX1 46 "ApologyLedgerModel" "slights" "I", Cond.methodLink RX1 42 yX1_isIn, Cond.static yX1_isIn, Cond.code yX1_isIn cX1_isIn 3 (some .boolean), Cond.methodLink RX1 69 yX1_no, Cond.instanceMethod yX1_no, Cond.selects RX1 yX1_no yX1_no, Cond.code yX1_no cX1_no 2 (some .int), Cond.methodLink RX1 96 yX1_areOpposite, Cond.instanceMethod yX1_areOpposite, Cond.selects RX1 yX1_areOpposite yX1_areOpposite, Cond.code yX1_areOpposite cX1_areOpposite 3 (some .boolean), Cond.fieldLink RX1 17 "ApologyLedgerModel" "by" "[I"]
def wsX1_setOff_r2 : List Cond := [Cond.fieldLink RX1 20 "ApologyLedgerModel" "against" "[I", Cond.methodLink RX1 58 yX1_isOpen, Cond.instanceMethod yX1_isOpen, Cond.selects RX1 yX1_isOpen yX1_isOpen, Cond.code yX1_isOpen cX1_isOpen 2 (some .boolean), Cond.fieldLink RX1 26 "ApologyLedgerModel" "state" "[I", Cond.methodLink RX1 92 yX1_close, Cond.instanceMethod yX1_close, Cond.selects RX1 yX1_close yX1_close, Cond.code yX1_close cX1_close 3 none]
def wsX1_setOff : List Cond := .code yX1_setOff cX1_setOff 4 (some .int) :: ((wsX1_setOff_r1 ++ wsX1_setOff_r2) ++ wsX10)
def wsX1_setPride : List Cond := .code yX1_setPride cX1_setPride 4 (some .int) :: ([.fieldLink RX1 35 "ApologyLedgerModel" "thrown" "I", .fieldLink RX1 9 "ApologyLedgerModel" "pride" "[I", .methodLink RX1 72 yX1_isPerson, .instanceMethod yX1_isPerson, .selects RX1 yX1_isPerson yX1_isPerson, .initialized RX1, .code yX1_isPerson cX1_isPerson 2 (some .boolean), .fieldLink RX1 39 "ApologyLedgerModel" "persons" "I", .methodLink RX1 42 yX1_isIn, .static yX1_isIn, .code yX1_isIn cX1_isIn 3 (some .boolean), .methodLink RX1 69 yX1_no, .instanceMethod yX1_no, .selects RX1 yX1_no yX1_no, .code yX1_no cX1_no 2 (some .int)] ++ wsX10)
def wsX1_pass_r1 : List Cond := [Cond.fieldLink RX1 35 "ApologyLedgerModel" "thrown" "I", Cond.fieldLink RX1 46 "ApologyLedgerModel" "slights" "I", Cond.fieldLink RX1 32 "ApologyLedgerModel" "quiet" "[I", Cond.methodLink RX1 49 Lib.Math.min.name, Cond.static Lib.Math.min.name, Cond.initialized "java/lang/Math", Cond.code Lib.Math.min.name Lib.Math.min.code 2 (some .int), Cond.fieldLink RX1 29 "ApologyLedgerModel" "borne" "[I", Cond.fieldLink RX1 23 "ApologyLedgerModel" "weight" "[I", Cond.fieldLink RX1 102 "ApologyLedgerModel" "day" "I", Cond.methodLink RX1 42 yX1_isIn, Cond.static yX1_isIn, Cond.initialized RX1, Cond.code yX1_isIn cX1_isIn 3 (some .boolean), Cond.methodLink RX1 69 yX1_no, Cond.instanceMethod yX1_no, Cond.selects RX1 yX1_no yX1_no, Cond.code yX1_no cX1_no 2 (some .int), Cond.methodLink RX1 58 yX1_isOpen, Cond.instanceMethod yX1_isOpen, Cond.selects RX1 yX1_isOpen yX1_isOpen, Cond.code yX1_isOpen cX1_isOpen 2 (some .boolean), Cond.fieldLink RX1 26 "ApologyLedgerModel" "state" "[I", Cond.methodLink RX1 99 yX1_later]
def wsX1_pass_r2 : List Cond := [Cond.instanceMethod yX1_later, Cond.selects RX1 yX1_later yX1_later, Cond.code yX1_later cX1_later 5 (some .int), Cond.methodLink RX1 62 yX1_grown, Cond.static yX1_grown, Cond.code yX1_grown cX1_grown 1 (some .int), Cond.methodLink RX1 55 Lib.Math.max.name, Cond.static Lib.Math.max.name, Cond.code Lib.Math.max.name Lib.Math.max.code 2 (some .int), Cond.methodLink RX1 92 yX1_close, Cond.instanceMethod yX1_close, Cond.selects RX1 yX1_close yX1_close, Cond.code yX1_close cX1_close 3 none]
def wsX1_pass : List Cond := .code yX1_pass cX1_pass 6 (some .int) :: ((wsX1_pass_r1 ++ wsX1_pass_r2) ++ wsX10)
def wsX1_day : List Cond := .code yX1_day cX1_day 1 (some .int) :: ([.fieldLink RX1 102 "ApologyLedgerModel" "day" "I", .methodLink RX1 105 yX1_ok, .instanceMethod yX1_ok, .selects RX1 yX1_ok yX1_ok, .initialized RX1, .code yX1_ok cX1_ok 2 (some .int), .fieldLink RX1 35 "ApologyLedgerModel" "thrown" "I"] ++ wsX10)
def wsX1_persons : List Cond := .code yX1_persons cX1_persons 1 (some .int) :: ([.fieldLink RX1 39 "ApologyLedgerModel" "persons" "I", .methodLink RX1 105 yX1_ok, .instanceMethod yX1_ok, .selects RX1 yX1_ok yX1_ok, .initialized RX1, .code yX1_ok cX1_ok 2 (some .int), .fieldLink RX1 35 "ApologyLedgerModel" "thrown" "I"] ++ wsX10)
def wsX1_slights : List Cond := .code yX1_slights cX1_slights 1 (some .int) :: ([.fieldLink RX1 46 "ApologyLedgerModel" "slights" "I", .methodLink RX1 105 yX1_ok, .instanceMethod yX1_ok, .selects RX1 yX1_ok yX1_ok, .initialized RX1, .code yX1_ok cX1_ok 2 (some .int), .fieldLink RX1 35 "ApologyLedgerModel" "thrown" "I"] ++ wsX10)
def wsX1_here : List Cond := .code yX1_here cX1_here 3 (some .int) :: ([.fieldLink RX1 39 "ApologyLedgerModel" "persons" "I", .fieldLink RX1 13 "ApologyLedgerModel" "isHere" "[Z"] ++ wsX10)
def wsX1_inHall : List Cond := .code yX1_inHall cX1_inHall 1 (some .int) :: ([.methodLink RX1 108 yX1_here, .instanceMethod yX1_here, .selects RX1 yX1_here yX1_here, .initialized RX1, .code yX1_here cX1_here 3 (some .int), .fieldLink RX1 39 "ApologyLedgerModel" "persons" "I", .fieldLink RX1 13 "ApologyLedgerModel" "isHere" "[Z", .methodLink RX1 105 yX1_ok, .instanceMethod yX1_ok, .selects RX1 yX1_ok yX1_ok, .code yX1_ok cX1_ok 2 (some .int), .fieldLink RX1 35 "ApologyLedgerModel" "thrown" "I"] ++ wsX10)
def wsX1_scorned : List Cond := .code yX1_scorned cX1_scorned 1 (some .int) :: ([.fieldLink RX1 89 "ApologyLedgerModel" "scorned" "I", .methodLink RX1 105 yX1_ok, .instanceMethod yX1_ok, .selects RX1 yX1_ok yX1_ok, .initialized RX1, .code yX1_ok cX1_ok 2 (some .int), .fieldLink RX1 35 "ApologyLedgerModel" "thrown" "I"] ++ wsX10)
def wsX1_isInHall : List Cond := .code yX1_isInHall cX1_isInHall 2 (some .boolean) :: ([.fieldLink RX1 35 "ApologyLedgerModel" "thrown" "I", .fieldLink RX1 13 "ApologyLedgerModel" "isHere" "[Z", .methodLink RX1 72 yX1_isPerson, .instanceMethod yX1_isPerson, .selects RX1 yX1_isPerson yX1_isPerson, .initialized RX1, .code yX1_isPerson cX1_isPerson 2 (some .boolean), .fieldLink RX1 39 "ApologyLedgerModel" "persons" "I", .methodLink RX1 42 yX1_isIn, .static yX1_isIn, .code yX1_isIn cX1_isIn 3 (some .boolean), .methodLink RX1 75 yX1_isNot, .instanceMethod yX1_isNot, .selects RX1 yX1_isNot yX1_isNot, .code yX1_isNot cX1_isNot 2 (some .boolean)] ++ wsX10)
def wsX1_prideOf : List Cond := .code yX1_prideOf cX1_prideOf 2 (some .int) :: ([.fieldLink RX1 35 "ApologyLedgerModel" "thrown" "I", .fieldLink RX1 9 "ApologyLedgerModel" "pride" "[I", .methodLink RX1 72 yX1_isPerson, .instanceMethod yX1_isPerson, .selects RX1 yX1_isPerson yX1_isPerson, .initialized RX1, .code yX1_isPerson cX1_isPerson 2 (some .boolean), .fieldLink RX1 39 "ApologyLedgerModel" "persons" "I", .methodLink RX1 42 yX1_isIn, .static yX1_isIn, .code yX1_isIn cX1_isIn 3 (some .boolean), .methodLink RX1 69 yX1_no, .instanceMethod yX1_no, .selects RX1 yX1_no yX1_no, .code yX1_no cX1_no 2 (some .int)] ++ wsX10)
def wsX1_done : List Cond := .code yX1_done cX1_done 5 (some .int) :: ([.fieldLink RX1 46 "ApologyLedgerModel" "slights" "I", .fieldLink RX1 17 "ApologyLedgerModel" "by" "[I", .fieldLink RX1 20 "ApologyLedgerModel" "against" "[I", .fieldLink RX1 23 "ApologyLedgerModel" "weight" "[I"] ++ wsX10)
def wsX1_borneBy : List Cond := .code yX1_borneBy cX1_borneBy 2 (some .int) :: ([.fieldLink RX1 35 "ApologyLedgerModel" "thrown" "I", .methodLink RX1 72 yX1_isPerson, .instanceMethod yX1_isPerson, .selects RX1 yX1_isPerson yX1_isPerson, .initialized RX1, .code yX1_isPerson cX1_isPerson 2 (some .boolean), .fieldLink RX1 39 "ApologyLedgerModel" "persons" "I", .methodLink RX1 42 yX1_isIn, .static yX1_isIn, .code yX1_isIn cX1_isIn 3 (some .boolean), .methodLink RX1 112 yX1_done, .instanceMethod yX1_done, .selects RX1 yX1_done yX1_done, .code yX1_done cX1_done 5 (some .int), .fieldLink RX1 46 "ApologyLedgerModel" "slights" "I", .fieldLink RX1 17 "ApologyLedgerModel" "by" "[I", .fieldLink RX1 20 "ApologyLedgerModel" "against" "[I", .fieldLink RX1 23 "ApologyLedgerModel" "weight" "[I", .methodLink RX1 69 yX1_no, .instanceMethod yX1_no, .selects RX1 yX1_no yX1_no, .code yX1_no cX1_no 2 (some .int)] ++ wsX10)
def wsX1_owedBy : List Cond := .code yX1_owedBy cX1_owedBy 2 (some .int) :: ([.fieldLink RX1 35 "ApologyLedgerModel" "thrown" "I", .methodLink RX1 72 yX1_isPerson, .instanceMethod yX1_isPerson, .selects RX1 yX1_isPerson yX1_isPerson, .initialized RX1, .code yX1_isPerson cX1_isPerson 2 (some .boolean), .fieldLink RX1 39 "ApologyLedgerModel" "persons" "I", .methodLink RX1 42 yX1_isIn, .static yX1_isIn, .code yX1_isIn cX1_isIn 3 (some .boolean), .methodLink RX1 112 yX1_done, .instanceMethod yX1_done, .selects RX1 yX1_done yX1_done, .code yX1_done cX1_done 5 (some .int), .fieldLink RX1 46 "ApologyLedgerModel" "slights" "I", .fieldLink RX1 17 "ApologyLedgerModel" "by" "[I", .fieldLink RX1 20 "ApologyLedgerModel" "against" "[I", .fieldLink RX1 23 "ApologyLedgerModel" "weight" "[I", .methodLink RX1 69 yX1_no, .instanceMethod yX1_no, .selects RX1 yX1_no yX1_no, .code yX1_no cX1_no 2 (some .int)] ++ wsX10)
def wsX1_balance : List Cond := .code yX1_balance cX1_balance 3 (some .int) :: ([.fieldLink RX1 35 "ApologyLedgerModel" "thrown" "I", .methodLink RX1 72 yX1_isPerson, .instanceMethod yX1_isPerson, .selects RX1 yX1_isPerson yX1_isPerson, .initialized RX1, .code yX1_isPerson cX1_isPerson 2 (some .boolean), .fieldLink RX1 39 "ApologyLedgerModel" "persons" "I", .methodLink RX1 42 yX1_isIn, .static yX1_isIn, .code yX1_isIn cX1_isIn 3 (some .boolean), .methodLink RX1 112 yX1_done, .instanceMethod yX1_done, .selects RX1 yX1_done yX1_done, .code yX1_done cX1_done 5 (some .int), .fieldLink RX1 46 "ApologyLedgerModel" "slights" "I", .fieldLink RX1 17 "ApologyLedgerModel" "by" "[I", .fieldLink RX1 20 "ApologyLedgerModel" "against" "[I", .fieldLink RX1 23 "ApologyLedgerModel" "weight" "[I", .methodLink RX1 69 yX1_no, .instanceMethod yX1_no, .selects RX1 yX1_no yX1_no, .code yX1_no cX1_no 2 (some .int)] ++ wsX10)
def wsX1_sore : List Cond := .code yX1_sore cX1_sore 3 (some .int) :: ([.fieldLink RX1 39 "ApologyLedgerModel" "persons" "I", .methodLink RX1 112 yX1_done, .instanceMethod yX1_done, .selects RX1 yX1_done yX1_done, .initialized RX1, .code yX1_done cX1_done 5 (some .int), .fieldLink RX1 46 "ApologyLedgerModel" "slights" "I", .fieldLink RX1 17 "ApologyLedgerModel" "by" "[I", .fieldLink RX1 20 "ApologyLedgerModel" "against" "[I", .fieldLink RX1 23 "ApologyLedgerModel" "weight" "[I"] ++ wsX10)
def wsX1_sorest : List Cond := .code yX1_sorest cX1_sorest 1 (some .int) :: ([.methodLink RX1 115 yX1_sore, .instanceMethod yX1_sore, .selects RX1 yX1_sore yX1_sore, .initialized RX1, .code yX1_sore cX1_sore 3 (some .int), .fieldLink RX1 39 "ApologyLedgerModel" "persons" "I", .methodLink RX1 112 yX1_done, .instanceMethod yX1_done, .selects RX1 yX1_done yX1_done, .code yX1_done cX1_done 5 (some .int), .fieldLink RX1 46 "ApologyLedgerModel" "slights" "I", .fieldLink RX1 17 "ApologyLedgerModel" "by" "[I", .fieldLink RX1 20 "ApologyLedgerModel" "against" "[I", .fieldLink RX1 23 "ApologyLedgerModel" "weight" "[I", .methodLink RX1 105 yX1_ok, .instanceMethod yX1_ok, .selects RX1 yX1_ok yX1_ok, .code yX1_ok cX1_ok 2 (some .int), .fieldLink RX1 35 "ApologyLedgerModel" "thrown" "I"] ++ wsX10)
def wsX1_of : List Cond := .code yX1_of cX1_of 3 (some .int) :: ([.fieldLink RX1 35 "ApologyLedgerModel" "thrown" "I", .methodLink RX1 78 yX1_isSlight, .instanceMethod yX1_isSlight, .selects RX1 yX1_isSlight yX1_isSlight, .initialized RX1, .code yX1_isSlight cX1_isSlight 2 (some .boolean), .fieldLink RX1 46 "ApologyLedgerModel" "slights" "I", .methodLink RX1 42 yX1_isIn, .static yX1_isIn, .code yX1_isIn cX1_isIn 3 (some .boolean), .methodLink RX1 69 yX1_no, .instanceMethod yX1_no, .selects RX1 yX1_no yX1_no, .code yX1_no cX1_no 2 (some .int)] ++ wsX10)
def wsX1_offenderOf : List Cond := .code yX1_offenderOf cX1_offenderOf 2 (some .int) :: ([.fieldLink RX1 17 "ApologyLedgerModel" "by" "[I", .methodLink RX1 118 yX1_of, .instanceMethod yX1_of, .selects RX1 yX1_of yX1_of, .initialized RX1, .code yX1_of cX1_of 3 (some .int), .fieldLink RX1 35 "ApologyLedgerModel" "thrown" "I", .methodLink RX1 78 yX1_isSlight, .instanceMethod yX1_isSlight, .selects RX1 yX1_isSlight yX1_isSlight, .code yX1_isSlight cX1_isSlight 2 (some .boolean), .fieldLink RX1 46 "ApologyLedgerModel" "slights" "I", .methodLink RX1 42 yX1_isIn, .static yX1_isIn, .code yX1_isIn cX1_isIn 3 (some .boolean), .methodLink RX1 69 yX1_no, .instanceMethod yX1_no, .selects RX1 yX1_no yX1_no, .code yX1_no cX1_no 2 (some .int)] ++ wsX10)
def wsX1_offendedOf : List Cond := .code yX1_offendedOf cX1_offendedOf 2 (some .int) :: ([.fieldLink RX1 20 "ApologyLedgerModel" "against" "[I", .methodLink RX1 118 yX1_of, .instanceMethod yX1_of, .selects RX1 yX1_of yX1_of, .initialized RX1, .code yX1_of cX1_of 3 (some .int), .fieldLink RX1 35 "ApologyLedgerModel" "thrown" "I", .methodLink RX1 78 yX1_isSlight, .instanceMethod yX1_isSlight, .selects RX1 yX1_isSlight yX1_isSlight, .code yX1_isSlight cX1_isSlight 2 (some .boolean), .fieldLink RX1 46 "ApologyLedgerModel" "slights" "I", .methodLink RX1 42 yX1_isIn, .static yX1_isIn, .code yX1_isIn cX1_isIn 3 (some .boolean), .methodLink RX1 69 yX1_no, .instanceMethod yX1_no, .selects RX1 yX1_no yX1_no, .code yX1_no cX1_no 2 (some .int)] ++ wsX10)
def wsX1_weightOf : List Cond := .code yX1_weightOf cX1_weightOf 2 (some .int) :: ([.fieldLink RX1 23 "ApologyLedgerModel" "weight" "[I", .methodLink RX1 118 yX1_of, .instanceMethod yX1_of, .selects RX1 yX1_of yX1_of, .initialized RX1, .code yX1_of cX1_of 3 (some .int), .fieldLink RX1 35 "ApologyLedgerModel" "thrown" "I", .methodLink RX1 78 yX1_isSlight, .instanceMethod yX1_isSlight, .selects RX1 yX1_isSlight yX1_isSlight, .code yX1_isSlight cX1_isSlight 2 (some .boolean), .fieldLink RX1 46 "ApologyLedgerModel" "slights" "I", .methodLink RX1 42 yX1_isIn, .static yX1_isIn, .code yX1_isIn cX1_isIn 3 (some .boolean), .methodLink RX1 69 yX1_no, .instanceMethod yX1_no, .selects RX1 yX1_no yX1_no, .code yX1_no cX1_no 2 (some .int)] ++ wsX10)
def wsX1_stateOf : List Cond := .code yX1_stateOf cX1_stateOf 2 (some .int) :: ([.fieldLink RX1 26 "ApologyLedgerModel" "state" "[I", .methodLink RX1 118 yX1_of, .instanceMethod yX1_of, .selects RX1 yX1_of yX1_of, .initialized RX1, .code yX1_of cX1_of 3 (some .int), .fieldLink RX1 35 "ApologyLedgerModel" "thrown" "I", .methodLink RX1 78 yX1_isSlight, .instanceMethod yX1_isSlight, .selects RX1 yX1_isSlight yX1_isSlight, .code yX1_isSlight cX1_isSlight 2 (some .boolean), .fieldLink RX1 46 "ApologyLedgerModel" "slights" "I", .methodLink RX1 42 yX1_isIn, .static yX1_isIn, .code yX1_isIn cX1_isIn 3 (some .boolean), .methodLink RX1 69 yX1_no, .instanceMethod yX1_no, .selects RX1 yX1_no yX1_no, .code yX1_no cX1_no 2 (some .int)] ++ wsX10)
def wsX1_borneFor : List Cond := .code yX1_borneFor cX1_borneFor 2 (some .int) :: ([.fieldLink RX1 29 "ApologyLedgerModel" "borne" "[I", .methodLink RX1 118 yX1_of, .instanceMethod yX1_of, .selects RX1 yX1_of yX1_of, .initialized RX1, .code yX1_of cX1_of 3 (some .int), .fieldLink RX1 35 "ApologyLedgerModel" "thrown" "I", .methodLink RX1 78 yX1_isSlight, .instanceMethod yX1_isSlight, .selects RX1 yX1_isSlight yX1_isSlight, .code yX1_isSlight cX1_isSlight 2 (some .boolean), .fieldLink RX1 46 "ApologyLedgerModel" "slights" "I", .methodLink RX1 42 yX1_isIn, .static yX1_isIn, .code yX1_isIn cX1_isIn 3 (some .boolean), .methodLink RX1 69 yX1_no, .instanceMethod yX1_no, .selects RX1 yX1_no yX1_no, .code yX1_no cX1_no 2 (some .int)] ++ wsX10)
def wsX1_quietFor : List Cond := .code yX1_quietFor cX1_quietFor 2 (some .int) :: ([.fieldLink RX1 32 "ApologyLedgerModel" "quiet" "[I", .methodLink RX1 118 yX1_of, .instanceMethod yX1_of, .selects RX1 yX1_of yX1_of, .initialized RX1, .code yX1_of cX1_of 3 (some .int), .fieldLink RX1 35 "ApologyLedgerModel" "thrown" "I", .methodLink RX1 78 yX1_isSlight, .instanceMethod yX1_isSlight, .selects RX1 yX1_isSlight yX1_isSlight, .code yX1_isSlight cX1_isSlight 2 (some .boolean), .fieldLink RX1 46 "ApologyLedgerModel" "slights" "I", .methodLink RX1 42 yX1_isIn, .static yX1_isIn, .code yX1_isIn cX1_isIn 3 (some .boolean), .methodLink RX1 69 yX1_no, .instanceMethod yX1_no, .selects RX1 yX1_no yX1_no, .code yX1_no cX1_no 2 (some .int)] ++ wsX10)
def wsX1_witnessesFor : List Cond := .code yX1_witnessesFor cX1_witnessesFor 2 (some .int) :: ([.fieldLink RX1 35 "ApologyLedgerModel" "thrown" "I", .methodLink RX1 78 yX1_isSlight, .instanceMethod yX1_isSlight, .selects RX1 yX1_isSlight yX1_isSlight, .initialized RX1, .code yX1_isSlight cX1_isSlight 2 (some .boolean), .fieldLink RX1 46 "ApologyLedgerModel" "slights" "I", .methodLink RX1 42 yX1_isIn, .static yX1_isIn, .code yX1_isIn cX1_isIn 3 (some .boolean), .methodLink RX1 66 yX1_witnesses, .instanceMethod yX1_witnesses, .selects RX1 yX1_witnesses yX1_witnesses, .code yX1_witnesses cX1_witnesses 4 (some .int), .fieldLink RX1 39 "ApologyLedgerModel" "persons" "I", .fieldLink RX1 13 "ApologyLedgerModel" "isHere" "[Z", .fieldLink RX1 17 "ApologyLedgerModel" "by" "[I", .fieldLink RX1 20 "ApologyLedgerModel" "against" "[I", .methodLink RX1 69 yX1_no, .instanceMethod yX1_no, .selects RX1 yX1_no yX1_no, .code yX1_no cX1_no 2 (some .int)] ++ wsX10)
def wsX1_count : List Cond := .code yX1_count cX1_count 4 (some .int) :: ([.fieldLink RX1 46 "ApologyLedgerModel" "slights" "I", .fieldLink RX1 26 "ApologyLedgerModel" "state" "[I"] ++ wsX10)
def wsX1_inState : List Cond := .code yX1_inState cX1_inState 2 (some .int) :: ([.fieldLink RX1 35 "ApologyLedgerModel" "thrown" "I", .methodLink RX1 42 yX1_isIn, .static yX1_isIn, .initialized RX1, .code yX1_isIn cX1_isIn 3 (some .boolean), .methodLink RX1 122 yX1_count, .instanceMethod yX1_count, .selects RX1 yX1_count yX1_count, .code yX1_count cX1_count 4 (some .int), .fieldLink RX1 46 "ApologyLedgerModel" "slights" "I", .fieldLink RX1 26 "ApologyLedgerModel" "state" "[I", .methodLink RX1 69 yX1_no, .instanceMethod yX1_no, .selects RX1 yX1_no yX1_no, .code yX1_no cX1_no 2 (some .int)] ++ wsX10)
def wsX1_heavy : List Cond := .code yX1_heavy cX1_heavy 3 (some .int) :: ([.fieldLink RX1 46 "ApologyLedgerModel" "slights" "I", .fieldLink RX1 23 "ApologyLedgerModel" "weight" "[I", .methodLink RX1 58 yX1_isOpen, .instanceMethod yX1_isOpen, .selects RX1 yX1_isOpen yX1_isOpen, .initialized RX1, .code yX1_isOpen cX1_isOpen 2 (some .boolean), .fieldLink RX1 26 "ApologyLedgerModel" "state" "[I"] ++ wsX10)
def wsX1_heaviest : List Cond := .code yX1_heaviest cX1_heaviest 1 (some .int) :: ([.methodLink RX1 125 yX1_heavy, .instanceMethod yX1_heavy, .selects RX1 yX1_heavy yX1_heavy, .initialized RX1, .code yX1_heavy cX1_heavy 3 (some .int), .fieldLink RX1 46 "ApologyLedgerModel" "slights" "I", .fieldLink RX1 23 "ApologyLedgerModel" "weight" "[I", .methodLink RX1 58 yX1_isOpen, .instanceMethod yX1_isOpen, .selects RX1 yX1_isOpen yX1_isOpen, .code yX1_isOpen cX1_isOpen 2 (some .boolean), .fieldLink RX1 26 "ApologyLedgerModel" "state" "[I", .methodLink RX1 105 yX1_ok, .instanceMethod yX1_ok, .selects RX1 yX1_ok yX1_ok, .code yX1_ok cX1_ok 2 (some .int), .fieldLink RX1 35 "ApologyLedgerModel" "thrown" "I"] ++ wsX10)
def wsX1_pairs : List Cond := .code yX1_pairs cX1_pairs 4 (some .int) :: ([.fieldLink RX1 46 "ApologyLedgerModel" "slights" "I", .methodLink RX1 96 yX1_areOpposite, .instanceMethod yX1_areOpposite, .selects RX1 yX1_areOpposite yX1_areOpposite, .initialized RX1, .code yX1_areOpposite cX1_areOpposite 3 (some .boolean), .fieldLink RX1 17 "ApologyLedgerModel" "by" "[I", .fieldLink RX1 20 "ApologyLedgerModel" "against" "[I", .methodLink RX1 58 yX1_isOpen, .instanceMethod yX1_isOpen, .selects RX1 yX1_isOpen yX1_isOpen, .code yX1_isOpen cX1_isOpen 2 (some .boolean), .fieldLink RX1 26 "ApologyLedgerModel" "state" "[I"] ++ wsX10)
def wsX1_pairsToSetOff : List Cond := .code yX1_pairsToSetOff cX1_pairsToSetOff 1 (some .int) :: ([.methodLink RX1 128 yX1_pairs, .instanceMethod yX1_pairs, .selects RX1 yX1_pairs yX1_pairs, .initialized RX1, .code yX1_pairs cX1_pairs 4 (some .int), .fieldLink RX1 46 "ApologyLedgerModel" "slights" "I", .methodLink RX1 96 yX1_areOpposite, .instanceMethod yX1_areOpposite, .selects RX1 yX1_areOpposite yX1_areOpposite, .code yX1_areOpposite cX1_areOpposite 3 (some .boolean), .fieldLink RX1 17 "ApologyLedgerModel" "by" "[I", .fieldLink RX1 20 "ApologyLedgerModel" "against" "[I", .methodLink RX1 58 yX1_isOpen, .instanceMethod yX1_isOpen, .selects RX1 yX1_isOpen yX1_isOpen, .code yX1_isOpen cX1_isOpen 2 (some .boolean), .fieldLink RX1 26 "ApologyLedgerModel" "state" "[I", .methodLink RX1 105 yX1_ok, .instanceMethod yX1_ok, .selects RX1 yX1_ok yX1_ok, .code yX1_ok cX1_ok 2 (some .int), .fieldLink RX1 35 "ApologyLedgerModel" "thrown" "I"] ++ wsX10)
def wsX1_wanted : List Cond := .code yX1_wanted cX1_wanted 3 (some .int) :: ([.fieldLink RX1 23 "ApologyLedgerModel" "weight" "[I", .fieldLink RX1 9 "ApologyLedgerModel" "pride" "[I", .fieldLink RX1 20 "ApologyLedgerModel" "against" "[I", .methodLink RX1 55 Lib.Math.max.name, .static Lib.Math.max.name, .initialized "java/lang/Math", .code Lib.Math.max.name Lib.Math.max.code 2 (some .int), .methodLink RX1 58 yX1_isOpen, .instanceMethod yX1_isOpen, .selects RX1 yX1_isOpen yX1_isOpen, .initialized RX1, .code yX1_isOpen cX1_isOpen 2 (some .boolean), .fieldLink RX1 26 "ApologyLedgerModel" "state" "[I", .methodLink RX1 66 yX1_witnesses, .instanceMethod yX1_witnesses, .selects RX1 yX1_witnesses yX1_witnesses, .code yX1_witnesses cX1_witnesses 4 (some .int), .fieldLink RX1 39 "ApologyLedgerModel" "persons" "I", .fieldLink RX1 13 "ApologyLedgerModel" "isHere" "[Z", .fieldLink RX1 17 "ApologyLedgerModel" "by" "[I"] ++ wsX10)
def wsX1_wordsWanted_r1 : List Cond := [Cond.fieldLink RX1 35 "ApologyLedgerModel" "thrown" "I", Cond.methodLink RX1 78 yX1_isSlight, Cond.instanceMethod yX1_isSlight, Cond.selects RX1 yX1_isSlight yX1_isSlight, Cond.initialized RX1, Cond.code yX1_isSlight cX1_isSlight 2 (some .boolean), Cond.fieldLink RX1 46 "ApologyLedgerModel" "slights" "I", Cond.methodLink RX1 42 yX1_isIn, Cond.static yX1_isIn, Cond.code yX1_isIn cX1_isIn 3 (some .boolean), Cond.methodLink RX1 131 yX1_wanted, Cond.instanceMethod yX1_wanted, Cond.selects RX1 yX1_wanted yX1_wanted, Cond.code yX1_wanted cX1_wanted 3 (some .int), Cond.fieldLink RX1 23 "ApologyLedgerModel" "weight" "[I", Cond.fieldLink RX1 9 "ApologyLedgerModel" "pride" "[I", Cond.fieldLink RX1 20 "ApologyLedgerModel" "against" "[I", Cond.methodLink RX1 55 Lib.Math.max.name, Cond.static Lib.Math.max.name, Cond.initialized "java/lang/Math", Cond.code Lib.Math.max.name Lib.Math.max.code 2 (some .int), Cond.methodLink RX1 58 yX1_isOpen, Cond.instanceMethod yX1_isOpen, Cond.selects RX1 yX1_isOpen yX1_isOpen]
def wsX1_wordsWanted_r2 : List Cond := [Cond.code yX1_isOpen cX1_isOpen 2 (some .boolean), Cond.fieldLink RX1 26 "ApologyLedgerModel" "state" "[I", Cond.methodLink RX1 66 yX1_witnesses, Cond.instanceMethod yX1_witnesses, Cond.selects RX1 yX1_witnesses yX1_witnesses, Cond.code yX1_witnesses cX1_witnesses 4 (some .int), Cond.fieldLink RX1 39 "ApologyLedgerModel" "persons" "I", Cond.fieldLink RX1 13 "ApologyLedgerModel" "isHere" "[Z", Cond.fieldLink RX1 17 "ApologyLedgerModel" "by" "[I", Cond.methodLink RX1 69 yX1_no, Cond.instanceMethod yX1_no, Cond.selects RX1 yX1_no yX1_no, Cond.code yX1_no cX1_no 2 (some .int)]
def wsX1_wordsWanted : List Cond := .code yX1_wordsWanted cX1_wordsWanted 2 (some .int) :: ((wsX1_wordsWanted_r1 ++ wsX1_wordsWanted_r2) ++ wsX10)
def wsX1_wouldBeScorned_r1 : List Cond := [Cond.fieldLink RX1 35 "ApologyLedgerModel" "thrown" "I", Cond.methodLink RX1 78 yX1_isSlight, Cond.instanceMethod yX1_isSlight, Cond.selects RX1 yX1_isSlight yX1_isSlight, Cond.initialized RX1, Cond.code yX1_isSlight cX1_isSlight 2 (some .boolean), Cond.fieldLink RX1 46 "ApologyLedgerModel" "slights" "I", Cond.methodLink RX1 42 yX1_isIn, Cond.static yX1_isIn, Cond.code yX1_isIn cX1_isIn 3 (some .boolean), Cond.methodLink RX1 75 yX1_isNot, Cond.instanceMethod yX1_isNot, Cond.selects RX1 yX1_isNot yX1_isNot, Cond.code yX1_isNot cX1_isNot 2 (some .boolean), Cond.methodLink RX1 58 yX1_isOpen, Cond.instanceMethod yX1_isOpen, Cond.selects RX1 yX1_isOpen yX1_isOpen, Cond.code yX1_isOpen cX1_isOpen 2 (some .boolean), Cond.fieldLink RX1 26 "ApologyLedgerModel" "state" "[I", Cond.methodLink RX1 85 yX1_isScorned, Cond.instanceMethod yX1_isScorned, Cond.selects RX1 yX1_isScorned yX1_isScorned, Cond.code yX1_isScorned cX1_isScorned 4 (some .boolean), Cond.fieldLink RX1 9 "ApologyLedgerModel" "pride" "[I"]
def wsX1_wouldBeScorned_r2 : List Cond := [Cond.fieldLink RX1 20 "ApologyLedgerModel" "against" "[I", Cond.fieldLink RX1 23 "ApologyLedgerModel" "weight" "[I", Cond.methodLink RX1 66 yX1_witnesses, Cond.instanceMethod yX1_witnesses, Cond.selects RX1 yX1_witnesses yX1_witnesses, Cond.code yX1_witnesses cX1_witnesses 4 (some .int), Cond.fieldLink RX1 39 "ApologyLedgerModel" "persons" "I", Cond.fieldLink RX1 13 "ApologyLedgerModel" "isHere" "[Z", Cond.fieldLink RX1 17 "ApologyLedgerModel" "by" "[I"]
def wsX1_wouldBeScorned : List Cond := .code yX1_wouldBeScorned cX1_wouldBeScorned 3 (some .boolean) :: ((wsX1_wouldBeScorned_r1 ++ wsX1_wouldBeScorned_r2) ++ wsX10)
def wsX1_weightIn_r1 : List Cond := [Cond.fieldLink RX1 35 "ApologyLedgerModel" "thrown" "I", Cond.methodLink RX1 78 yX1_isSlight, Cond.instanceMethod yX1_isSlight, Cond.selects RX1 yX1_isSlight yX1_isSlight, Cond.initialized RX1, Cond.code yX1_isSlight cX1_isSlight 2 (some .boolean), Cond.fieldLink RX1 46 "ApologyLedgerModel" "slights" "I", Cond.methodLink RX1 42 yX1_isIn, Cond.static yX1_isIn, Cond.code yX1_isIn cX1_isIn 3 (some .boolean), Cond.methodLink RX1 69 yX1_no, Cond.instanceMethod yX1_no, Cond.selects RX1 yX1_no yX1_no, Cond.code yX1_no cX1_no 2 (some .int), Cond.methodLink RX1 99 yX1_later, Cond.instanceMethod yX1_later, Cond.selects RX1 yX1_later yX1_later, Cond.code yX1_later cX1_later 5 (some .int), Cond.fieldLink RX1 32 "ApologyLedgerModel" "quiet" "[I", Cond.fieldLink RX1 23 "ApologyLedgerModel" "weight" "[I", Cond.fieldLink RX1 29 "ApologyLedgerModel" "borne" "[I", Cond.methodLink RX1 58 yX1_isOpen, Cond.instanceMethod yX1_isOpen, Cond.selects RX1 yX1_isOpen yX1_isOpen]
def wsX1_weightIn_r2 : List Cond := [Cond.code yX1_isOpen cX1_isOpen 2 (some .boolean), Cond.fieldLink RX1 26 "ApologyLedgerModel" "state" "[I", Cond.methodLink RX1 62 yX1_grown, Cond.static yX1_grown, Cond.code yX1_grown cX1_grown 1 (some .int), Cond.methodLink RX1 55 Lib.Math.max.name, Cond.static Lib.Math.max.name, Cond.initialized "java/lang/Math", Cond.code Lib.Math.max.name Lib.Math.max.code 2 (some .int), Cond.methodLink RX1 49 Lib.Math.min.name, Cond.static Lib.Math.min.name, Cond.code Lib.Math.min.name Lib.Math.min.code 2 (some .int)]
def wsX1_weightIn : List Cond := .code yX1_weightIn cX1_weightIn 3 (some .int) :: ((wsX1_weightIn_r1 ++ wsX1_weightIn_r2) ++ wsX10)
def wsX1_until : List Cond := .code yX1_until cX1_until 2 (some .int) :: ([.fieldLink RX1 32 "ApologyLedgerModel" "quiet" "[I", .methodLink RX1 58 yX1_isOpen, .instanceMethod yX1_isOpen, .selects RX1 yX1_isOpen yX1_isOpen, .initialized RX1, .code yX1_isOpen cX1_isOpen 2 (some .boolean), .fieldLink RX1 26 "ApologyLedgerModel" "state" "[I"] ++ wsX10)
def wsX1_daysUntilForgotten : List Cond := .code yX1_daysUntilForgotten cX1_daysUntilForgotten 2 (some .int) :: ([.fieldLink RX1 35 "ApologyLedgerModel" "thrown" "I", .methodLink RX1 78 yX1_isSlight, .instanceMethod yX1_isSlight, .selects RX1 yX1_isSlight yX1_isSlight, .initialized RX1, .code yX1_isSlight cX1_isSlight 2 (some .boolean), .fieldLink RX1 46 "ApologyLedgerModel" "slights" "I", .methodLink RX1 42 yX1_isIn, .static yX1_isIn, .code yX1_isIn cX1_isIn 3 (some .boolean), .methodLink RX1 134 yX1_until, .instanceMethod yX1_until, .selects RX1 yX1_until yX1_until, .code yX1_until cX1_until 2 (some .int), .fieldLink RX1 32 "ApologyLedgerModel" "quiet" "[I", .methodLink RX1 58 yX1_isOpen, .instanceMethod yX1_isOpen, .selects RX1 yX1_isOpen yX1_isOpen, .code yX1_isOpen cX1_isOpen 2 (some .boolean), .fieldLink RX1 26 "ApologyLedgerModel" "state" "[I", .methodLink RX1 69 yX1_no, .instanceMethod yX1_no, .selects RX1 yX1_no yX1_no, .code yX1_no cX1_no 2 (some .int)] ++ wsX10)
def wsX1_borneThen_r1 : List Cond := [Cond.fieldLink RX1 46 "ApologyLedgerModel" "slights" "I", Cond.fieldLink RX1 20 "ApologyLedgerModel" "against" "[I", Cond.methodLink RX1 99 yX1_later, Cond.instanceMethod yX1_later, Cond.selects RX1 yX1_later yX1_later, Cond.initialized RX1, Cond.code yX1_later cX1_later 5 (some .int), Cond.fieldLink RX1 32 "ApologyLedgerModel" "quiet" "[I", Cond.fieldLink RX1 23 "ApologyLedgerModel" "weight" "[I", Cond.fieldLink RX1 29 "ApologyLedgerModel" "borne" "[I", Cond.methodLink RX1 58 yX1_isOpen, Cond.instanceMethod yX1_isOpen, Cond.selects RX1 yX1_isOpen yX1_isOpen, Cond.code yX1_isOpen cX1_isOpen 2 (some .boolean), Cond.fieldLink RX1 26 "ApologyLedgerModel" "state" "[I", Cond.methodLink RX1 62 yX1_grown, Cond.static yX1_grown, Cond.code yX1_grown cX1_grown 1 (some .int), Cond.methodLink RX1 55 Lib.Math.max.name, Cond.static Lib.Math.max.name, Cond.initialized "java/lang/Math", Cond.code Lib.Math.max.name Lib.Math.max.code 2 (some .int), Cond.methodLink RX1 49 Lib.Math.min.name, Cond.static Lib.Math.min.name]
def wsX1_borneThen_r2 : List Cond := [Cond.code Lib.Math.min.name Lib.Math.min.code 2 (some .int)]
def wsX1_borneThen : List Cond := .code yX1_borneThen cX1_borneThen 5 (some .int) :: ((wsX1_borneThen_r1 ++ wsX1_borneThen_r2) ++ wsX10)
def wsX1_borneIn_r1 : List Cond := [Cond.fieldLink RX1 35 "ApologyLedgerModel" "thrown" "I", Cond.methodLink RX1 72 yX1_isPerson, Cond.instanceMethod yX1_isPerson, Cond.selects RX1 yX1_isPerson yX1_isPerson, Cond.initialized RX1, Cond.code yX1_isPerson cX1_isPerson 2 (some .boolean), Cond.fieldLink RX1 39 "ApologyLedgerModel" "persons" "I", Cond.methodLink RX1 42 yX1_isIn, Cond.static yX1_isIn, Cond.code yX1_isIn cX1_isIn 3 (some .boolean), Cond.methodLink RX1 69 yX1_no, Cond.instanceMethod yX1_no, Cond.selects RX1 yX1_no yX1_no, Cond.code yX1_no cX1_no 2 (some .int), Cond.methodLink RX1 137 yX1_borneThen, Cond.instanceMethod yX1_borneThen, Cond.selects RX1 yX1_borneThen yX1_borneThen, Cond.code yX1_borneThen cX1_borneThen 5 (some .int), Cond.fieldLink RX1 46 "ApologyLedgerModel" "slights" "I", Cond.fieldLink RX1 20 "ApologyLedgerModel" "against" "[I", Cond.methodLink RX1 99 yX1_later, Cond.instanceMethod yX1_later, Cond.selects RX1 yX1_later yX1_later, Cond.code yX1_later cX1_later 5 (some .int)]
def wsX1_borneIn_r2 : List Cond := [Cond.fieldLink RX1 32 "ApologyLedgerModel" "quiet" "[I", Cond.fieldLink RX1 23 "ApologyLedgerModel" "weight" "[I", Cond.fieldLink RX1 29 "ApologyLedgerModel" "borne" "[I", Cond.methodLink RX1 58 yX1_isOpen, Cond.instanceMethod yX1_isOpen, Cond.selects RX1 yX1_isOpen yX1_isOpen, Cond.code yX1_isOpen cX1_isOpen 2 (some .boolean), Cond.fieldLink RX1 26 "ApologyLedgerModel" "state" "[I", Cond.methodLink RX1 62 yX1_grown, Cond.static yX1_grown, Cond.code yX1_grown cX1_grown 1 (some .int), Cond.methodLink RX1 55 Lib.Math.max.name, Cond.static Lib.Math.max.name, Cond.initialized "java/lang/Math", Cond.code Lib.Math.max.name Lib.Math.max.code 2 (some .int), Cond.methodLink RX1 49 Lib.Math.min.name, Cond.static Lib.Math.min.name, Cond.code Lib.Math.min.name Lib.Math.min.code 2 (some .int)]
def wsX1_borneIn : List Cond := .code yX1_borneIn cX1_borneIn 3 (some .int) :: ((wsX1_borneIn_r1 ++ wsX1_borneIn_r2) ++ wsX10)
def wsX1_worst_r1 : List Cond := [Cond.fieldLink RX1 46 "ApologyLedgerModel" "slights" "I", Cond.fieldLink RX1 17 "ApologyLedgerModel" "by" "[I", Cond.fieldLink RX1 23 "ApologyLedgerModel" "weight" "[I", Cond.methodLink RX1 58 yX1_isOpen, Cond.instanceMethod yX1_isOpen, Cond.selects RX1 yX1_isOpen yX1_isOpen, Cond.initialized RX1, Cond.code yX1_isOpen cX1_isOpen 2 (some .boolean), Cond.fieldLink RX1 26 "ApologyLedgerModel" "state" "[I", Cond.methodLink RX1 99 yX1_later, Cond.instanceMethod yX1_later, Cond.selects RX1 yX1_later yX1_later, Cond.code yX1_later cX1_later 5 (some .int), Cond.fieldLink RX1 32 "ApologyLedgerModel" "quiet" "[I", Cond.fieldLink RX1 29 "ApologyLedgerModel" "borne" "[I", Cond.methodLink RX1 62 yX1_grown, Cond.static yX1_grown, Cond.code yX1_grown cX1_grown 1 (some .int), Cond.methodLink RX1 55 Lib.Math.max.name, Cond.static Lib.Math.max.name, Cond.initialized "java/lang/Math", Cond.code Lib.Math.max.name Lib.Math.max.code 2 (some .int), Cond.methodLink RX1 49 Lib.Math.min.name, Cond.static Lib.Math.min.name]
def wsX1_worst_r2 : List Cond := [Cond.code Lib.Math.min.name Lib.Math.min.code 2 (some .int)]
def wsX1_worst : List Cond := .code yX1_worst cX1_worst 6 (some .int) :: ((wsX1_worst_r1 ++ wsX1_worst_r2) ++ wsX10)
def wsX1_worstToKeep_r1 : List Cond := [Cond.fieldLink RX1 35 "ApologyLedgerModel" "thrown" "I", Cond.methodLink RX1 72 yX1_isPerson, Cond.instanceMethod yX1_isPerson, Cond.selects RX1 yX1_isPerson yX1_isPerson, Cond.initialized RX1, Cond.code yX1_isPerson cX1_isPerson 2 (some .boolean), Cond.fieldLink RX1 39 "ApologyLedgerModel" "persons" "I", Cond.methodLink RX1 42 yX1_isIn, Cond.static yX1_isIn, Cond.code yX1_isIn cX1_isIn 3 (some .boolean), Cond.methodLink RX1 140 yX1_worst, Cond.instanceMethod yX1_worst, Cond.selects RX1 yX1_worst yX1_worst, Cond.code yX1_worst cX1_worst 6 (some .int), Cond.fieldLink RX1 46 "ApologyLedgerModel" "slights" "I", Cond.fieldLink RX1 17 "ApologyLedgerModel" "by" "[I", Cond.fieldLink RX1 23 "ApologyLedgerModel" "weight" "[I", Cond.methodLink RX1 58 yX1_isOpen, Cond.instanceMethod yX1_isOpen, Cond.selects RX1 yX1_isOpen yX1_isOpen, Cond.code yX1_isOpen cX1_isOpen 2 (some .boolean), Cond.fieldLink RX1 26 "ApologyLedgerModel" "state" "[I", Cond.methodLink RX1 99 yX1_later, Cond.instanceMethod yX1_later]
def wsX1_worstToKeep_r2 : List Cond := [Cond.selects RX1 yX1_later yX1_later, Cond.code yX1_later cX1_later 5 (some .int), Cond.fieldLink RX1 32 "ApologyLedgerModel" "quiet" "[I", Cond.fieldLink RX1 29 "ApologyLedgerModel" "borne" "[I", Cond.methodLink RX1 62 yX1_grown, Cond.static yX1_grown, Cond.code yX1_grown cX1_grown 1 (some .int), Cond.methodLink RX1 55 Lib.Math.max.name, Cond.static Lib.Math.max.name, Cond.initialized "java/lang/Math", Cond.code Lib.Math.max.name Lib.Math.max.code 2 (some .int), Cond.methodLink RX1 49 Lib.Math.min.name, Cond.static Lib.Math.min.name, Cond.code Lib.Math.min.name Lib.Math.min.code 2 (some .int), Cond.methodLink RX1 69 yX1_no, Cond.instanceMethod yX1_no, Cond.selects RX1 yX1_no yX1_no, Cond.code yX1_no cX1_no 2 (some .int)]
def wsX1_worstToKeep : List Cond := .code yX1_worstToKeep cX1_worstToKeep 2 (some .int) :: ((wsX1_worstToKeep_r1 ++ wsX1_worstToKeep_r2) ++ wsX10)
def wsX1_meanWeight : List Cond := .code yX1_meanWeight cX1_meanWeight 1 (some .double) :: ([.fieldLink RX1 35 "ApologyLedgerModel" "thrown" "I", .methodLink RX1 122 yX1_count, .instanceMethod yX1_count, .selects RX1 yX1_count yX1_count, .initialized RX1, .code yX1_count cX1_count 4 (some .int), .fieldLink RX1 46 "ApologyLedgerModel" "slights" "I", .fieldLink RX1 26 "ApologyLedgerModel" "state" "[I", .methodLink RX1 112 yX1_done, .instanceMethod yX1_done, .selects RX1 yX1_done yX1_done, .code yX1_done cX1_done 5 (some .int), .fieldLink RX1 17 "ApologyLedgerModel" "by" "[I", .fieldLink RX1 20 "ApologyLedgerModel" "against" "[I", .fieldLink RX1 23 "ApologyLedgerModel" "weight" "[I"] ++ wsX10)
def wsX1_digest_r1 : List Cond := [Cond.fieldLink RX1 35 "ApologyLedgerModel" "thrown" "I", Cond.arrayClass .int, Cond.fieldLink RX1 102 "ApologyLedgerModel" "day" "I", Cond.fieldLink RX1 39 "ApologyLedgerModel" "persons" "I", Cond.fieldLink RX1 46 "ApologyLedgerModel" "slights" "I", Cond.fieldLink RX1 89 "ApologyLedgerModel" "scorned" "I", Cond.constantLong RX1 143 (2027), Cond.constantLong RX1 145 (31), Cond.fieldLink RX1 13 "ApologyLedgerModel" "isHere" "[Z", Cond.fieldLink RX1 9 "ApologyLedgerModel" "pride" "[I", Cond.fieldLink RX1 23 "ApologyLedgerModel" "weight" "[I", Cond.fieldLink RX1 26 "ApologyLedgerModel" "state" "[I", Cond.fieldLink RX1 29 "ApologyLedgerModel" "borne" "[I", Cond.fieldLink RX1 32 "ApologyLedgerModel" "quiet" "[I", Cond.methodLink RX1 108 yX1_here, Cond.instanceMethod yX1_here, Cond.selects RX1 yX1_here yX1_here, Cond.initialized RX1, Cond.code yX1_here cX1_here 3 (some .int), Cond.methodLink RX1 115 yX1_sore, Cond.instanceMethod yX1_sore, Cond.selects RX1 yX1_sore yX1_sore, Cond.code yX1_sore cX1_sore 3 (some .int), Cond.methodLink RX1 112 yX1_done]
def wsX1_digest_r2 : List Cond := [Cond.instanceMethod yX1_done, Cond.selects RX1 yX1_done yX1_done, Cond.code yX1_done cX1_done 5 (some .int), Cond.fieldLink RX1 17 "ApologyLedgerModel" "by" "[I", Cond.fieldLink RX1 20 "ApologyLedgerModel" "against" "[I", Cond.methodLink RX1 122 yX1_count, Cond.instanceMethod yX1_count, Cond.selects RX1 yX1_count yX1_count, Cond.code yX1_count cX1_count 4 (some .int), Cond.methodLink RX1 125 yX1_heavy, Cond.instanceMethod yX1_heavy, Cond.selects RX1 yX1_heavy yX1_heavy, Cond.code yX1_heavy cX1_heavy 3 (some .int), Cond.methodLink RX1 58 yX1_isOpen, Cond.instanceMethod yX1_isOpen, Cond.selects RX1 yX1_isOpen yX1_isOpen, Cond.code yX1_isOpen cX1_isOpen 2 (some .boolean), Cond.methodLink RX1 128 yX1_pairs, Cond.instanceMethod yX1_pairs, Cond.selects RX1 yX1_pairs yX1_pairs, Cond.code yX1_pairs cX1_pairs 4 (some .int), Cond.methodLink RX1 96 yX1_areOpposite, Cond.instanceMethod yX1_areOpposite, Cond.selects RX1 yX1_areOpposite yX1_areOpposite]
def wsX1_digest_r3 : List Cond := [Cond.code yX1_areOpposite cX1_areOpposite 3 (some .boolean), Cond.methodLink RX1 137 yX1_borneThen, Cond.instanceMethod yX1_borneThen, Cond.selects RX1 yX1_borneThen yX1_borneThen, Cond.code yX1_borneThen cX1_borneThen 5 (some .int), Cond.methodLink RX1 99 yX1_later, Cond.instanceMethod yX1_later, Cond.selects RX1 yX1_later yX1_later, Cond.code yX1_later cX1_later 5 (some .int), Cond.methodLink RX1 62 yX1_grown, Cond.static yX1_grown, Cond.code yX1_grown cX1_grown 1 (some .int), Cond.methodLink RX1 55 Lib.Math.max.name, Cond.static Lib.Math.max.name, Cond.initialized "java/lang/Math", Cond.code Lib.Math.max.name Lib.Math.max.code 2 (some .int), Cond.methodLink RX1 49 Lib.Math.min.name, Cond.static Lib.Math.min.name, Cond.code Lib.Math.min.name Lib.Math.min.code 2 (some .int), Cond.methodLink RX1 140 yX1_worst, Cond.instanceMethod yX1_worst, Cond.selects RX1 yX1_worst yX1_worst, Cond.code yX1_worst cX1_worst 6 (some .int), Cond.methodLink RX1 66 yX1_witnesses]
def wsX1_digest_r4 : List Cond := [Cond.instanceMethod yX1_witnesses, Cond.selects RX1 yX1_witnesses yX1_witnesses, Cond.code yX1_witnesses cX1_witnesses 4 (some .int), Cond.methodLink RX1 131 yX1_wanted, Cond.instanceMethod yX1_wanted, Cond.selects RX1 yX1_wanted yX1_wanted, Cond.code yX1_wanted cX1_wanted 3 (some .int), Cond.methodLink RX1 134 yX1_until, Cond.instanceMethod yX1_until, Cond.selects RX1 yX1_until yX1_until, Cond.code yX1_until cX1_until 2 (some .int)]
def wsX1_digest : List Cond := .code yX1_digest cX1_digest 10 (some .long) :: ((wsX1_digest_r1 ++ (wsX1_digest_r2 ++ (wsX1_digest_r3 ++ wsX1_digest_r4))) ++ wsX10)
def wsJ9_max_7cf53 : List Cond := .code yJ9_max_7cf53 cJ9_max_7cf53 2 (some .int) :: ([])
def wsJ9_min_7cf53 : List Cond := .code yJ9_min_7cf53 cJ9_min_7cf53 2 (some .int) :: ([])
def wsL_addPerson : List Cond := .codeWith yL_addPerson cL_addPerson 4 (some .int) [(0, 9, 12, 13), (0, 9, 15, 15)] :: ([.classLink RL 13 "java/lang/IllegalArgumentException", .classLink RL 15 "java/lang/IllegalStateException", .methodLink RL 7 yX0_addPerson, .instanceMethod yX0_addPerson, .selects RX0 yX0_addPerson yX0_addPerson, .initialized RX0, .code yX0_addPerson cX0_addPerson 3 (some .int), .classLink RX0 43 "java/lang/IllegalStateException", .initialized "java/lang/IllegalStateException", .fieldLink RX0 39 "ApologyLedger" "personCount" "I", .fieldLink RX0 9 "ApologyLedger" "prides" "[I", .methodLink RX0 35 yX0_requirePride, .static yX0_requirePride, .code yX0_requirePride cX0_requirePride 1 none, .classLink RX0 53 "java/lang/IllegalArgumentException", .initialized "java/lang/IllegalArgumentException"] ++ wsX00 ++ (vx_atS RX0 47 "java/lang/IllegalStateException" ["java/lang/RuntimeException", "java/lang/Exception"]).filter goodWord ++ (vx_atS RX0 57 "java/lang/IllegalArgumentException" ["java/lang/RuntimeException", "java/lang/Exception"]).filter goodWord)
def wsL_enter : List Cond := .codeWith yL_enter cL_enter 4 (some .int) [(0, 16, 19, 21)] :: ([.classLink RL 21 "java/lang/IndexOutOfBoundsException", .methodLink RL 17 yX0_enter, .instanceMethod yX0_enter, .selects RX0 yX0_enter yX0_enter, .initialized RX0, .code yX0_enter cX0_enter 2 (some .boolean), .fieldLink RX0 13 "ApologyLedger" "present" "[Z", .methodLink RX0 50 yX0_requirePerson, .instanceMethod yX0_requirePerson, .selects RX0 yX0_requirePerson yX0_requirePerson, .code yX0_requirePerson cX0_requirePerson 2 none, .classLink RX0 143 "java/lang/IndexOutOfBoundsException", .initialized "java/lang/IndexOutOfBoundsException", .fieldLink RX0 39 "ApologyLedger" "personCount" "I"] ++ wsX00 ++ (vx_atS RX0 147 "java/lang/IndexOutOfBoundsException" ["java/lang/RuntimeException", "java/lang/Exception"]).filter goodWord)
def wsL_slight : List Cond := .codeWith yL_slight cL_slight 6 (some .int) [(0, 12, 15, 21), (0, 12, 19, 13), (0, 12, 23, 15)] :: ([.classLink RL 21 "java/lang/IndexOutOfBoundsException", .classLink RL 13 "java/lang/IllegalArgumentException", .classLink RL 15 "java/lang/IllegalStateException", .methodLink RL 23 yX0_slight, .instanceMethod yX0_slight, .selects RX0 yX0_slight yX0_slight, .initialized RX0, .code yX0_slight cX0_slight 5 (some .int), .classLink RX0 53 "java/lang/IllegalArgumentException", .initialized "java/lang/IllegalArgumentException", .classLink RX0 43 "java/lang/IllegalStateException", .initialized "java/lang/IllegalStateException", .fieldLink RX0 60 "ApologyLedger" "slightCount" "I", .fieldLink RX0 17 "ApologyLedger" "offenders" "[I", .fieldLink RX0 20 "ApologyLedger" "offendedOnes" "[I", .fieldLink RX0 23 "ApologyLedger" "weights" "[I", .methodLink RX0 50 yX0_requirePerson, .instanceMethod yX0_requirePerson, .selects RX0 yX0_requirePerson yX0_requirePerson, .code yX0_requirePerson cX0_requirePerson 2 none, .classLink RX0 143 "java/lang/IndexOutOfBoundsException", .initialized "java/lang/IndexOutOfBoundsException", .fieldLink RX0 39 "ApologyLedger" "personCount" "I"] ++ wsX00 ++ (vx_atS RX0 57 "java/lang/IllegalArgumentException" ["java/lang/RuntimeException", "java/lang/Exception"]).filter goodWord ++ (vx_atS RX0 47 "java/lang/IllegalStateException" ["java/lang/RuntimeException", "java/lang/Exception"]).filter goodWord ++ (vx_atS RX0 147 "java/lang/IndexOutOfBoundsException" ["java/lang/RuntimeException", "java/lang/Exception"]).filter goodWord)
def wsL_mention_r1 : List Cond := [Cond.classLink RL 21 "java/lang/IndexOutOfBoundsException", Cond.classLink RL 15 "java/lang/IllegalStateException", Cond.methodLink RL 27 yX0_mention, Cond.instanceMethod yX0_mention, Cond.selects RX0 yX0_mention yX0_mention, Cond.initialized RX0, Cond.code yX0_mention cX0_mention 2 (some .int), Cond.fieldLink RX0 23 "ApologyLedger" "weights" "[I", Cond.methodLink RX0 65 yX0_requireSlight, Cond.instanceMethod yX0_requireSlight, Cond.selects RX0 yX0_requireSlight yX0_requireSlight, Cond.code yX0_requireSlight cX0_requireSlight 2 none, Cond.classLink RX0 143 "java/lang/IndexOutOfBoundsException", Cond.initialized "java/lang/IndexOutOfBoundsException", Cond.fieldLink RX0 60 "ApologyLedger" "slightCount" "I", Cond.methodLink RX0 68 yX0_requireOpen, Cond.instanceMethod yX0_requireOpen, Cond.selects RX0 yX0_requireOpen yX0_requireOpen, Cond.code yX0_requireOpen cX0_requireOpen 2 none, Cond.classLink RX0 43 "java/lang/IllegalStateException", Cond.initialized "java/lang/IllegalStateException", Cond.methodLink RX0 150 yX0_stateOf, Cond.instanceMethod yX0_stateOf, Cond.selects RX0 yX0_stateOf yX0_stateOf]
def wsL_mention_r2 : List Cond := [Cond.code yX0_stateOf cX0_stateOf 2 (some .int), Cond.fieldLink RX0 26 "ApologyLedger" "states" "[I", Cond.methodLink RX0 71 yX0_speakOf, Cond.instanceMethod yX0_speakOf, Cond.selects RX0 yX0_speakOf yX0_speakOf, Cond.code yX0_speakOf cX0_speakOf 2 none, Cond.methodLink RX0 98 Lib.Math.min.name, Cond.static Lib.Math.min.name, Cond.initialized "java/lang/Math", Cond.code Lib.Math.min.name Lib.Math.min.code 2 (some .int), Cond.fieldLink RX0 32 "ApologyLedger" "daysQuiet" "[I"]
def wsL_mention : List Cond := .codeWith yL_mention cL_mention 4 (some .int) [(0, 9, 12, 21), (0, 9, 15, 15)] :: ((wsL_mention_r1 ++ wsL_mention_r2) ++ wsX00 ++ (vx_atS RX0 147 "java/lang/IndexOutOfBoundsException" ["java/lang/RuntimeException", "java/lang/Exception"]).filter goodWord ++ (vx_atS RX0 47 "java/lang/IllegalStateException" ["java/lang/RuntimeException", "java/lang/Exception"]).filter goodWord)
def wsL_apologize_r1 : List Cond := [Cond.classLink RL 21 "java/lang/IndexOutOfBoundsException", Cond.classLink RL 13 "java/lang/IllegalArgumentException", Cond.classLink RL 15 "java/lang/IllegalStateException", Cond.methodLink RL 30 yX0_apologize, Cond.instanceMethod yX0_apologize, Cond.selects RX0 yX0_apologize yX0_apologize, Cond.initialized RX0, Cond.code yX0_apologize cX0_apologize 4 (some .int), Cond.fieldLink RX0 85 "ApologyLedger" "scornedCount" "I", Cond.fieldLink RX0 23 "ApologyLedger" "weights" "[I", Cond.methodLink RX0 65 yX0_requireSlight, Cond.instanceMethod yX0_requireSlight, Cond.selects RX0 yX0_requireSlight yX0_requireSlight, Cond.code yX0_requireSlight cX0_requireSlight 2 none, Cond.classLink RX0 143 "java/lang/IndexOutOfBoundsException", Cond.initialized "java/lang/IndexOutOfBoundsException", Cond.fieldLink RX0 60 "ApologyLedger" "slightCount" "I", Cond.methodLink RX0 74 yX0_requireWords, Cond.static yX0_requireWords, Cond.code yX0_requireWords cX0_requireWords 1 none, Cond.classLink RX0 53 "java/lang/IllegalArgumentException", Cond.initialized "java/lang/IllegalArgumentException", Cond.methodLink RX0 68 yX0_requireOpen, Cond.instanceMethod yX0_requireOpen]
def wsL_apologize_r2 : List Cond := [Cond.selects RX0 yX0_requireOpen yX0_requireOpen, Cond.code yX0_requireOpen cX0_requireOpen 2 none, Cond.classLink RX0 43 "java/lang/IllegalStateException", Cond.initialized "java/lang/IllegalStateException", Cond.methodLink RX0 150 yX0_stateOf, Cond.instanceMethod yX0_stateOf, Cond.selects RX0 yX0_stateOf yX0_stateOf, Cond.code yX0_stateOf cX0_stateOf 2 (some .int), Cond.fieldLink RX0 26 "ApologyLedger" "states" "[I", Cond.methodLink RX0 77 yX0_worthOf, Cond.instanceMethod yX0_worthOf, Cond.selects RX0 yX0_worthOf yX0_worthOf, Cond.code yX0_worthOf cX0_worthOf 3 (some .int), Cond.methodLink RX0 168 yX0_witnessesFor, Cond.instanceMethod yX0_witnessesFor, Cond.selects RX0 yX0_witnessesFor yX0_witnessesFor, Cond.code yX0_witnessesFor cX0_witnessesFor 4 (some .int), Cond.fieldLink RX0 39 "ApologyLedger" "personCount" "I", Cond.fieldLink RX0 13 "ApologyLedger" "present" "[Z", Cond.fieldLink RX0 17 "ApologyLedger" "offenders" "[I", Cond.fieldLink RX0 20 "ApologyLedger" "offendedOnes" "[I", Cond.methodLink RX0 81 yX0_leastWorthHeard, Cond.instanceMethod yX0_leastWorthHeard, Cond.selects RX0 yX0_leastWorthHeard yX0_leastWorthHeard]
def wsL_apologize_r3 : List Cond := [Cond.code yX0_leastWorthHeard cX0_leastWorthHeard 2 (some .int), Cond.methodLink RX0 121 Lib.Math.max.name, Cond.static Lib.Math.max.name, Cond.initialized "java/lang/Math", Cond.code Lib.Math.max.name Lib.Math.max.code 2 (some .int), Cond.methodLink RX0 171 yX0_offendedOf, Cond.instanceMethod yX0_offendedOf, Cond.selects RX0 yX0_offendedOf yX0_offendedOf, Cond.code yX0_offendedOf cX0_offendedOf 2 (some .int), Cond.methodLink RX0 174 yX0_prideOf, Cond.instanceMethod yX0_prideOf, Cond.selects RX0 yX0_prideOf yX0_prideOf, Cond.code yX0_prideOf cX0_prideOf 2 (some .int), Cond.fieldLink RX0 9 "ApologyLedger" "prides" "[I", Cond.methodLink RX0 50 yX0_requirePerson, Cond.instanceMethod yX0_requirePerson, Cond.selects RX0 yX0_requirePerson yX0_requirePerson, Cond.code yX0_requirePerson cX0_requirePerson 2 none, Cond.methodLink RX0 177 yX0_weightOf, Cond.instanceMethod yX0_weightOf, Cond.selects RX0 yX0_weightOf yX0_weightOf, Cond.code yX0_weightOf cX0_weightOf 2 (some .int), Cond.methodLink RX0 71 yX0_speakOf, Cond.instanceMethod yX0_speakOf]
def wsL_apologize_r4 : List Cond := [Cond.selects RX0 yX0_speakOf yX0_speakOf, Cond.code yX0_speakOf cX0_speakOf 2 none, Cond.methodLink RX0 98 Lib.Math.min.name, Cond.static Lib.Math.min.name, Cond.code Lib.Math.min.name Lib.Math.min.code 2 (some .int), Cond.fieldLink RX0 32 "ApologyLedger" "daysQuiet" "[I", Cond.methodLink RX0 88 yX0_lighten, Cond.instanceMethod yX0_lighten, Cond.selects RX0 yX0_lighten yX0_lighten, Cond.code yX0_lighten cX0_lighten 5 none, Cond.methodLink RX0 161 yX0_close, Cond.instanceMethod yX0_close, Cond.selects RX0 yX0_close yX0_close, Cond.code yX0_close cX0_close 3 none]
def wsL_apologize : List Cond := .codeWith yL_apologize cL_apologize 5 (some .int) [(0, 10, 13, 21), (0, 10, 17, 13), (0, 10, 21, 15)] :: ((wsL_apologize_r1 ++ (wsL_apologize_r2 ++ (wsL_apologize_r3 ++ wsL_apologize_r4))) ++ wsX00 ++ (vx_atS RX0 147 "java/lang/IndexOutOfBoundsException" ["java/lang/RuntimeException", "java/lang/Exception"]).filter goodWord ++ (vx_atS RX0 57 "java/lang/IllegalArgumentException" ["java/lang/RuntimeException", "java/lang/Exception"]).filter goodWord ++ (vx_atS RX0 47 "java/lang/IllegalStateException" ["java/lang/RuntimeException", "java/lang/Exception"]).filter goodWord)
def wsL_setOff_r1 : List Cond := [Cond.classLink RL 21 "java/lang/IndexOutOfBoundsException", Cond.classLink RL 15 "java/lang/IllegalStateException", Cond.methodLink RL 34 yX0_setOff, Cond.instanceMethod yX0_setOff, Cond.selects RX0 yX0_setOff yX0_setOff, Cond.initialized RX0, Cond.code yX0_setOff cX0_setOff 4 (some .int), Cond.classLink RX0 43 "java/lang/IllegalStateException", Cond.initialized "java/lang/IllegalStateException", Cond.fieldLink RX0 23 "ApologyLedger" "weights" "[I", Cond.methodLink RX0 98 Lib.Math.min.name, Cond.static Lib.Math.min.name, Cond.initialized "java/lang/Math", Cond.code Lib.Math.min.name Lib.Math.min.code 2 (some .int), Cond.methodLink RX0 65 yX0_requireSlight, Cond.instanceMethod yX0_requireSlight, Cond.selects RX0 yX0_requireSlight yX0_requireSlight, Cond.code yX0_requireSlight cX0_requireSlight 2 none, Cond.classLink RX0 143 "java/lang/IndexOutOfBoundsException", Cond.initialized "java/lang/IndexOutOfBoundsException", Cond.fieldLink RX0 60 "ApologyLedger" "slightCount" "I", Cond.methodLink RX0 68 yX0_requireOpen, Cond.instanceMethod yX0_requireOpen, Cond.selects RX0 yX0_requireOpen yX0_requireOpen]
def wsL_setOff_r2 : List Cond := [Cond.code yX0_requireOpen cX0_requireOpen 2 none, Cond.methodLink RX0 150 yX0_stateOf, Cond.instanceMethod yX0_stateOf, Cond.selects RX0 yX0_stateOf yX0_stateOf, Cond.code yX0_stateOf cX0_stateOf 2 (some .int), Cond.fieldLink RX0 26 "ApologyLedger" "states" "[I", Cond.methodLink RX0 92 yX0_areAgainstEachOther, Cond.instanceMethod yX0_areAgainstEachOther, Cond.selects RX0 yX0_areAgainstEachOther yX0_areAgainstEachOther, Cond.code yX0_areAgainstEachOther cX0_areAgainstEachOther 3 (some .boolean), Cond.methodLink RX0 180 yX0_offenderOf, Cond.instanceMethod yX0_offenderOf, Cond.selects RX0 yX0_offenderOf yX0_offenderOf, Cond.code yX0_offenderOf cX0_offenderOf 2 (some .int), Cond.fieldLink RX0 17 "ApologyLedger" "offenders" "[I", Cond.methodLink RX0 171 yX0_offendedOf, Cond.instanceMethod yX0_offendedOf, Cond.selects RX0 yX0_offendedOf yX0_offendedOf, Cond.code yX0_offendedOf cX0_offendedOf 2 (some .int), Cond.fieldLink RX0 20 "ApologyLedger" "offendedOnes" "[I", Cond.methodLink RX0 88 yX0_lighten, Cond.instanceMethod yX0_lighten, Cond.selects RX0 yX0_lighten yX0_lighten, Cond.code yX0_lighten cX0_lighten 5 none]
def wsL_setOff_r3 : List Cond := [Cond.methodLink RX0 161 yX0_close, Cond.instanceMethod yX0_close, Cond.selects RX0 yX0_close yX0_close, Cond.code yX0_close cX0_close 3 none]
def wsL_setOff : List Cond := .codeWith yL_setOff cL_setOff 5 (some .int) [(0, 10, 13, 21), (0, 10, 17, 15)] :: ((wsL_setOff_r1 ++ (wsL_setOff_r2 ++ wsL_setOff_r3)) ++ wsX00 ++ (vx_atS RX0 47 "java/lang/IllegalStateException" ["java/lang/RuntimeException", "java/lang/Exception"]).filter goodWord ++ (vx_atS RX0 147 "java/lang/IndexOutOfBoundsException" ["java/lang/RuntimeException", "java/lang/Exception"]).filter goodWord)
def wsL_setPride : List Cond := .codeWith yL_setPride cL_setPride 5 (some .int) [(0, 10, 13, 21), (0, 10, 17, 13)] :: ([.classLink RL 21 "java/lang/IndexOutOfBoundsException", .classLink RL 13 "java/lang/IllegalArgumentException", .methodLink RL 37 yX0_setPride, .instanceMethod yX0_setPride, .selects RX0 yX0_setPride yX0_setPride, .initialized RX0, .code yX0_setPride cX0_setPride 4 (some .int), .fieldLink RX0 9 "ApologyLedger" "prides" "[I", .methodLink RX0 50 yX0_requirePerson, .instanceMethod yX0_requirePerson, .selects RX0 yX0_requirePerson yX0_requirePerson, .code yX0_requirePerson cX0_requirePerson 2 none, .classLink RX0 143 "java/lang/IndexOutOfBoundsException", .initialized "java/lang/IndexOutOfBoundsException", .fieldLink RX0 39 "ApologyLedger" "personCount" "I", .methodLink RX0 35 yX0_requirePride, .static yX0_requirePride, .code yX0_requirePride cX0_requirePride 1 none, .classLink RX0 53 "java/lang/IllegalArgumentException", .initialized "java/lang/IllegalArgumentException"] ++ wsX00 ++ (vx_atS RX0 147 "java/lang/IndexOutOfBoundsException" ["java/lang/RuntimeException", "java/lang/Exception"]).filter goodWord ++ (vx_atS RX0 57 "java/lang/IllegalArgumentException" ["java/lang/RuntimeException", "java/lang/Exception"]).filter goodWord)
def wsL_pass_r1 : List Cond := [Cond.classLink RL 13 "java/lang/IllegalArgumentException", Cond.methodLink RL 40 yX0_pass, Cond.instanceMethod yX0_pass, Cond.selects RX0 yX0_pass yX0_pass, Cond.initialized RX0, Cond.code yX0_pass cX0_pass 4 (some .int), Cond.methodLink RX0 103 yX0_requireDays, Cond.static yX0_requireDays, Cond.code yX0_requireDays cX0_requireDays 1 none, Cond.classLink RX0 53 "java/lang/IllegalArgumentException", Cond.initialized "java/lang/IllegalArgumentException", Cond.methodLink RX0 106 yX0_passOneDay, Cond.instanceMethod yX0_passOneDay, Cond.selects RX0 yX0_passOneDay yX0_passOneDay, Cond.code yX0_passOneDay cX0_passOneDay 3 (some .int), Cond.fieldLink RX0 60 "ApologyLedger" "slightCount" "I", Cond.fieldLink RX0 26 "ApologyLedger" "states" "[I", Cond.fieldLink RX0 110 "ApologyLedger" "today" "I", Cond.methodLink RX0 165 yX0_bearOneDay, Cond.instanceMethod yX0_bearOneDay, Cond.selects RX0 yX0_bearOneDay yX0_bearOneDay, Cond.code yX0_bearOneDay cX0_bearOneDay 2 none, Cond.fieldLink RX0 29 "ApologyLedger" "daysBorne" "[I", Cond.fieldLink RX0 32 "ApologyLedger" "daysQuiet" "[I"]
def wsL_pass_r2 : List Cond := [Cond.fieldLink RX0 23 "ApologyLedger" "weights" "[I", Cond.methodLink RX0 65 yX0_requireSlight, Cond.instanceMethod yX0_requireSlight, Cond.selects RX0 yX0_requireSlight yX0_requireSlight, Cond.code yX0_requireSlight cX0_requireSlight 2 none, Cond.classLink RX0 143 "java/lang/IndexOutOfBoundsException", Cond.initialized "java/lang/IndexOutOfBoundsException", Cond.methodLink RX0 124 yX0_weightWhenBorne, Cond.static yX0_weightWhenBorne, Cond.code yX0_weightWhenBorne cX0_weightWhenBorne 2 (some .int), Cond.methodLink RX0 121 Lib.Math.max.name, Cond.static Lib.Math.max.name, Cond.initialized "java/lang/Math", Cond.code Lib.Math.max.name Lib.Math.max.code 2 (some .int), Cond.methodLink RX0 98 Lib.Math.min.name, Cond.static Lib.Math.min.name, Cond.code Lib.Math.min.name Lib.Math.min.code 2 (some .int), Cond.methodLink RX0 161 yX0_close, Cond.instanceMethod yX0_close, Cond.selects RX0 yX0_close yX0_close, Cond.code yX0_close cX0_close 3 none]
def wsL_pass : List Cond := .codeWith yL_pass cL_pass 4 (some .int) [(0, 9, 12, 13)] :: ((wsL_pass_r1 ++ wsL_pass_r2) ++ wsX00 ++ (vx_atS RX0 57 "java/lang/IllegalArgumentException" ["java/lang/RuntimeException", "java/lang/Exception"]).filter goodWord ++ (vx_atS RX0 147 "java/lang/IndexOutOfBoundsException" ["java/lang/RuntimeException", "java/lang/Exception"]).filter goodWord)
def wsL_isInHall : List Cond := .codeWith yL_isInHall cL_isInHall 4 (some .int) [(0, 16, 19, 21)] :: ([.classLink RL 21 "java/lang/IndexOutOfBoundsException", .methodLink RL 43 yX0_isInHall, .instanceMethod yX0_isInHall, .selects RX0 yX0_isInHall yX0_isInHall, .initialized RX0, .code yX0_isInHall cX0_isInHall 2 (some .boolean), .fieldLink RX0 13 "ApologyLedger" "present" "[Z", .methodLink RX0 50 yX0_requirePerson, .instanceMethod yX0_requirePerson, .selects RX0 yX0_requirePerson yX0_requirePerson, .code yX0_requirePerson cX0_requirePerson 2 none, .classLink RX0 143 "java/lang/IndexOutOfBoundsException", .initialized "java/lang/IndexOutOfBoundsException", .fieldLink RX0 39 "ApologyLedger" "personCount" "I"] ++ wsX00 ++ (vx_atS RX0 147 "java/lang/IndexOutOfBoundsException" ["java/lang/RuntimeException", "java/lang/Exception"]).filter goodWord)
def wsL_prideOf : List Cond := .codeWith yL_prideOf cL_prideOf 4 (some .int) [(0, 9, 12, 21)] :: ([.classLink RL 21 "java/lang/IndexOutOfBoundsException", .methodLink RL 46 yX0_prideOf, .instanceMethod yX0_prideOf, .selects RX0 yX0_prideOf yX0_prideOf, .initialized RX0, .code yX0_prideOf cX0_prideOf 2 (some .int), .fieldLink RX0 9 "ApologyLedger" "prides" "[I", .methodLink RX0 50 yX0_requirePerson, .instanceMethod yX0_requirePerson, .selects RX0 yX0_requirePerson yX0_requirePerson, .code yX0_requirePerson cX0_requirePerson 2 none, .classLink RX0 143 "java/lang/IndexOutOfBoundsException", .initialized "java/lang/IndexOutOfBoundsException", .fieldLink RX0 39 "ApologyLedger" "personCount" "I"] ++ wsX00 ++ (vx_atS RX0 147 "java/lang/IndexOutOfBoundsException" ["java/lang/RuntimeException", "java/lang/Exception"]).filter goodWord)
def wsL_borneBy : List Cond := .codeWith yL_borneBy cL_borneBy 4 (some .int) [(0, 9, 12, 21)] :: ([.classLink RL 21 "java/lang/IndexOutOfBoundsException", .methodLink RL 49 yX0_borneBy, .instanceMethod yX0_borneBy, .selects RX0 yX0_borneBy yX0_borneBy, .initialized RX0, .code yX0_borneBy cX0_borneBy 4 (some .int), .fieldLink RX0 60 "ApologyLedger" "slightCount" "I", .fieldLink RX0 26 "ApologyLedger" "states" "[I", .fieldLink RX0 20 "ApologyLedger" "offendedOnes" "[I", .fieldLink RX0 23 "ApologyLedger" "weights" "[I", .methodLink RX0 50 yX0_requirePerson, .instanceMethod yX0_requirePerson, .selects RX0 yX0_requirePerson yX0_requirePerson, .code yX0_requirePerson cX0_requirePerson 2 none, .classLink RX0 143 "java/lang/IndexOutOfBoundsException", .initialized "java/lang/IndexOutOfBoundsException", .fieldLink RX0 39 "ApologyLedger" "personCount" "I"] ++ wsX00 ++ (vx_atS RX0 147 "java/lang/IndexOutOfBoundsException" ["java/lang/RuntimeException", "java/lang/Exception"]).filter goodWord)
def wsL_owedBy : List Cond := .codeWith yL_owedBy cL_owedBy 4 (some .int) [(0, 9, 12, 21)] :: ([.classLink RL 21 "java/lang/IndexOutOfBoundsException", .methodLink RL 52 yX0_owedBy, .instanceMethod yX0_owedBy, .selects RX0 yX0_owedBy yX0_owedBy, .initialized RX0, .code yX0_owedBy cX0_owedBy 4 (some .int), .fieldLink RX0 60 "ApologyLedger" "slightCount" "I", .fieldLink RX0 26 "ApologyLedger" "states" "[I", .fieldLink RX0 17 "ApologyLedger" "offenders" "[I", .fieldLink RX0 23 "ApologyLedger" "weights" "[I", .methodLink RX0 50 yX0_requirePerson, .instanceMethod yX0_requirePerson, .selects RX0 yX0_requirePerson yX0_requirePerson, .code yX0_requirePerson cX0_requirePerson 2 none, .classLink RX0 143 "java/lang/IndexOutOfBoundsException", .initialized "java/lang/IndexOutOfBoundsException", .fieldLink RX0 39 "ApologyLedger" "personCount" "I"] ++ wsX00 ++ (vx_atS RX0 147 "java/lang/IndexOutOfBoundsException" ["java/lang/RuntimeException", "java/lang/Exception"]).filter goodWord)
def wsL_balance : List Cond := .codeWith yL_balance cL_balance 5 (some .int) [(0, 10, 13, 21)] :: ([.classLink RL 21 "java/lang/IndexOutOfBoundsException", .methodLink RL 55 yX0_balance, .instanceMethod yX0_balance, .selects RX0 yX0_balance yX0_balance, .initialized RX0, .code yX0_balance cX0_balance 3 (some .int), .methodLink RX0 50 yX0_requirePerson, .instanceMethod yX0_requirePerson, .selects RX0 yX0_requirePerson yX0_requirePerson, .code yX0_requirePerson cX0_requirePerson 2 none, .classLink RX0 143 "java/lang/IndexOutOfBoundsException", .initialized "java/lang/IndexOutOfBoundsException", .fieldLink RX0 39 "ApologyLedger" "personCount" "I", .methodLink RX0 113 yX0_weightBetween, .instanceMethod yX0_weightBetween, .selects RX0 yX0_weightBetween yX0_weightBetween, .code yX0_weightBetween cX0_weightBetween 5 (some .int), .fieldLink RX0 60 "ApologyLedger" "slightCount" "I", .fieldLink RX0 26 "ApologyLedger" "states" "[I", .fieldLink RX0 17 "ApologyLedger" "offenders" "[I", .fieldLink RX0 20 "ApologyLedger" "offendedOnes" "[I", .fieldLink RX0 23 "ApologyLedger" "weights" "[I"] ++ wsX00 ++ (vx_atS RX0 147 "java/lang/IndexOutOfBoundsException" ["java/lang/RuntimeException", "java/lang/Exception"]).filter goodWord)
def wsL_offenderOf : List Cond := .codeWith yL_offenderOf cL_offenderOf 4 (some .int) [(0, 9, 12, 21)] :: ([.classLink RL 21 "java/lang/IndexOutOfBoundsException", .methodLink RL 58 yX0_offenderOf, .instanceMethod yX0_offenderOf, .selects RX0 yX0_offenderOf yX0_offenderOf, .initialized RX0, .code yX0_offenderOf cX0_offenderOf 2 (some .int), .fieldLink RX0 17 "ApologyLedger" "offenders" "[I", .methodLink RX0 65 yX0_requireSlight, .instanceMethod yX0_requireSlight, .selects RX0 yX0_requireSlight yX0_requireSlight, .code yX0_requireSlight cX0_requireSlight 2 none, .classLink RX0 143 "java/lang/IndexOutOfBoundsException", .initialized "java/lang/IndexOutOfBoundsException", .fieldLink RX0 60 "ApologyLedger" "slightCount" "I"] ++ wsX00 ++ (vx_atS RX0 147 "java/lang/IndexOutOfBoundsException" ["java/lang/RuntimeException", "java/lang/Exception"]).filter goodWord)
def wsL_offendedOf : List Cond := .codeWith yL_offendedOf cL_offendedOf 4 (some .int) [(0, 9, 12, 21)] :: ([.classLink RL 21 "java/lang/IndexOutOfBoundsException", .methodLink RL 61 yX0_offendedOf, .instanceMethod yX0_offendedOf, .selects RX0 yX0_offendedOf yX0_offendedOf, .initialized RX0, .code yX0_offendedOf cX0_offendedOf 2 (some .int), .fieldLink RX0 20 "ApologyLedger" "offendedOnes" "[I", .methodLink RX0 65 yX0_requireSlight, .instanceMethod yX0_requireSlight, .selects RX0 yX0_requireSlight yX0_requireSlight, .code yX0_requireSlight cX0_requireSlight 2 none, .classLink RX0 143 "java/lang/IndexOutOfBoundsException", .initialized "java/lang/IndexOutOfBoundsException", .fieldLink RX0 60 "ApologyLedger" "slightCount" "I"] ++ wsX00 ++ (vx_atS RX0 147 "java/lang/IndexOutOfBoundsException" ["java/lang/RuntimeException", "java/lang/Exception"]).filter goodWord)
def wsL_weightOf : List Cond := .codeWith yL_weightOf cL_weightOf 4 (some .int) [(0, 9, 12, 21)] :: ([.classLink RL 21 "java/lang/IndexOutOfBoundsException", .methodLink RL 64 yX0_weightOf, .instanceMethod yX0_weightOf, .selects RX0 yX0_weightOf yX0_weightOf, .initialized RX0, .code yX0_weightOf cX0_weightOf 2 (some .int), .fieldLink RX0 23 "ApologyLedger" "weights" "[I", .methodLink RX0 65 yX0_requireSlight, .instanceMethod yX0_requireSlight, .selects RX0 yX0_requireSlight yX0_requireSlight, .code yX0_requireSlight cX0_requireSlight 2 none, .classLink RX0 143 "java/lang/IndexOutOfBoundsException", .initialized "java/lang/IndexOutOfBoundsException", .fieldLink RX0 60 "ApologyLedger" "slightCount" "I"] ++ wsX00 ++ (vx_atS RX0 147 "java/lang/IndexOutOfBoundsException" ["java/lang/RuntimeException", "java/lang/Exception"]).filter goodWord)
def wsL_stateOf : List Cond := .codeWith yL_stateOf cL_stateOf 4 (some .int) [(0, 9, 12, 21)] :: ([.classLink RL 21 "java/lang/IndexOutOfBoundsException", .methodLink RL 67 yX0_stateOf, .instanceMethod yX0_stateOf, .selects RX0 yX0_stateOf yX0_stateOf, .initialized RX0, .code yX0_stateOf cX0_stateOf 2 (some .int), .fieldLink RX0 26 "ApologyLedger" "states" "[I", .methodLink RX0 65 yX0_requireSlight, .instanceMethod yX0_requireSlight, .selects RX0 yX0_requireSlight yX0_requireSlight, .code yX0_requireSlight cX0_requireSlight 2 none, .classLink RX0 143 "java/lang/IndexOutOfBoundsException", .initialized "java/lang/IndexOutOfBoundsException", .fieldLink RX0 60 "ApologyLedger" "slightCount" "I"] ++ wsX00 ++ (vx_atS RX0 147 "java/lang/IndexOutOfBoundsException" ["java/lang/RuntimeException", "java/lang/Exception"]).filter goodWord)
def wsL_borneFor : List Cond := .codeWith yL_borneFor cL_borneFor 4 (some .int) [(0, 9, 12, 21)] :: ([.classLink RL 21 "java/lang/IndexOutOfBoundsException", .methodLink RL 70 yX0_borneFor, .instanceMethod yX0_borneFor, .selects RX0 yX0_borneFor yX0_borneFor, .initialized RX0, .code yX0_borneFor cX0_borneFor 2 (some .int), .fieldLink RX0 29 "ApologyLedger" "daysBorne" "[I", .methodLink RX0 65 yX0_requireSlight, .instanceMethod yX0_requireSlight, .selects RX0 yX0_requireSlight yX0_requireSlight, .code yX0_requireSlight cX0_requireSlight 2 none, .classLink RX0 143 "java/lang/IndexOutOfBoundsException", .initialized "java/lang/IndexOutOfBoundsException", .fieldLink RX0 60 "ApologyLedger" "slightCount" "I"] ++ wsX00 ++ (vx_atS RX0 147 "java/lang/IndexOutOfBoundsException" ["java/lang/RuntimeException", "java/lang/Exception"]).filter goodWord)
def wsL_quietFor : List Cond := .codeWith yL_quietFor cL_quietFor 4 (some .int) [(0, 9, 12, 21)] :: ([.classLink RL 21 "java/lang/IndexOutOfBoundsException", .methodLink RL 73 yX0_quietFor, .instanceMethod yX0_quietFor, .selects RX0 yX0_quietFor yX0_quietFor, .initialized RX0, .code yX0_quietFor cX0_quietFor 2 (some .int), .fieldLink RX0 32 "ApologyLedger" "daysQuiet" "[I", .methodLink RX0 65 yX0_requireSlight, .instanceMethod yX0_requireSlight, .selects RX0 yX0_requireSlight yX0_requireSlight, .code yX0_requireSlight cX0_requireSlight 2 none, .classLink RX0 143 "java/lang/IndexOutOfBoundsException", .initialized "java/lang/IndexOutOfBoundsException", .fieldLink RX0 60 "ApologyLedger" "slightCount" "I"] ++ wsX00 ++ (vx_atS RX0 147 "java/lang/IndexOutOfBoundsException" ["java/lang/RuntimeException", "java/lang/Exception"]).filter goodWord)
def wsL_witnessesFor : List Cond := .codeWith yL_witnessesFor cL_witnessesFor 4 (some .int) [(0, 9, 12, 21)] :: ([.classLink RL 21 "java/lang/IndexOutOfBoundsException", .methodLink RL 76 yX0_witnessesFor, .instanceMethod yX0_witnessesFor, .selects RX0 yX0_witnessesFor yX0_witnessesFor, .initialized RX0, .code yX0_witnessesFor cX0_witnessesFor 4 (some .int), .fieldLink RX0 39 "ApologyLedger" "personCount" "I", .fieldLink RX0 13 "ApologyLedger" "present" "[Z", .fieldLink RX0 17 "ApologyLedger" "offenders" "[I", .fieldLink RX0 20 "ApologyLedger" "offendedOnes" "[I", .methodLink RX0 65 yX0_requireSlight, .instanceMethod yX0_requireSlight, .selects RX0 yX0_requireSlight yX0_requireSlight, .code yX0_requireSlight cX0_requireSlight 2 none, .classLink RX0 143 "java/lang/IndexOutOfBoundsException", .initialized "java/lang/IndexOutOfBoundsException", .fieldLink RX0 60 "ApologyLedger" "slightCount" "I"] ++ wsX00 ++ (vx_atS RX0 147 "java/lang/IndexOutOfBoundsException" ["java/lang/RuntimeException", "java/lang/Exception"]).filter goodWord)
def wsL_inState : List Cond := .codeWith yL_inState cL_inState 4 (some .int) [(0, 9, 12, 13)] :: ([.classLink RL 13 "java/lang/IllegalArgumentException", .methodLink RL 79 yX0_inState, .instanceMethod yX0_inState, .selects RX0 yX0_inState yX0_inState, .initialized RX0, .code yX0_inState cX0_inState 4 (some .int), .classLink RX0 53 "java/lang/IllegalArgumentException", .initialized "java/lang/IllegalArgumentException", .fieldLink RX0 60 "ApologyLedger" "slightCount" "I", .fieldLink RX0 26 "ApologyLedger" "states" "[I"] ++ wsX00 ++ (vx_atS RX0 57 "java/lang/IllegalArgumentException" ["java/lang/RuntimeException", "java/lang/Exception"]).filter goodWord)
def wsL_wordsWanted_r1 : List Cond := [Cond.classLink RL 21 "java/lang/IndexOutOfBoundsException", Cond.methodLink RL 82 yX0_wordsWanted, Cond.instanceMethod yX0_wordsWanted, Cond.selects RX0 yX0_wordsWanted yX0_wordsWanted, Cond.initialized RX0, Cond.code yX0_wordsWanted cX0_wordsWanted 4 (some .int), Cond.fieldLink RX0 26 "ApologyLedger" "states" "[I", Cond.fieldLink RX0 23 "ApologyLedger" "weights" "[I", Cond.methodLink RX0 121 Lib.Math.max.name, Cond.static Lib.Math.max.name, Cond.initialized "java/lang/Math", Cond.code Lib.Math.max.name Lib.Math.max.code 2 (some .int), Cond.methodLink RX0 65 yX0_requireSlight, Cond.instanceMethod yX0_requireSlight, Cond.selects RX0 yX0_requireSlight yX0_requireSlight, Cond.code yX0_requireSlight cX0_requireSlight 2 none, Cond.classLink RX0 143 "java/lang/IndexOutOfBoundsException", Cond.initialized "java/lang/IndexOutOfBoundsException", Cond.fieldLink RX0 60 "ApologyLedger" "slightCount" "I", Cond.methodLink RX0 81 yX0_leastWorthHeard, Cond.instanceMethod yX0_leastWorthHeard, Cond.selects RX0 yX0_leastWorthHeard yX0_leastWorthHeard, Cond.code yX0_leastWorthHeard cX0_leastWorthHeard 2 (some .int), Cond.methodLink RX0 171 yX0_offendedOf]
def wsL_wordsWanted_r2 : List Cond := [Cond.instanceMethod yX0_offendedOf, Cond.selects RX0 yX0_offendedOf yX0_offendedOf, Cond.code yX0_offendedOf cX0_offendedOf 2 (some .int), Cond.fieldLink RX0 20 "ApologyLedger" "offendedOnes" "[I", Cond.methodLink RX0 174 yX0_prideOf, Cond.instanceMethod yX0_prideOf, Cond.selects RX0 yX0_prideOf yX0_prideOf, Cond.code yX0_prideOf cX0_prideOf 2 (some .int), Cond.fieldLink RX0 9 "ApologyLedger" "prides" "[I", Cond.methodLink RX0 50 yX0_requirePerson, Cond.instanceMethod yX0_requirePerson, Cond.selects RX0 yX0_requirePerson yX0_requirePerson, Cond.code yX0_requirePerson cX0_requirePerson 2 none, Cond.fieldLink RX0 39 "ApologyLedger" "personCount" "I", Cond.methodLink RX0 177 yX0_weightOf, Cond.instanceMethod yX0_weightOf, Cond.selects RX0 yX0_weightOf yX0_weightOf, Cond.code yX0_weightOf cX0_weightOf 2 (some .int), Cond.methodLink RX0 77 yX0_worthOf, Cond.instanceMethod yX0_worthOf, Cond.selects RX0 yX0_worthOf yX0_worthOf, Cond.code yX0_worthOf cX0_worthOf 3 (some .int), Cond.methodLink RX0 168 yX0_witnessesFor, Cond.instanceMethod yX0_witnessesFor]
def wsL_wordsWanted_r3 : List Cond := [Cond.selects RX0 yX0_witnessesFor yX0_witnessesFor, Cond.code yX0_witnessesFor cX0_witnessesFor 4 (some .int), Cond.fieldLink RX0 13 "ApologyLedger" "present" "[Z", Cond.fieldLink RX0 17 "ApologyLedger" "offenders" "[I"]
def wsL_wordsWanted : List Cond := .codeWith yL_wordsWanted cL_wordsWanted 4 (some .int) [(0, 9, 12, 21)] :: ((wsL_wordsWanted_r1 ++ (wsL_wordsWanted_r2 ++ wsL_wordsWanted_r3)) ++ wsX00 ++ (vx_atS RX0 147 "java/lang/IndexOutOfBoundsException" ["java/lang/RuntimeException", "java/lang/Exception"]).filter goodWord)
def wsL_wouldBeScorned_r1 : List Cond := [Cond.classLink RL 21 "java/lang/IndexOutOfBoundsException", Cond.classLink RL 13 "java/lang/IllegalArgumentException", Cond.methodLink RL 85 yX0_wouldBeScorned, Cond.instanceMethod yX0_wouldBeScorned, Cond.selects RX0 yX0_wouldBeScorned yX0_wouldBeScorned, Cond.initialized RX0, Cond.code yX0_wouldBeScorned cX0_wouldBeScorned 3 (some .boolean), Cond.fieldLink RX0 26 "ApologyLedger" "states" "[I", Cond.methodLink RX0 65 yX0_requireSlight, Cond.instanceMethod yX0_requireSlight, Cond.selects RX0 yX0_requireSlight yX0_requireSlight, Cond.code yX0_requireSlight cX0_requireSlight 2 none, Cond.classLink RX0 143 "java/lang/IndexOutOfBoundsException", Cond.initialized "java/lang/IndexOutOfBoundsException", Cond.fieldLink RX0 60 "ApologyLedger" "slightCount" "I", Cond.methodLink RX0 74 yX0_requireWords, Cond.static yX0_requireWords, Cond.code yX0_requireWords cX0_requireWords 1 none, Cond.classLink RX0 53 "java/lang/IllegalArgumentException", Cond.initialized "java/lang/IllegalArgumentException", Cond.methodLink RX0 77 yX0_worthOf, Cond.instanceMethod yX0_worthOf, Cond.selects RX0 yX0_worthOf yX0_worthOf, Cond.code yX0_worthOf cX0_worthOf 3 (some .int)]
def wsL_wouldBeScorned_r2 : List Cond := [Cond.methodLink RX0 168 yX0_witnessesFor, Cond.instanceMethod yX0_witnessesFor, Cond.selects RX0 yX0_witnessesFor yX0_witnessesFor, Cond.code yX0_witnessesFor cX0_witnessesFor 4 (some .int), Cond.fieldLink RX0 39 "ApologyLedger" "personCount" "I", Cond.fieldLink RX0 13 "ApologyLedger" "present" "[Z", Cond.fieldLink RX0 17 "ApologyLedger" "offenders" "[I", Cond.fieldLink RX0 20 "ApologyLedger" "offendedOnes" "[I", Cond.methodLink RX0 81 yX0_leastWorthHeard, Cond.instanceMethod yX0_leastWorthHeard, Cond.selects RX0 yX0_leastWorthHeard yX0_leastWorthHeard, Cond.code yX0_leastWorthHeard cX0_leastWorthHeard 2 (some .int), Cond.methodLink RX0 121 Lib.Math.max.name, Cond.static Lib.Math.max.name, Cond.initialized "java/lang/Math", Cond.code Lib.Math.max.name Lib.Math.max.code 2 (some .int), Cond.methodLink RX0 171 yX0_offendedOf, Cond.instanceMethod yX0_offendedOf, Cond.selects RX0 yX0_offendedOf yX0_offendedOf, Cond.code yX0_offendedOf cX0_offendedOf 2 (some .int), Cond.methodLink RX0 174 yX0_prideOf, Cond.instanceMethod yX0_prideOf, Cond.selects RX0 yX0_prideOf yX0_prideOf, Cond.code yX0_prideOf cX0_prideOf 2 (some .int)]
def wsL_wouldBeScorned_r3 : List Cond := [Cond.fieldLink RX0 9 "ApologyLedger" "prides" "[I", Cond.methodLink RX0 50 yX0_requirePerson, Cond.instanceMethod yX0_requirePerson, Cond.selects RX0 yX0_requirePerson yX0_requirePerson, Cond.code yX0_requirePerson cX0_requirePerson 2 none, Cond.methodLink RX0 177 yX0_weightOf, Cond.instanceMethod yX0_weightOf, Cond.selects RX0 yX0_weightOf yX0_weightOf, Cond.code yX0_weightOf cX0_weightOf 2 (some .int), Cond.fieldLink RX0 23 "ApologyLedger" "weights" "[I"]
def wsL_wouldBeScorned : List Cond := .codeWith yL_wouldBeScorned cL_wouldBeScorned 5 (some .int) [(0, 17, 20, 21), (0, 17, 24, 13)] :: ((wsL_wouldBeScorned_r1 ++ (wsL_wouldBeScorned_r2 ++ wsL_wouldBeScorned_r3)) ++ wsX00 ++ (vx_atS RX0 147 "java/lang/IndexOutOfBoundsException" ["java/lang/RuntimeException", "java/lang/Exception"]).filter goodWord ++ (vx_atS RX0 57 "java/lang/IllegalArgumentException" ["java/lang/RuntimeException", "java/lang/Exception"]).filter goodWord)
def wsL_weightIn_r1 : List Cond := [Cond.classLink RL 21 "java/lang/IndexOutOfBoundsException", Cond.classLink RL 13 "java/lang/IllegalArgumentException", Cond.methodLink RL 89 yX0_weightIn, Cond.instanceMethod yX0_weightIn, Cond.selects RX0 yX0_weightIn yX0_weightIn, Cond.initialized RX0, Cond.code yX0_weightIn cX0_weightIn 5 (some .int), Cond.fieldLink RX0 26 "ApologyLedger" "states" "[I", Cond.fieldLink RX0 32 "ApologyLedger" "daysQuiet" "[I", Cond.fieldLink RX0 23 "ApologyLedger" "weights" "[I", Cond.fieldLink RX0 29 "ApologyLedger" "daysBorne" "[I", Cond.methodLink RX0 65 yX0_requireSlight, Cond.instanceMethod yX0_requireSlight, Cond.selects RX0 yX0_requireSlight yX0_requireSlight, Cond.code yX0_requireSlight cX0_requireSlight 2 none, Cond.classLink RX0 143 "java/lang/IndexOutOfBoundsException", Cond.initialized "java/lang/IndexOutOfBoundsException", Cond.fieldLink RX0 60 "ApologyLedger" "slightCount" "I", Cond.methodLink RX0 103 yX0_requireDays, Cond.static yX0_requireDays, Cond.code yX0_requireDays cX0_requireDays 1 none, Cond.classLink RX0 53 "java/lang/IllegalArgumentException", Cond.initialized "java/lang/IllegalArgumentException", Cond.methodLink RX0 124 yX0_weightWhenBorne]
def wsL_weightIn_r2 : List Cond := [Cond.static yX0_weightWhenBorne, Cond.code yX0_weightWhenBorne cX0_weightWhenBorne 2 (some .int), Cond.methodLink RX0 121 Lib.Math.max.name, Cond.static Lib.Math.max.name, Cond.initialized "java/lang/Math", Cond.code Lib.Math.max.name Lib.Math.max.code 2 (some .int), Cond.methodLink RX0 98 Lib.Math.min.name, Cond.static Lib.Math.min.name, Cond.code Lib.Math.min.name Lib.Math.min.code 2 (some .int)]
def wsL_weightIn : List Cond := .codeWith yL_weightIn cL_weightIn 5 (some .int) [(0, 10, 13, 21), (0, 10, 17, 13)] :: ((wsL_weightIn_r1 ++ wsL_weightIn_r2) ++ wsX00 ++ (vx_atS RX0 147 "java/lang/IndexOutOfBoundsException" ["java/lang/RuntimeException", "java/lang/Exception"]).filter goodWord ++ (vx_atS RX0 57 "java/lang/IllegalArgumentException" ["java/lang/RuntimeException", "java/lang/Exception"]).filter goodWord)
def wsL_daysUntilForgotten : List Cond := .codeWith yL_daysUntilForgotten cL_daysUntilForgotten 4 (some .int) [(0, 9, 12, 21)] :: ([.classLink RL 21 "java/lang/IndexOutOfBoundsException", .methodLink RL 92 yX0_daysUntilForgotten, .instanceMethod yX0_daysUntilForgotten, .selects RX0 yX0_daysUntilForgotten yX0_daysUntilForgotten, .initialized RX0, .code yX0_daysUntilForgotten cX0_daysUntilForgotten 2 (some .int), .fieldLink RX0 26 "ApologyLedger" "states" "[I", .fieldLink RX0 32 "ApologyLedger" "daysQuiet" "[I", .methodLink RX0 65 yX0_requireSlight, .instanceMethod yX0_requireSlight, .selects RX0 yX0_requireSlight yX0_requireSlight, .code yX0_requireSlight cX0_requireSlight 2 none, .classLink RX0 143 "java/lang/IndexOutOfBoundsException", .initialized "java/lang/IndexOutOfBoundsException", .fieldLink RX0 60 "ApologyLedger" "slightCount" "I"] ++ wsX00 ++ (vx_atS RX0 147 "java/lang/IndexOutOfBoundsException" ["java/lang/RuntimeException", "java/lang/Exception"]).filter goodWord)
def wsL_borneIn_r1 : List Cond := [Cond.classLink RL 21 "java/lang/IndexOutOfBoundsException", Cond.classLink RL 13 "java/lang/IllegalArgumentException", Cond.methodLink RL 95 yX0_borneIn, Cond.instanceMethod yX0_borneIn, Cond.selects RX0 yX0_borneIn yX0_borneIn, Cond.initialized RX0, Cond.code yX0_borneIn cX0_borneIn 5 (some .int), Cond.fieldLink RX0 60 "ApologyLedger" "slightCount" "I", Cond.fieldLink RX0 20 "ApologyLedger" "offendedOnes" "[I", Cond.methodLink RX0 50 yX0_requirePerson, Cond.instanceMethod yX0_requirePerson, Cond.selects RX0 yX0_requirePerson yX0_requirePerson, Cond.code yX0_requirePerson cX0_requirePerson 2 none, Cond.classLink RX0 143 "java/lang/IndexOutOfBoundsException", Cond.initialized "java/lang/IndexOutOfBoundsException", Cond.fieldLink RX0 39 "ApologyLedger" "personCount" "I", Cond.methodLink RX0 103 yX0_requireDays, Cond.static yX0_requireDays, Cond.code yX0_requireDays cX0_requireDays 1 none, Cond.classLink RX0 53 "java/lang/IllegalArgumentException", Cond.initialized "java/lang/IllegalArgumentException", Cond.methodLink RX0 127 yX0_weightIn, Cond.instanceMethod yX0_weightIn, Cond.selects RX0 yX0_weightIn yX0_weightIn]
def wsL_borneIn_r2 : List Cond := [Cond.code yX0_weightIn cX0_weightIn 5 (some .int), Cond.fieldLink RX0 26 "ApologyLedger" "states" "[I", Cond.fieldLink RX0 32 "ApologyLedger" "daysQuiet" "[I", Cond.fieldLink RX0 23 "ApologyLedger" "weights" "[I", Cond.fieldLink RX0 29 "ApologyLedger" "daysBorne" "[I", Cond.methodLink RX0 65 yX0_requireSlight, Cond.instanceMethod yX0_requireSlight, Cond.selects RX0 yX0_requireSlight yX0_requireSlight, Cond.code yX0_requireSlight cX0_requireSlight 2 none, Cond.methodLink RX0 124 yX0_weightWhenBorne, Cond.static yX0_weightWhenBorne, Cond.code yX0_weightWhenBorne cX0_weightWhenBorne 2 (some .int), Cond.methodLink RX0 121 Lib.Math.max.name, Cond.static Lib.Math.max.name, Cond.initialized "java/lang/Math", Cond.code Lib.Math.max.name Lib.Math.max.code 2 (some .int), Cond.methodLink RX0 98 Lib.Math.min.name, Cond.static Lib.Math.min.name, Cond.code Lib.Math.min.name Lib.Math.min.code 2 (some .int)]
def wsL_borneIn : List Cond := .codeWith yL_borneIn cL_borneIn 5 (some .int) [(0, 10, 13, 21), (0, 10, 17, 13)] :: ((wsL_borneIn_r1 ++ wsL_borneIn_r2) ++ wsX00 ++ (vx_atS RX0 147 "java/lang/IndexOutOfBoundsException" ["java/lang/RuntimeException", "java/lang/Exception"]).filter goodWord ++ (vx_atS RX0 57 "java/lang/IllegalArgumentException" ["java/lang/RuntimeException", "java/lang/Exception"]).filter goodWord)
def wsL_worstToKeep_r1 : List Cond := [Cond.classLink RL 21 "java/lang/IndexOutOfBoundsException", Cond.methodLink RL 98 yX0_worstToKeep, Cond.instanceMethod yX0_worstToKeep, Cond.selects RX0 yX0_worstToKeep yX0_worstToKeep, Cond.initialized RX0, Cond.code yX0_worstToKeep cX0_worstToKeep 6 (some .int), Cond.fieldLink RX0 60 "ApologyLedger" "slightCount" "I", Cond.fieldLink RX0 26 "ApologyLedger" "states" "[I", Cond.fieldLink RX0 17 "ApologyLedger" "offenders" "[I", Cond.fieldLink RX0 23 "ApologyLedger" "weights" "[I", Cond.methodLink RX0 50 yX0_requirePerson, Cond.instanceMethod yX0_requirePerson, Cond.selects RX0 yX0_requirePerson yX0_requirePerson, Cond.code yX0_requirePerson cX0_requirePerson 2 none, Cond.classLink RX0 143 "java/lang/IndexOutOfBoundsException", Cond.initialized "java/lang/IndexOutOfBoundsException", Cond.fieldLink RX0 39 "ApologyLedger" "personCount" "I", Cond.methodLink RX0 127 yX0_weightIn, Cond.instanceMethod yX0_weightIn, Cond.selects RX0 yX0_weightIn yX0_weightIn, Cond.code yX0_weightIn cX0_weightIn 5 (some .int), Cond.fieldLink RX0 32 "ApologyLedger" "daysQuiet" "[I", Cond.fieldLink RX0 29 "ApologyLedger" "daysBorne" "[I", Cond.methodLink RX0 65 yX0_requireSlight]
def wsL_worstToKeep_r2 : List Cond := [Cond.instanceMethod yX0_requireSlight, Cond.selects RX0 yX0_requireSlight yX0_requireSlight, Cond.code yX0_requireSlight cX0_requireSlight 2 none, Cond.methodLink RX0 103 yX0_requireDays, Cond.static yX0_requireDays, Cond.code yX0_requireDays cX0_requireDays 1 none, Cond.classLink RX0 53 "java/lang/IllegalArgumentException", Cond.initialized "java/lang/IllegalArgumentException", Cond.methodLink RX0 124 yX0_weightWhenBorne, Cond.static yX0_weightWhenBorne, Cond.code yX0_weightWhenBorne cX0_weightWhenBorne 2 (some .int), Cond.methodLink RX0 121 Lib.Math.max.name, Cond.static Lib.Math.max.name, Cond.initialized "java/lang/Math", Cond.code Lib.Math.max.name Lib.Math.max.code 2 (some .int), Cond.methodLink RX0 98 Lib.Math.min.name, Cond.static Lib.Math.min.name, Cond.code Lib.Math.min.name Lib.Math.min.code 2 (some .int)]
def wsL_worstToKeep : List Cond := .codeWith yL_worstToKeep cL_worstToKeep 4 (some .int) [(0, 9, 12, 21)] :: ((wsL_worstToKeep_r1 ++ wsL_worstToKeep_r2) ++ wsX00 ++ (vx_atS RX0 147 "java/lang/IndexOutOfBoundsException" ["java/lang/RuntimeException", "java/lang/Exception"]).filter goodWord ++ (vx_atS RX0 57 "java/lang/IllegalArgumentException" ["java/lang/RuntimeException", "java/lang/Exception"]).filter goodWord)
def wsL_law0_r1 : List Cond := [Cond.classLink RL 8 RX0, Cond.instantiable RX0 12, Cond.initialized RX0, Cond.classLink RL 102 RX1, Cond.instantiable RX1 13, Cond.initialized RX1, Cond.arrayClass .long, Cond.methodLink RL 101 yX0_init, Cond.instanceMethod yX0_init, Cond.code yX0_init cX0_init 1 none, Cond.methodLink RX0 1 objectInit, Cond.instanceMethod objectInit, Cond.code objectInit ⟨#[0xb1]⟩ 1 none, Cond.arrayClass .int, Cond.fieldLink RX0 9 "ApologyLedger" "prides" "[I", Cond.arrayClass .boolean, Cond.fieldLink RX0 13 "ApologyLedger" "present" "[Z", Cond.fieldLink RX0 17 "ApologyLedger" "offenders" "[I", Cond.fieldLink RX0 20 "ApologyLedger" "offendedOnes" "[I", Cond.fieldLink RX0 23 "ApologyLedger" "weights" "[I", Cond.fieldLink RX0 26 "ApologyLedger" "states" "[I", Cond.fieldLink RX0 29 "ApologyLedger" "daysBorne" "[I", Cond.fieldLink RX0 32 "ApologyLedger" "daysQuiet" "[I", Cond.methodLink RL 104 yX1_init]
def wsL_law0_r2 : List Cond := [Cond.instanceMethod yX1_init, Cond.code yX1_init cX1_init 1 none, Cond.methodLink RX1 1 objectInit, Cond.fieldLink RX1 9 "ApologyLedgerModel" "pride" "[I", Cond.fieldLink RX1 13 "ApologyLedgerModel" "isHere" "[Z", Cond.fieldLink RX1 17 "ApologyLedgerModel" "by" "[I", Cond.fieldLink RX1 20 "ApologyLedgerModel" "against" "[I", Cond.fieldLink RX1 23 "ApologyLedgerModel" "weight" "[I", Cond.fieldLink RX1 26 "ApologyLedgerModel" "state" "[I", Cond.fieldLink RX1 29 "ApologyLedgerModel" "borne" "[I", Cond.fieldLink RX1 32 "ApologyLedgerModel" "quiet" "[I", Cond.methodLink RL 105 yL_addPerson, Cond.static yL_addPerson, Cond.initialized RL, Cond.codeWith yL_addPerson cL_addPerson 4 (some .int) [(0, 9, 12, 13), (0, 9, 15, 15)], Cond.classLink RL 13 "java/lang/IllegalArgumentException", Cond.classLink RL 15 "java/lang/IllegalStateException", Cond.methodLink RL 7 yX0_addPerson, Cond.instanceMethod yX0_addPerson, Cond.selects RX0 yX0_addPerson yX0_addPerson, Cond.code yX0_addPerson cX0_addPerson 3 (some .int), Cond.classLink RX0 43 "java/lang/IllegalStateException", Cond.initialized "java/lang/IllegalStateException", Cond.fieldLink RX0 39 "ApologyLedger" "personCount" "I"]
def wsL_law0_r3 : List Cond := [Cond.methodLink RX0 35 yX0_requirePride, Cond.static yX0_requirePride, Cond.code yX0_requirePride cX0_requirePride 1 none, Cond.classLink RX0 53 "java/lang/IllegalArgumentException", Cond.initialized "java/lang/IllegalArgumentException", Cond.methodLink RL 110 yX1_addPerson, Cond.instanceMethod yX1_addPerson, Cond.selects RX1 yX1_addPerson yX1_addPerson, Cond.code yX1_addPerson cX1_addPerson 2 (some .int), Cond.fieldLink RX1 35 "ApologyLedgerModel" "thrown" "I", Cond.fieldLink RX1 39 "ApologyLedgerModel" "persons" "I", Cond.methodLink RX1 42 yX1_isIn, Cond.static yX1_isIn, Cond.code yX1_isIn cX1_isIn 3 (some .boolean), Cond.methodLink RX1 69 yX1_no, Cond.instanceMethod yX1_no, Cond.selects RX1 yX1_no yX1_no, Cond.code yX1_no cX1_no 2 (some .int), Cond.methodLink RL 111 yX1_thrown, Cond.instanceMethod yX1_thrown, Cond.selects RX1 yX1_thrown yX1_thrown, Cond.code yX1_thrown cX1_thrown 1 (some .int), Cond.methodLink RL 115 yL_enter, Cond.static yL_enter]
def wsL_law0_r4 : List Cond := [Cond.codeWith yL_enter cL_enter 4 (some .int) [(0, 16, 19, 21)], Cond.classLink RL 21 "java/lang/IndexOutOfBoundsException", Cond.methodLink RL 17 yX0_enter, Cond.instanceMethod yX0_enter, Cond.selects RX0 yX0_enter yX0_enter, Cond.code yX0_enter cX0_enter 2 (some .boolean), Cond.methodLink RX0 50 yX0_requirePerson, Cond.instanceMethod yX0_requirePerson, Cond.selects RX0 yX0_requirePerson yX0_requirePerson, Cond.code yX0_requirePerson cX0_requirePerson 2 none, Cond.classLink RX0 143 "java/lang/IndexOutOfBoundsException", Cond.initialized "java/lang/IndexOutOfBoundsException", Cond.methodLink RL 117 yX1_enter, Cond.instanceMethod yX1_enter, Cond.selects RX1 yX1_enter yX1_enter, Cond.code yX1_enter cX1_enter 2 (some .boolean), Cond.methodLink RX1 72 yX1_isPerson, Cond.instanceMethod yX1_isPerson, Cond.selects RX1 yX1_isPerson yX1_isPerson, Cond.code yX1_isPerson cX1_isPerson 2 (some .boolean), Cond.methodLink RX1 75 yX1_isNot, Cond.instanceMethod yX1_isNot, Cond.selects RX1 yX1_isNot yX1_isNot, Cond.code yX1_isNot cX1_isNot 2 (some .boolean)]
def wsL_law0_r5 : List Cond := [Cond.methodLink RL 118 yL_slight, Cond.static yL_slight, Cond.codeWith yL_slight cL_slight 6 (some .int) [(0, 12, 15, 21), (0, 12, 19, 13), (0, 12, 23, 15)], Cond.methodLink RL 23 yX0_slight, Cond.instanceMethod yX0_slight, Cond.selects RX0 yX0_slight yX0_slight, Cond.code yX0_slight cX0_slight 5 (some .int), Cond.fieldLink RX0 60 "ApologyLedger" "slightCount" "I", Cond.methodLink RL 121 yX1_slight, Cond.instanceMethod yX1_slight, Cond.selects RX1 yX1_slight yX1_slight, Cond.code yX1_slight cX1_slight 4 (some .int), Cond.fieldLink RX1 46 "ApologyLedgerModel" "slights" "I", Cond.methodLink RL 122 yL_mention, Cond.static yL_mention, Cond.codeWith yL_mention cL_mention 4 (some .int) [(0, 9, 12, 21), (0, 9, 15, 15)], Cond.methodLink RL 27 yX0_mention, Cond.instanceMethod yX0_mention, Cond.selects RX0 yX0_mention yX0_mention, Cond.code yX0_mention cX0_mention 2 (some .int), Cond.methodLink RX0 65 yX0_requireSlight, Cond.instanceMethod yX0_requireSlight, Cond.selects RX0 yX0_requireSlight yX0_requireSlight, Cond.code yX0_requireSlight cX0_requireSlight 2 none]
def wsL_law0_r6 : List Cond := [Cond.methodLink RX0 68 yX0_requireOpen, Cond.instanceMethod yX0_requireOpen, Cond.selects RX0 yX0_requireOpen yX0_requireOpen, Cond.code yX0_requireOpen cX0_requireOpen 2 none, Cond.methodLink RX0 150 yX0_stateOf, Cond.instanceMethod yX0_stateOf, Cond.selects RX0 yX0_stateOf yX0_stateOf, Cond.code yX0_stateOf cX0_stateOf 2 (some .int), Cond.methodLink RX0 71 yX0_speakOf, Cond.instanceMethod yX0_speakOf, Cond.selects RX0 yX0_speakOf yX0_speakOf, Cond.code yX0_speakOf cX0_speakOf 2 none, Cond.methodLink RX0 98 Lib.Math.min.name, Cond.static Lib.Math.min.name, Cond.initialized "java/lang/Math", Cond.code Lib.Math.min.name Lib.Math.min.code 2 (some .int), Cond.methodLink RL 124 yX1_mention, Cond.instanceMethod yX1_mention, Cond.selects RX1 yX1_mention yX1_mention, Cond.code yX1_mention cX1_mention 2 (some .int), Cond.methodLink RX1 78 yX1_isSlight, Cond.instanceMethod yX1_isSlight, Cond.selects RX1 yX1_isSlight yX1_isSlight, Cond.code yX1_isSlight cX1_isSlight 2 (some .boolean)]
def wsL_law0_r7 : List Cond := [Cond.methodLink RX1 58 yX1_isOpen, Cond.instanceMethod yX1_isOpen, Cond.selects RX1 yX1_isOpen yX1_isOpen, Cond.code yX1_isOpen cX1_isOpen 2 (some .boolean), Cond.methodLink RX1 81 yX1_speak, Cond.instanceMethod yX1_speak, Cond.selects RX1 yX1_speak yX1_speak, Cond.code yX1_speak cX1_speak 2 none, Cond.methodLink RX1 49 Lib.Math.min.name, Cond.methodLink RL 125 yL_apologize, Cond.static yL_apologize, Cond.codeWith yL_apologize cL_apologize 5 (some .int) [(0, 10, 13, 21), (0, 10, 17, 13), (0, 10, 21, 15)], Cond.methodLink RL 30 yX0_apologize, Cond.instanceMethod yX0_apologize, Cond.selects RX0 yX0_apologize yX0_apologize, Cond.code yX0_apologize cX0_apologize 4 (some .int), Cond.fieldLink RX0 85 "ApologyLedger" "scornedCount" "I", Cond.methodLink RX0 74 yX0_requireWords, Cond.static yX0_requireWords, Cond.code yX0_requireWords cX0_requireWords 1 none, Cond.methodLink RX0 77 yX0_worthOf, Cond.instanceMethod yX0_worthOf, Cond.selects RX0 yX0_worthOf yX0_worthOf, Cond.code yX0_worthOf cX0_worthOf 3 (some .int)]
def wsL_law0_r8 : List Cond := [Cond.methodLink RX0 168 yX0_witnessesFor, Cond.instanceMethod yX0_witnessesFor, Cond.selects RX0 yX0_witnessesFor yX0_witnessesFor, Cond.code yX0_witnessesFor cX0_witnessesFor 4 (some .int), Cond.methodLink RX0 81 yX0_leastWorthHeard, Cond.instanceMethod yX0_leastWorthHeard, Cond.selects RX0 yX0_leastWorthHeard yX0_leastWorthHeard, Cond.code yX0_leastWorthHeard cX0_leastWorthHeard 2 (some .int), Cond.methodLink RX0 121 Lib.Math.max.name, Cond.static Lib.Math.max.name, Cond.code Lib.Math.max.name Lib.Math.max.code 2 (some .int), Cond.methodLink RX0 171 yX0_offendedOf, Cond.instanceMethod yX0_offendedOf, Cond.selects RX0 yX0_offendedOf yX0_offendedOf, Cond.code yX0_offendedOf cX0_offendedOf 2 (some .int), Cond.methodLink RX0 174 yX0_prideOf, Cond.instanceMethod yX0_prideOf, Cond.selects RX0 yX0_prideOf yX0_prideOf, Cond.code yX0_prideOf cX0_prideOf 2 (some .int), Cond.methodLink RX0 177 yX0_weightOf, Cond.instanceMethod yX0_weightOf, Cond.selects RX0 yX0_weightOf yX0_weightOf, Cond.code yX0_weightOf cX0_weightOf 2 (some .int), Cond.methodLink RX0 88 yX0_lighten]
def wsL_law0_r9 : List Cond := [Cond.instanceMethod yX0_lighten, Cond.selects RX0 yX0_lighten yX0_lighten, Cond.code yX0_lighten cX0_lighten 5 none, Cond.methodLink RX0 161 yX0_close, Cond.instanceMethod yX0_close, Cond.selects RX0 yX0_close yX0_close, Cond.code yX0_close cX0_close 3 none, Cond.methodLink RL 128 yX1_apologize, Cond.instanceMethod yX1_apologize, Cond.selects RX1 yX1_apologize yX1_apologize, Cond.code yX1_apologize cX1_apologize 3 (some .int), Cond.fieldLink RX1 89 "ApologyLedgerModel" "scorned" "I", Cond.methodLink RX1 85 yX1_isScorned, Cond.instanceMethod yX1_isScorned, Cond.selects RX1 yX1_isScorned yX1_isScorned, Cond.code yX1_isScorned cX1_isScorned 4 (some .boolean), Cond.methodLink RX1 66 yX1_witnesses, Cond.instanceMethod yX1_witnesses, Cond.selects RX1 yX1_witnesses yX1_witnesses, Cond.code yX1_witnesses cX1_witnesses 4 (some .int), Cond.methodLink RX1 92 yX1_close, Cond.instanceMethod yX1_close, Cond.selects RX1 yX1_close yX1_close, Cond.code yX1_close cX1_close 3 none]
def wsL_law0_r10 : List Cond := [Cond.methodLink RL 129 yL_setOff, Cond.static yL_setOff, Cond.codeWith yL_setOff cL_setOff 5 (some .int) [(0, 10, 13, 21), (0, 10, 17, 15)], Cond.methodLink RL 34 yX0_setOff, Cond.instanceMethod yX0_setOff, Cond.selects RX0 yX0_setOff yX0_setOff, Cond.code yX0_setOff cX0_setOff 4 (some .int), Cond.methodLink RX0 92 yX0_areAgainstEachOther, Cond.instanceMethod yX0_areAgainstEachOther, Cond.selects RX0 yX0_areAgainstEachOther yX0_areAgainstEachOther, Cond.code yX0_areAgainstEachOther cX0_areAgainstEachOther 3 (some .boolean), Cond.methodLink RX0 180 yX0_offenderOf, Cond.instanceMethod yX0_offenderOf, Cond.selects RX0 yX0_offenderOf yX0_offenderOf, Cond.code yX0_offenderOf cX0_offenderOf 2 (some .int), Cond.methodLink RL 131 yX1_setOff, Cond.instanceMethod yX1_setOff, Cond.selects RX1 yX1_setOff yX1_setOff, Cond.code yX1_setOff cX1_setOff 4 (some .int), Cond.methodLink RX1 96 yX1_areOpposite, Cond.instanceMethod yX1_areOpposite, Cond.selects RX1 yX1_areOpposite yX1_areOpposite, Cond.code yX1_areOpposite cX1_areOpposite 3 (some .boolean), Cond.methodLink RL 132 yL_setPride]
def wsL_law0_r11 : List Cond := [Cond.static yL_setPride, Cond.codeWith yL_setPride cL_setPride 5 (some .int) [(0, 10, 13, 21), (0, 10, 17, 13)], Cond.methodLink RL 37 yX0_setPride, Cond.instanceMethod yX0_setPride, Cond.selects RX0 yX0_setPride yX0_setPride, Cond.code yX0_setPride cX0_setPride 4 (some .int), Cond.methodLink RL 134 yX1_setPride, Cond.instanceMethod yX1_setPride, Cond.selects RX1 yX1_setPride yX1_setPride, Cond.code yX1_setPride cX1_setPride 4 (some .int), Cond.methodLink RL 135 yL_pass, Cond.static yL_pass, Cond.codeWith yL_pass cL_pass 4 (some .int) [(0, 9, 12, 13)], Cond.methodLink RL 40 yX0_pass, Cond.instanceMethod yX0_pass, Cond.selects RX0 yX0_pass yX0_pass, Cond.code yX0_pass cX0_pass 4 (some .int), Cond.methodLink RX0 103 yX0_requireDays, Cond.static yX0_requireDays, Cond.code yX0_requireDays cX0_requireDays 1 none, Cond.methodLink RX0 106 yX0_passOneDay, Cond.instanceMethod yX0_passOneDay, Cond.selects RX0 yX0_passOneDay yX0_passOneDay, Cond.code yX0_passOneDay cX0_passOneDay 3 (some .int)]
def wsL_law0_r12 : List Cond := [Cond.fieldLink RX0 110 "ApologyLedger" "today" "I", Cond.methodLink RX0 165 yX0_bearOneDay, Cond.instanceMethod yX0_bearOneDay, Cond.selects RX0 yX0_bearOneDay yX0_bearOneDay, Cond.code yX0_bearOneDay cX0_bearOneDay 2 none, Cond.methodLink RX0 124 yX0_weightWhenBorne, Cond.static yX0_weightWhenBorne, Cond.code yX0_weightWhenBorne cX0_weightWhenBorne 2 (some .int), Cond.methodLink RL 137 yX1_pass, Cond.instanceMethod yX1_pass, Cond.selects RX1 yX1_pass yX1_pass, Cond.code yX1_pass cX1_pass 6 (some .int), Cond.fieldLink RX1 102 "ApologyLedgerModel" "day" "I", Cond.methodLink RX1 99 yX1_later, Cond.instanceMethod yX1_later, Cond.selects RX1 yX1_later yX1_later, Cond.code yX1_later cX1_later 5 (some .int), Cond.methodLink RX1 62 yX1_grown, Cond.static yX1_grown, Cond.code yX1_grown cX1_grown 1 (some .int), Cond.methodLink RX1 55 Lib.Math.max.name, Cond.methodLink RL 138 yX0_day, Cond.instanceMethod yX0_day, Cond.selects RX0 yX0_day yX0_day]
def wsL_law0_r13 : List Cond := [Cond.code yX0_day cX0_day 1 (some .int), Cond.methodLink RL 141 yX1_day, Cond.instanceMethod yX1_day, Cond.selects RX1 yX1_day yX1_day, Cond.code yX1_day cX1_day 1 (some .int), Cond.methodLink RX1 105 yX1_ok, Cond.instanceMethod yX1_ok, Cond.selects RX1 yX1_ok yX1_ok, Cond.code yX1_ok cX1_ok 2 (some .int), Cond.methodLink RL 142 yX0_persons, Cond.instanceMethod yX0_persons, Cond.selects RX0 yX0_persons yX0_persons, Cond.code yX0_persons cX0_persons 1 (some .int), Cond.methodLink RL 145 yX1_persons, Cond.instanceMethod yX1_persons, Cond.selects RX1 yX1_persons yX1_persons, Cond.code yX1_persons cX1_persons 1 (some .int), Cond.methodLink RL 146 yX0_slights, Cond.instanceMethod yX0_slights, Cond.selects RX0 yX0_slights yX0_slights, Cond.code yX0_slights cX0_slights 1 (some .int), Cond.methodLink RL 149 yX1_slights, Cond.instanceMethod yX1_slights, Cond.selects RX1 yX1_slights yX1_slights]
def wsL_law0_r14 : List Cond := [Cond.code yX1_slights cX1_slights 1 (some .int), Cond.methodLink RL 150 yX0_inHall, Cond.instanceMethod yX0_inHall, Cond.selects RX0 yX0_inHall yX0_inHall, Cond.code yX0_inHall cX0_inHall 3 (some .int), Cond.methodLink RL 153 yX1_inHall, Cond.instanceMethod yX1_inHall, Cond.selects RX1 yX1_inHall yX1_inHall, Cond.code yX1_inHall cX1_inHall 1 (some .int), Cond.methodLink RX1 108 yX1_here, Cond.instanceMethod yX1_here, Cond.selects RX1 yX1_here yX1_here, Cond.code yX1_here cX1_here 3 (some .int), Cond.methodLink RL 154 yX0_scorned, Cond.instanceMethod yX0_scorned, Cond.selects RX0 yX0_scorned yX0_scorned, Cond.code yX0_scorned cX0_scorned 1 (some .int), Cond.methodLink RL 157 yX1_scorned, Cond.instanceMethod yX1_scorned, Cond.selects RX1 yX1_scorned yX1_scorned, Cond.code yX1_scorned cX1_scorned 1 (some .int), Cond.methodLink RL 158 yL_isInHall, Cond.static yL_isInHall, Cond.codeWith yL_isInHall cL_isInHall 4 (some .int) [(0, 16, 19, 21)]]
def wsL_law0_r15 : List Cond := [Cond.methodLink RL 43 yX0_isInHall, Cond.instanceMethod yX0_isInHall, Cond.selects RX0 yX0_isInHall yX0_isInHall, Cond.code yX0_isInHall cX0_isInHall 2 (some .boolean), Cond.methodLink RL 160 yX1_isInHall, Cond.instanceMethod yX1_isInHall, Cond.selects RX1 yX1_isInHall yX1_isInHall, Cond.code yX1_isInHall cX1_isInHall 2 (some .boolean), Cond.methodLink RL 161 yL_prideOf, Cond.static yL_prideOf, Cond.codeWith yL_prideOf cL_prideOf 4 (some .int) [(0, 9, 12, 21)], Cond.methodLink RL 46 yX0_prideOf, Cond.methodLink RL 163 yX1_prideOf, Cond.instanceMethod yX1_prideOf, Cond.selects RX1 yX1_prideOf yX1_prideOf, Cond.code yX1_prideOf cX1_prideOf 2 (some .int), Cond.methodLink RL 164 yL_borneBy, Cond.static yL_borneBy, Cond.codeWith yL_borneBy cL_borneBy 4 (some .int) [(0, 9, 12, 21)], Cond.methodLink RL 49 yX0_borneBy, Cond.instanceMethod yX0_borneBy, Cond.selects RX0 yX0_borneBy yX0_borneBy, Cond.code yX0_borneBy cX0_borneBy 4 (some .int), Cond.methodLink RL 166 yX1_borneBy]
def wsL_law0_r16 : List Cond := [Cond.instanceMethod yX1_borneBy, Cond.selects RX1 yX1_borneBy yX1_borneBy, Cond.code yX1_borneBy cX1_borneBy 2 (some .int), Cond.methodLink RX1 112 yX1_done, Cond.instanceMethod yX1_done, Cond.selects RX1 yX1_done yX1_done, Cond.code yX1_done cX1_done 5 (some .int), Cond.methodLink RL 167 yL_owedBy, Cond.static yL_owedBy, Cond.codeWith yL_owedBy cL_owedBy 4 (some .int) [(0, 9, 12, 21)], Cond.methodLink RL 52 yX0_owedBy, Cond.instanceMethod yX0_owedBy, Cond.selects RX0 yX0_owedBy yX0_owedBy, Cond.code yX0_owedBy cX0_owedBy 4 (some .int), Cond.methodLink RL 169 yX1_owedBy, Cond.instanceMethod yX1_owedBy, Cond.selects RX1 yX1_owedBy yX1_owedBy, Cond.code yX1_owedBy cX1_owedBy 2 (some .int), Cond.methodLink RL 170 yL_balance, Cond.static yL_balance, Cond.codeWith yL_balance cL_balance 5 (some .int) [(0, 10, 13, 21)], Cond.methodLink RL 55 yX0_balance, Cond.instanceMethod yX0_balance, Cond.selects RX0 yX0_balance yX0_balance]
def wsL_law0_r17 : List Cond := [Cond.code yX0_balance cX0_balance 3 (some .int), Cond.methodLink RX0 113 yX0_weightBetween, Cond.instanceMethod yX0_weightBetween, Cond.selects RX0 yX0_weightBetween yX0_weightBetween, Cond.code yX0_weightBetween cX0_weightBetween 5 (some .int), Cond.methodLink RL 172 yX1_balance, Cond.instanceMethod yX1_balance, Cond.selects RX1 yX1_balance yX1_balance, Cond.code yX1_balance cX1_balance 3 (some .int), Cond.methodLink RL 173 yX0_sorest, Cond.instanceMethod yX0_sorest, Cond.selects RX0 yX0_sorest yX0_sorest, Cond.code yX0_sorest cX0_sorest 5 (some .int), Cond.methodLink RX0 116 yX0_borneBy, Cond.methodLink RL 176 yX1_sorest, Cond.instanceMethod yX1_sorest, Cond.selects RX1 yX1_sorest yX1_sorest, Cond.code yX1_sorest cX1_sorest 1 (some .int), Cond.methodLink RX1 115 yX1_sore, Cond.instanceMethod yX1_sore, Cond.selects RX1 yX1_sore yX1_sore, Cond.code yX1_sore cX1_sore 3 (some .int), Cond.methodLink RL 177 yL_offenderOf, Cond.static yL_offenderOf]
def wsL_law0_r18 : List Cond := [Cond.codeWith yL_offenderOf cL_offenderOf 4 (some .int) [(0, 9, 12, 21)], Cond.methodLink RL 58 yX0_offenderOf, Cond.methodLink RL 179 yX1_offenderOf, Cond.instanceMethod yX1_offenderOf, Cond.selects RX1 yX1_offenderOf yX1_offenderOf, Cond.code yX1_offenderOf cX1_offenderOf 2 (some .int), Cond.methodLink RX1 118 yX1_of, Cond.instanceMethod yX1_of, Cond.selects RX1 yX1_of yX1_of, Cond.code yX1_of cX1_of 3 (some .int), Cond.methodLink RL 180 yL_offendedOf, Cond.static yL_offendedOf, Cond.codeWith yL_offendedOf cL_offendedOf 4 (some .int) [(0, 9, 12, 21)], Cond.methodLink RL 61 yX0_offendedOf, Cond.methodLink RL 182 yX1_offendedOf, Cond.instanceMethod yX1_offendedOf, Cond.selects RX1 yX1_offendedOf yX1_offendedOf, Cond.code yX1_offendedOf cX1_offendedOf 2 (some .int), Cond.methodLink RL 183 yL_weightOf, Cond.static yL_weightOf, Cond.codeWith yL_weightOf cL_weightOf 4 (some .int) [(0, 9, 12, 21)], Cond.methodLink RL 64 yX0_weightOf, Cond.methodLink RL 185 yX1_weightOf, Cond.instanceMethod yX1_weightOf]
def wsL_law0_r19 : List Cond := [Cond.selects RX1 yX1_weightOf yX1_weightOf, Cond.code yX1_weightOf cX1_weightOf 2 (some .int), Cond.methodLink RL 186 yL_stateOf, Cond.static yL_stateOf, Cond.codeWith yL_stateOf cL_stateOf 4 (some .int) [(0, 9, 12, 21)], Cond.methodLink RL 67 yX0_stateOf, Cond.methodLink RL 188 yX1_stateOf, Cond.instanceMethod yX1_stateOf, Cond.selects RX1 yX1_stateOf yX1_stateOf, Cond.code yX1_stateOf cX1_stateOf 2 (some .int), Cond.methodLink RL 189 yL_borneFor, Cond.static yL_borneFor, Cond.codeWith yL_borneFor cL_borneFor 4 (some .int) [(0, 9, 12, 21)], Cond.methodLink RL 70 yX0_borneFor, Cond.instanceMethod yX0_borneFor, Cond.selects RX0 yX0_borneFor yX0_borneFor, Cond.code yX0_borneFor cX0_borneFor 2 (some .int), Cond.methodLink RL 191 yX1_borneFor, Cond.instanceMethod yX1_borneFor, Cond.selects RX1 yX1_borneFor yX1_borneFor, Cond.code yX1_borneFor cX1_borneFor 2 (some .int), Cond.methodLink RL 192 yL_quietFor, Cond.static yL_quietFor, Cond.codeWith yL_quietFor cL_quietFor 4 (some .int) [(0, 9, 12, 21)]]
def wsL_law0_r20 : List Cond := [Cond.methodLink RL 73 yX0_quietFor, Cond.instanceMethod yX0_quietFor, Cond.selects RX0 yX0_quietFor yX0_quietFor, Cond.code yX0_quietFor cX0_quietFor 2 (some .int), Cond.methodLink RL 194 yX1_quietFor, Cond.instanceMethod yX1_quietFor, Cond.selects RX1 yX1_quietFor yX1_quietFor, Cond.code yX1_quietFor cX1_quietFor 2 (some .int), Cond.methodLink RL 195 yL_witnessesFor, Cond.static yL_witnessesFor, Cond.codeWith yL_witnessesFor cL_witnessesFor 4 (some .int) [(0, 9, 12, 21)], Cond.methodLink RL 76 yX0_witnessesFor, Cond.methodLink RL 197 yX1_witnessesFor, Cond.instanceMethod yX1_witnessesFor, Cond.selects RX1 yX1_witnessesFor yX1_witnessesFor, Cond.code yX1_witnessesFor cX1_witnessesFor 2 (some .int), Cond.methodLink RL 198 yL_inState, Cond.static yL_inState, Cond.codeWith yL_inState cL_inState 4 (some .int) [(0, 9, 12, 13)], Cond.methodLink RL 79 yX0_inState, Cond.instanceMethod yX0_inState, Cond.selects RX0 yX0_inState yX0_inState, Cond.code yX0_inState cX0_inState 4 (some .int), Cond.methodLink RL 200 yX1_inState]
def wsL_law0_r21 : List Cond := [Cond.instanceMethod yX1_inState, Cond.selects RX1 yX1_inState yX1_inState, Cond.code yX1_inState cX1_inState 2 (some .int), Cond.methodLink RX1 122 yX1_count, Cond.instanceMethod yX1_count, Cond.selects RX1 yX1_count yX1_count, Cond.code yX1_count cX1_count 4 (some .int), Cond.methodLink RL 201 yX0_heaviest, Cond.instanceMethod yX0_heaviest, Cond.selects RX0 yX0_heaviest yX0_heaviest, Cond.code yX0_heaviest cX0_heaviest 4 (some .int), Cond.methodLink RL 204 yX1_heaviest, Cond.instanceMethod yX1_heaviest, Cond.selects RX1 yX1_heaviest yX1_heaviest, Cond.code yX1_heaviest cX1_heaviest 1 (some .int), Cond.methodLink RX1 125 yX1_heavy, Cond.instanceMethod yX1_heavy, Cond.selects RX1 yX1_heavy yX1_heavy, Cond.code yX1_heavy cX1_heavy 3 (some .int), Cond.methodLink RL 205 yX0_pairsToSetOff, Cond.instanceMethod yX0_pairsToSetOff, Cond.selects RX0 yX0_pairsToSetOff yX0_pairsToSetOff, Cond.code yX0_pairsToSetOff cX0_pairsToSetOff 4 (some .int), Cond.methodLink RL 208 yX1_pairsToSetOff]
def wsL_law0_r22 : List Cond := [Cond.instanceMethod yX1_pairsToSetOff, Cond.selects RX1 yX1_pairsToSetOff yX1_pairsToSetOff, Cond.code yX1_pairsToSetOff cX1_pairsToSetOff 1 (some .int), Cond.methodLink RX1 128 yX1_pairs, Cond.instanceMethod yX1_pairs, Cond.selects RX1 yX1_pairs yX1_pairs, Cond.code yX1_pairs cX1_pairs 4 (some .int), Cond.methodLink RL 209 yL_wordsWanted, Cond.static yL_wordsWanted, Cond.codeWith yL_wordsWanted cL_wordsWanted 4 (some .int) [(0, 9, 12, 21)], Cond.methodLink RL 82 yX0_wordsWanted, Cond.instanceMethod yX0_wordsWanted, Cond.selects RX0 yX0_wordsWanted yX0_wordsWanted, Cond.code yX0_wordsWanted cX0_wordsWanted 4 (some .int), Cond.methodLink RL 211 yX1_wordsWanted, Cond.instanceMethod yX1_wordsWanted, Cond.selects RX1 yX1_wordsWanted yX1_wordsWanted, Cond.code yX1_wordsWanted cX1_wordsWanted 2 (some .int), Cond.methodLink RX1 131 yX1_wanted, Cond.instanceMethod yX1_wanted, Cond.selects RX1 yX1_wanted yX1_wanted, Cond.code yX1_wanted cX1_wanted 3 (some .int), Cond.methodLink RL 212 yL_wouldBeScorned, Cond.static yL_wouldBeScorned]
def wsL_law0_r23 : List Cond := [Cond.codeWith yL_wouldBeScorned cL_wouldBeScorned 5 (some .int) [(0, 17, 20, 21), (0, 17, 24, 13)], Cond.methodLink RL 85 yX0_wouldBeScorned, Cond.instanceMethod yX0_wouldBeScorned, Cond.selects RX0 yX0_wouldBeScorned yX0_wouldBeScorned, Cond.code yX0_wouldBeScorned cX0_wouldBeScorned 3 (some .boolean), Cond.methodLink RL 214 yX1_wouldBeScorned, Cond.instanceMethod yX1_wouldBeScorned, Cond.selects RX1 yX1_wouldBeScorned yX1_wouldBeScorned, Cond.code yX1_wouldBeScorned cX1_wouldBeScorned 3 (some .boolean), Cond.methodLink RL 215 yL_weightIn, Cond.static yL_weightIn, Cond.codeWith yL_weightIn cL_weightIn 5 (some .int) [(0, 10, 13, 21), (0, 10, 17, 13)], Cond.methodLink RL 89 yX0_weightIn, Cond.instanceMethod yX0_weightIn, Cond.selects RX0 yX0_weightIn yX0_weightIn, Cond.code yX0_weightIn cX0_weightIn 5 (some .int), Cond.methodLink RL 217 yX1_weightIn, Cond.instanceMethod yX1_weightIn, Cond.selects RX1 yX1_weightIn yX1_weightIn, Cond.code yX1_weightIn cX1_weightIn 3 (some .int), Cond.methodLink RL 218 yL_daysUntilForgotten, Cond.static yL_daysUntilForgotten, Cond.codeWith yL_daysUntilForgotten cL_daysUntilForgotten 4 (some .int) [(0, 9, 12, 21)], Cond.methodLink RL 92 yX0_daysUntilForgotten]
def wsL_law0_r24 : List Cond := [Cond.instanceMethod yX0_daysUntilForgotten, Cond.selects RX0 yX0_daysUntilForgotten yX0_daysUntilForgotten, Cond.code yX0_daysUntilForgotten cX0_daysUntilForgotten 2 (some .int), Cond.methodLink RL 220 yX1_daysUntilForgotten, Cond.instanceMethod yX1_daysUntilForgotten, Cond.selects RX1 yX1_daysUntilForgotten yX1_daysUntilForgotten, Cond.code yX1_daysUntilForgotten cX1_daysUntilForgotten 2 (some .int), Cond.methodLink RX1 134 yX1_until, Cond.instanceMethod yX1_until, Cond.selects RX1 yX1_until yX1_until, Cond.code yX1_until cX1_until 2 (some .int), Cond.methodLink RL 221 yL_borneIn, Cond.static yL_borneIn, Cond.codeWith yL_borneIn cL_borneIn 5 (some .int) [(0, 10, 13, 21), (0, 10, 17, 13)], Cond.methodLink RL 95 yX0_borneIn, Cond.instanceMethod yX0_borneIn, Cond.selects RX0 yX0_borneIn yX0_borneIn, Cond.code yX0_borneIn cX0_borneIn 5 (some .int), Cond.methodLink RX0 127 yX0_weightIn, Cond.methodLink RL 223 yX1_borneIn, Cond.instanceMethod yX1_borneIn, Cond.selects RX1 yX1_borneIn yX1_borneIn, Cond.code yX1_borneIn cX1_borneIn 3 (some .int), Cond.methodLink RX1 137 yX1_borneThen]
def wsL_law0_r25 : List Cond := [Cond.instanceMethod yX1_borneThen, Cond.selects RX1 yX1_borneThen yX1_borneThen, Cond.code yX1_borneThen cX1_borneThen 5 (some .int), Cond.methodLink RL 224 yL_worstToKeep, Cond.static yL_worstToKeep, Cond.codeWith yL_worstToKeep cL_worstToKeep 4 (some .int) [(0, 9, 12, 21)], Cond.methodLink RL 98 yX0_worstToKeep, Cond.instanceMethod yX0_worstToKeep, Cond.selects RX0 yX0_worstToKeep yX0_worstToKeep, Cond.code yX0_worstToKeep cX0_worstToKeep 6 (some .int), Cond.methodLink RL 226 yX1_worstToKeep, Cond.instanceMethod yX1_worstToKeep, Cond.selects RX1 yX1_worstToKeep yX1_worstToKeep, Cond.code yX1_worstToKeep cX1_worstToKeep 2 (some .int), Cond.methodLink RX1 140 yX1_worst, Cond.instanceMethod yX1_worst, Cond.selects RX1 yX1_worst yX1_worst, Cond.code yX1_worst cX1_worst 6 (some .int), Cond.methodLink RL 227 yX0_meanWeight, Cond.instanceMethod yX0_meanWeight, Cond.selects RX0 yX0_meanWeight yX0_meanWeight, Cond.code yX0_meanWeight cX0_meanWeight 4 (some .double), Cond.methodLink RL 231 yX1_meanWeight, Cond.instanceMethod yX1_meanWeight]
def wsL_law0_r26 : List Cond := [Cond.selects RX1 yX1_meanWeight yX1_meanWeight, Cond.code yX1_meanWeight cX1_meanWeight 1 (some .double), Cond.methodLink RL 232 yX0_digest, Cond.instanceMethod yX0_digest, Cond.selects RX0 yX0_digest yX0_digest, Cond.code yX0_digest cX0_digest 4 (some .long), Cond.constantLong RX0 130 (2027), Cond.methodLink RX0 132 yX0_digestOfTheWhole, Cond.instanceMethod yX0_digestOfTheWhole, Cond.selects RX0 yX0_digestOfTheWhole yX0_digestOfTheWhole, Cond.code yX0_digestOfTheWhole cX0_digestOfTheWhole 6 (some .long), Cond.methodLink RX0 185 yX0_day, Cond.methodLink RX0 188 yX0_digestWith, Cond.static yX0_digestWith, Cond.code yX0_digestWith cX0_digestWith 4 (some .long), Cond.constantLong RX0 183 (31), Cond.methodLink RX0 192 yX0_persons, Cond.methodLink RX0 195 yX0_slights, Cond.methodLink RX0 198 yX0_inHall, Cond.methodLink RX0 201 yX0_scorned, Cond.methodLink RX0 204 yX0_sorest, Cond.methodLink RX0 207 yX0_inState, Cond.methodLink RX0 210 yX0_heaviest, Cond.methodLink RX0 213 yX0_pairsToSetOff]
def wsL_law0_r27 : List Cond := [Cond.methodLink RX0 136 yX0_digestOfPerson, Cond.instanceMethod yX0_digestOfPerson, Cond.selects RX0 yX0_digestOfPerson yX0_digestOfPerson, Cond.code yX0_digestOfPerson cX0_digestOfPerson 6 (some .long), Cond.methodLink RX0 216 yX0_isInHall, Cond.methodLink RX0 220 yX0_owedBy, Cond.methodLink RX0 223 yX0_borneIn, Cond.methodLink RX0 226 yX0_worstToKeep, Cond.methodLink RX0 140 yX0_digestOfSlight, Cond.instanceMethod yX0_digestOfSlight, Cond.selects RX0 yX0_digestOfSlight yX0_digestOfSlight, Cond.code yX0_digestOfSlight cX0_digestOfSlight 6 (some .long), Cond.methodLink RX0 229 yX0_borneFor, Cond.methodLink RX0 232 yX0_quietFor, Cond.methodLink RX0 235 yX0_wordsWanted, Cond.methodLink RX0 238 yX0_daysUntilForgotten, Cond.methodLink RL 236 yX1_digest, Cond.instanceMethod yX1_digest, Cond.selects RX1 yX1_digest yX1_digest, Cond.code yX1_digest cX1_digest 10 (some .long), Cond.constantLong RX1 143 (2027), Cond.constantLong RX1 145 (31)]
def wsL_law0 : List Cond := (wsL_law0_r1 ++ (wsL_law0_r2 ++ (wsL_law0_r3 ++ (wsL_law0_r4 ++ (wsL_law0_r5 ++ (wsL_law0_r6 ++ (wsL_law0_r7 ++ (wsL_law0_r8 ++ (wsL_law0_r9 ++ (wsL_law0_r10 ++ (wsL_law0_r11 ++ (wsL_law0_r12 ++ (wsL_law0_r13 ++ (wsL_law0_r14 ++ (wsL_law0_r15 ++ (wsL_law0_r16 ++ (wsL_law0_r17 ++ (wsL_law0_r18 ++ (wsL_law0_r19 ++ (wsL_law0_r20 ++ (wsL_law0_r21 ++ (wsL_law0_r22 ++ (wsL_law0_r23 ++ (wsL_law0_r24 ++ (wsL_law0_r25 ++ (wsL_law0_r26 ++ wsL_law0_r27)))))))))))))))))))))))))) ++ wsX00 ++ wsX10 ++ ([] : List Cond)
def wsL_law : List Cond := wsL_law0 ++ (vx_atS RX0 47 "java/lang/IllegalStateException" ["java/lang/RuntimeException", "java/lang/Exception"]).filter goodWord ++ (vx_atS RX0 57 "java/lang/IllegalArgumentException" ["java/lang/RuntimeException", "java/lang/Exception"]).filter goodWord ++ (vx_atS RX0 147 "java/lang/IndexOutOfBoundsException" ["java/lang/RuntimeException", "java/lang/Exception"]).filter goodWord
abbrev vwCl : List vw_C := [(RX0, TX0, 12), (RX1, TX1, 13)]
end
section
theorem dX0_init_0 : decode cX0_init 0 = .ok (.aload_n 0, 1) := by decide +kernel
theorem dX0_init_1 : decode cX0_init 1 = .ok (.invokespecial 1, 3) := by decide +kernel
theorem dX0_init_4 : decode cX0_init 4 = .ok (.aload_n 0, 1) := by decide +kernel
theorem dX0_init_5 : decode cX0_init 5 = .ok (.bipush 6, 2) := by decide +kernel
theorem dX0_init_7 : decode cX0_init 7 = .ok (.newarray .int, 2) := by decide +kernel
theorem dX0_init_9 : decode cX0_init 9 = .ok (.putfield 9, 3) := by decide +kernel
theorem dX0_init_12 : decode cX0_init 12 = .ok (.aload_n 0, 1) := by decide +kernel
theorem dX0_init_13 : decode cX0_init 13 = .ok (.bipush 6, 2) := by decide +kernel
theorem dX0_init_15 : decode cX0_init 15 = .ok (.newarray .boolean, 2) := by decide +kernel
theorem dX0_init_17 : decode cX0_init 17 = .ok (.putfield 13, 3) := by decide +kernel
theorem dX0_init_20 : decode cX0_init 20 = .ok (.aload_n 0, 1) := by decide +kernel
theorem dX0_init_21 : decode cX0_init 21 = .ok (.bipush 20, 2) := by decide +kernel
theorem dX0_init_23 : decode cX0_init 23 = .ok (.newarray .int, 2) := by decide +kernel
theorem dX0_init_25 : decode cX0_init 25 = .ok (.putfield 17, 3) := by decide +kernel
theorem dX0_init_28 : decode cX0_init 28 = .ok (.aload_n 0, 1) := by decide +kernel
theorem dX0_init_29 : decode cX0_init 29 = .ok (.bipush 20, 2) := by decide +kernel
theorem dX0_init_31 : decode cX0_init 31 = .ok (.newarray .int, 2) := by decide +kernel
theorem dX0_init_33 : decode cX0_init 33 = .ok (.putfield 20, 3) := by decide +kernel
theorem dX0_init_36 : decode cX0_init 36 = .ok (.aload_n 0, 1) := by decide +kernel
theorem dX0_init_37 : decode cX0_init 37 = .ok (.bipush 20, 2) := by decide +kernel
theorem dX0_init_39 : decode cX0_init 39 = .ok (.newarray .int, 2) := by decide +kernel
theorem dX0_init_41 : decode cX0_init 41 = .ok (.putfield 23, 3) := by decide +kernel
theorem dX0_init_44 : decode cX0_init 44 = .ok (.aload_n 0, 1) := by decide +kernel
theorem dX0_init_45 : decode cX0_init 45 = .ok (.bipush 20, 2) := by decide +kernel
theorem dX0_init_47 : decode cX0_init 47 = .ok (.newarray .int, 2) := by decide +kernel
theorem dX0_init_49 : decode cX0_init 49 = .ok (.putfield 26, 3) := by decide +kernel
theorem dX0_init_52 : decode cX0_init 52 = .ok (.aload_n 0, 1) := by decide +kernel
theorem dX0_init_53 : decode cX0_init 53 = .ok (.bipush 20, 2) := by decide +kernel
theorem dX0_init_55 : decode cX0_init 55 = .ok (.newarray .int, 2) := by decide +kernel
theorem dX0_init_57 : decode cX0_init 57 = .ok (.putfield 29, 3) := by decide +kernel
theorem dX0_init_60 : decode cX0_init 60 = .ok (.aload_n 0, 1) := by decide +kernel
theorem dX0_init_61 : decode cX0_init 61 = .ok (.bipush 20, 2) := by decide +kernel
theorem dX0_init_63 : decode cX0_init 63 = .ok (.newarray .int, 2) := by decide +kernel
theorem dX0_init_65 : decode cX0_init 65 = .ok (.putfield 32, 3) := by decide +kernel
theorem dX0_init_68 : decode cX0_init 68 = .ok (.return_, 1) := by decide +kernel
set_option maxRecDepth 20000 in
theorem ggX0_addPerson_X0_requirePride : GoodIn wsX0_addPerson wsX0_requirePride := goodIn_ca (goodIn_r _ [8, 9, 10] (by decide +kernel) (by decide +kernel)) (goodIn_sub (fun _ h => List.mem_cons_of_mem _ (List.mem_append_right _ h)) (by decide +kernel))
set_option maxRecDepth 20000 in
theorem gX0_addPerson_X0_requirePride : GoodIn wsX0_addPerson (va_wsS RX0 35 yX0_requirePride wsX0_requirePride) := goodIn_app (goodIn_of _ (by decide +kernel)) ggX0_addPerson_X0_requirePride
theorem dX0_addPerson_0 : decode cX0_addPerson 0 = .ok (.iload_n 1, 1) := by decide +kernel
theorem dX0_addPerson_1 : decode cX0_addPerson 1 = .ok (.invokestatic 35, 3) := by decide +kernel
theorem dX0_addPerson_4 : decode cX0_addPerson 4 = .ok (.aload_n 0, 1) := by decide +kernel
theorem dX0_addPerson_5 : decode cX0_addPerson 5 = .ok (.getfield 39, 3) := by decide +kernel
theorem dX0_addPerson_8 : decode cX0_addPerson 8 = .ok (.bipush 6, 2) := by decide +kernel
theorem dX0_addPerson_10 : decode cX0_addPerson 10 = .ok (.if_icmp .lt 13, 3) := by decide +kernel
theorem dX0_addPerson_13 : decode cX0_addPerson 13 = .ok (.new 43, 3) := by decide +kernel
theorem dX0_addPerson_16 : decode cX0_addPerson 16 = .ok (.dup, 1) := by decide +kernel
theorem dX0_addPerson_17 : decode cX0_addPerson 17 = .ok (.ldc 45, 2) := by decide +kernel
theorem dX0_addPerson_19 : decode cX0_addPerson 19 = .ok (.invokespecial 47, 3) := by decide +kernel
theorem dX0_addPerson_22 : decode cX0_addPerson 22 = .ok (.athrow, 1) := by decide +kernel
theorem dX0_addPerson_23 : decode cX0_addPerson 23 = .ok (.aload_n 0, 1) := by decide +kernel
theorem dX0_addPerson_24 : decode cX0_addPerson 24 = .ok (.getfield 39, 3) := by decide +kernel
theorem dX0_addPerson_27 : decode cX0_addPerson 27 = .ok (.istore_n 2, 1) := by decide +kernel
theorem dX0_addPerson_28 : decode cX0_addPerson 28 = .ok (.aload_n 0, 1) := by decide +kernel
theorem dX0_addPerson_29 : decode cX0_addPerson 29 = .ok (.getfield 9, 3) := by decide +kernel
theorem dX0_addPerson_32 : decode cX0_addPerson 32 = .ok (.iload_n 2, 1) := by decide +kernel
theorem dX0_addPerson_33 : decode cX0_addPerson 33 = .ok (.iload_n 1, 1) := by decide +kernel
theorem dX0_addPerson_34 : decode cX0_addPerson 34 = .ok (.iastore, 1) := by decide +kernel
theorem dX0_addPerson_35 : decode cX0_addPerson 35 = .ok (.aload_n 0, 1) := by decide +kernel
theorem dX0_addPerson_36 : decode cX0_addPerson 36 = .ok (.iload_n 2, 1) := by decide +kernel
theorem dX0_addPerson_37 : decode cX0_addPerson 37 = .ok (.iconst 1, 1) := by decide +kernel
theorem dX0_addPerson_38 : decode cX0_addPerson 38 = .ok (.iadd, 1) := by decide +kernel
theorem dX0_addPerson_39 : decode cX0_addPerson 39 = .ok (.putfield 39, 3) := by decide +kernel
theorem dX0_addPerson_42 : decode cX0_addPerson 42 = .ok (.iload_n 2, 1) := by decide +kernel
theorem dX0_addPerson_43 : decode cX0_addPerson 43 = .ok (.ireturn, 1) := by decide +kernel
set_option maxRecDepth 20000 in
theorem ggX0_enter_X0_requirePerson : GoodIn wsX0_enter wsX0_requirePerson := goodIn_ca (goodIn_r _ [6, 7, 8, 9, 10, 11, 12, 13, 14, 15, 16, 17, 18, 19, 20, 21] (by decide +kernel) (by decide +kernel)) (goodIn_sub (fun _ h => List.mem_cons_of_mem _ (List.mem_append_right _ h)) (by decide +kernel))
set_option maxRecDepth 20000 in
theorem gX0_enter_X0_requirePerson : GoodIn wsX0_enter (wsV RX0 50 RX0 yX0_requirePerson wsX0_requirePerson) := goodIn_app (goodIn_of _ (by decide +kernel)) ggX0_enter_X0_requirePerson
theorem dX0_enter_0 : decode cX0_enter 0 = .ok (.aload_n 0, 1) := by decide +kernel
theorem dX0_enter_1 : decode cX0_enter 1 = .ok (.iload_n 1, 1) := by decide +kernel
theorem dX0_enter_2 : decode cX0_enter 2 = .ok (.invokevirtual 50, 3) := by decide +kernel
theorem dX0_enter_5 : decode cX0_enter 5 = .ok (.aload_n 0, 1) := by decide +kernel
theorem dX0_enter_6 : decode cX0_enter 6 = .ok (.getfield 13, 3) := by decide +kernel
theorem dX0_enter_9 : decode cX0_enter 9 = .ok (.iload_n 1, 1) := by decide +kernel
theorem dX0_enter_10 : decode cX0_enter 10 = .ok (.aload_n 0, 1) := by decide +kernel
theorem dX0_enter_11 : decode cX0_enter 11 = .ok (.getfield 13, 3) := by decide +kernel
theorem dX0_enter_14 : decode cX0_enter 14 = .ok (.iload_n 1, 1) := by decide +kernel
theorem dX0_enter_15 : decode cX0_enter 15 = .ok (.baload, 1) := by decide +kernel
theorem dX0_enter_16 : decode cX0_enter 16 = .ok (.ifCond .ne 7, 3) := by decide +kernel
theorem dX0_enter_19 : decode cX0_enter 19 = .ok (.iconst 1, 1) := by decide +kernel
theorem dX0_enter_20 : decode cX0_enter 20 = .ok (.goto 4, 3) := by decide +kernel
theorem dX0_enter_23 : decode cX0_enter 23 = .ok (.iconst 0, 1) := by decide +kernel
theorem dX0_enter_24 : decode cX0_enter 24 = .ok (.bastore, 1) := by decide +kernel
theorem dX0_enter_25 : decode cX0_enter 25 = .ok (.aload_n 0, 1) := by decide +kernel
theorem dX0_enter_26 : decode cX0_enter 26 = .ok (.getfield 13, 3) := by decide +kernel
theorem dX0_enter_29 : decode cX0_enter 29 = .ok (.iload_n 1, 1) := by decide +kernel
theorem dX0_enter_30 : decode cX0_enter 30 = .ok (.baload, 1) := by decide +kernel
theorem dX0_enter_31 : decode cX0_enter 31 = .ok (.ireturn, 1) := by decide +kernel
set_option maxRecDepth 20000 in
theorem ggX0_slight_X0_requirePerson : GoodIn wsX0_slight wsX0_requirePerson := goodIn_ca (goodIn_r _ [13, 14, 15, 16, 17, 18, 19, 20, 21, 22, 23, 24, 25, 26, 27, 28] (by decide +kernel) (by decide +kernel)) (goodIn_sub (fun _ h => List.mem_cons_of_mem _ (List.mem_append_right _ h)) (by decide +kernel))
set_option maxRecDepth 20000 in
theorem gX0_slight_X0_requirePerson : GoodIn wsX0_slight (wsV RX0 50 RX0 yX0_requirePerson wsX0_requirePerson) := goodIn_app (goodIn_of _ (by decide +kernel)) ggX0_slight_X0_requirePerson
theorem dX0_slight_0 : decode cX0_slight 0 = .ok (.aload_n 0, 1) := by decide +kernel
theorem dX0_slight_1 : decode cX0_slight 1 = .ok (.iload_n 1, 1) := by decide +kernel
theorem dX0_slight_2 : decode cX0_slight 2 = .ok (.invokevirtual 50, 3) := by decide +kernel
theorem dX0_slight_5 : decode cX0_slight 5 = .ok (.aload_n 0, 1) := by decide +kernel
theorem dX0_slight_6 : decode cX0_slight 6 = .ok (.iload_n 2, 1) := by decide +kernel
theorem dX0_slight_7 : decode cX0_slight 7 = .ok (.invokevirtual 50, 3) := by decide +kernel
theorem dX0_slight_10 : decode cX0_slight 10 = .ok (.iload_n 1, 1) := by decide +kernel
theorem dX0_slight_11 : decode cX0_slight 11 = .ok (.iload_n 2, 1) := by decide +kernel
theorem dX0_slight_12 : decode cX0_slight 12 = .ok (.if_icmp .ne 13, 3) := by decide +kernel
theorem dX0_slight_15 : decode cX0_slight 15 = .ok (.new 53, 3) := by decide +kernel
theorem dX0_slight_18 : decode cX0_slight 18 = .ok (.dup, 1) := by decide +kernel
theorem dX0_slight_19 : decode cX0_slight 19 = .ok (.ldc 55, 2) := by decide +kernel
theorem dX0_slight_21 : decode cX0_slight 21 = .ok (.invokespecial 57, 3) := by decide +kernel
theorem dX0_slight_24 : decode cX0_slight 24 = .ok (.athrow, 1) := by decide +kernel
theorem dX0_slight_25 : decode cX0_slight 25 = .ok (.iload_n 3, 1) := by decide +kernel
theorem dX0_slight_26 : decode cX0_slight 26 = .ok (.iconst 1, 1) := by decide +kernel
theorem dX0_slight_27 : decode cX0_slight 27 = .ok (.if_icmp .lt 9, 3) := by decide +kernel
theorem dX0_slight_30 : decode cX0_slight 30 = .ok (.iload_n 3, 1) := by decide +kernel
theorem dX0_slight_31 : decode cX0_slight 31 = .ok (.bipush 20, 2) := by decide +kernel
theorem dX0_slight_33 : decode cX0_slight 33 = .ok (.if_icmp .le 13, 3) := by decide +kernel
theorem dX0_slight_36 : decode cX0_slight 36 = .ok (.new 53, 3) := by decide +kernel
theorem dX0_slight_39 : decode cX0_slight 39 = .ok (.dup, 1) := by decide +kernel
theorem dX0_slight_40 : decode cX0_slight 40 = .ok (.ldc 58, 2) := by decide +kernel
theorem dX0_slight_42 : decode cX0_slight 42 = .ok (.invokespecial 57, 3) := by decide +kernel
theorem dX0_slight_45 : decode cX0_slight 45 = .ok (.athrow, 1) := by decide +kernel
theorem dX0_slight_46 : decode cX0_slight 46 = .ok (.aload_n 0, 1) := by decide +kernel
theorem dX0_slight_47 : decode cX0_slight 47 = .ok (.getfield 60, 3) := by decide +kernel
theorem dX0_slight_50 : decode cX0_slight 50 = .ok (.bipush 20, 2) := by decide +kernel
theorem dX0_slight_52 : decode cX0_slight 52 = .ok (.if_icmp .lt 13, 3) := by decide +kernel
theorem dX0_slight_55 : decode cX0_slight 55 = .ok (.new 43, 3) := by decide +kernel
theorem dX0_slight_58 : decode cX0_slight 58 = .ok (.dup, 1) := by decide +kernel
theorem dX0_slight_59 : decode cX0_slight 59 = .ok (.ldc 63, 2) := by decide +kernel
theorem dX0_slight_61 : decode cX0_slight 61 = .ok (.invokespecial 47, 3) := by decide +kernel
theorem dX0_slight_64 : decode cX0_slight 64 = .ok (.athrow, 1) := by decide +kernel
theorem dX0_slight_65 : decode cX0_slight 65 = .ok (.aload_n 0, 1) := by decide +kernel
theorem dX0_slight_66 : decode cX0_slight 66 = .ok (.getfield 60, 3) := by decide +kernel
theorem dX0_slight_69 : decode cX0_slight 69 = .ok (.istore 4, 2) := by decide +kernel
theorem dX0_slight_71 : decode cX0_slight 71 = .ok (.aload_n 0, 1) := by decide +kernel
theorem dX0_slight_72 : decode cX0_slight 72 = .ok (.getfield 17, 3) := by decide +kernel
theorem dX0_slight_75 : decode cX0_slight 75 = .ok (.iload 4, 2) := by decide +kernel
theorem dX0_slight_77 : decode cX0_slight 77 = .ok (.iload_n 1, 1) := by decide +kernel
theorem dX0_slight_78 : decode cX0_slight 78 = .ok (.iastore, 1) := by decide +kernel
theorem dX0_slight_79 : decode cX0_slight 79 = .ok (.aload_n 0, 1) := by decide +kernel
theorem dX0_slight_80 : decode cX0_slight 80 = .ok (.getfield 20, 3) := by decide +kernel
theorem dX0_slight_83 : decode cX0_slight 83 = .ok (.iload 4, 2) := by decide +kernel
theorem dX0_slight_85 : decode cX0_slight 85 = .ok (.iload_n 2, 1) := by decide +kernel
theorem dX0_slight_86 : decode cX0_slight 86 = .ok (.iastore, 1) := by decide +kernel
theorem dX0_slight_87 : decode cX0_slight 87 = .ok (.aload_n 0, 1) := by decide +kernel
theorem dX0_slight_88 : decode cX0_slight 88 = .ok (.getfield 23, 3) := by decide +kernel
theorem dX0_slight_91 : decode cX0_slight 91 = .ok (.iload 4, 2) := by decide +kernel
theorem dX0_slight_93 : decode cX0_slight 93 = .ok (.iload_n 3, 1) := by decide +kernel
theorem dX0_slight_94 : decode cX0_slight 94 = .ok (.iastore, 1) := by decide +kernel
theorem dX0_slight_95 : decode cX0_slight 95 = .ok (.aload_n 0, 1) := by decide +kernel
theorem dX0_slight_96 : decode cX0_slight 96 = .ok (.iload 4, 2) := by decide +kernel
theorem dX0_slight_98 : decode cX0_slight 98 = .ok (.iconst 1, 1) := by decide +kernel
theorem dX0_slight_99 : decode cX0_slight 99 = .ok (.iadd, 1) := by decide +kernel
theorem dX0_slight_100 : decode cX0_slight 100 = .ok (.putfield 60, 3) := by decide +kernel
theorem dX0_slight_103 : decode cX0_slight 103 = .ok (.iload 4, 2) := by decide +kernel
theorem dX0_slight_105 : decode cX0_slight 105 = .ok (.ireturn, 1) := by decide +kernel
set_option maxRecDepth 20000 in
theorem ggX0_mention_X0_requireSlight : GoodIn wsX0_mention wsX0_requireSlight := goodIn_ca (goodIn_r _ [6, 7, 8, 9, 30, 31, 32, 33, 34, 35, 36, 37, 38, 39, 40, 41] (by decide +kernel) (by decide +kernel)) (goodIn_sub (fun _ h => List.mem_cons_of_mem _ (List.mem_append_left _ (List.mem_append_right _ h))) (by decide +kernel))
set_option maxRecDepth 20000 in
theorem gX0_mention_X0_requireSlight : GoodIn wsX0_mention (wsV RX0 65 RX0 yX0_requireSlight wsX0_requireSlight) := goodIn_app (goodIn_of _ (by decide +kernel)) ggX0_mention_X0_requireSlight
set_option maxRecDepth 20000 in
theorem ggX0_mention_X0_requireOpen : GoodIn wsX0_mention wsX0_requireOpen := goodIn_ca (goodIn_ca (goodIn_r _ [13, 14, 15, 16, 17, 18, 5, 19, 20, 2, 3, 4, 6, 7, 8, 9, 30, 31, 32, 33, 34, 35, 36, 37, 38, 39, 40, 41] (by decide +kernel) (by decide +kernel)) (goodIn_sub (fun _ h => List.mem_cons_of_mem _ (List.mem_append_right _ h)) (by decide +kernel))) (goodIn_sub (fun _ h => List.mem_cons_of_mem _ (List.mem_append_left _ (List.mem_append_right _ h))) (by decide +kernel))
set_option maxRecDepth 20000 in
theorem gX0_mention_X0_requireOpen : GoodIn wsX0_mention (wsV RX0 68 RX0 yX0_requireOpen wsX0_requireOpen) := goodIn_app (goodIn_of _ (by decide +kernel)) ggX0_mention_X0_requireOpen
set_option maxRecDepth 20000 in
theorem ggX0_mention_X0_speakOf : GoodIn wsX0_mention wsX0_speakOf := goodIn_ca (goodIn_r _ [24, 1, 25, 26, 27, 28, 29, 2, 3, 4, 5, 6, 7, 8, 9, 30, 31, 32, 33, 34, 35, 36, 37, 38, 39, 40, 41] (by decide +kernel) (by decide +kernel)) (goodIn_sub (fun _ h => List.mem_cons_of_mem _ (List.mem_append_left _ (List.mem_append_right _ h))) (by decide +kernel))
set_option maxRecDepth 20000 in
theorem gX0_mention_X0_speakOf : GoodIn wsX0_mention (wsV RX0 71 RX0 yX0_speakOf wsX0_speakOf) := goodIn_app (goodIn_of _ (by decide +kernel)) ggX0_mention_X0_speakOf
theorem dX0_mention_0 : decode cX0_mention 0 = .ok (.aload_n 0, 1) := by decide +kernel
theorem dX0_mention_1 : decode cX0_mention 1 = .ok (.iload_n 1, 1) := by decide +kernel
theorem dX0_mention_2 : decode cX0_mention 2 = .ok (.invokevirtual 65, 3) := by decide +kernel
theorem dX0_mention_5 : decode cX0_mention 5 = .ok (.aload_n 0, 1) := by decide +kernel
theorem dX0_mention_6 : decode cX0_mention 6 = .ok (.iload_n 1, 1) := by decide +kernel
theorem dX0_mention_7 : decode cX0_mention 7 = .ok (.invokevirtual 68, 3) := by decide +kernel
theorem dX0_mention_10 : decode cX0_mention 10 = .ok (.aload_n 0, 1) := by decide +kernel
theorem dX0_mention_11 : decode cX0_mention 11 = .ok (.iload_n 1, 1) := by decide +kernel
theorem dX0_mention_12 : decode cX0_mention 12 = .ok (.invokevirtual 71, 3) := by decide +kernel
theorem dX0_mention_15 : decode cX0_mention 15 = .ok (.aload_n 0, 1) := by decide +kernel
theorem dX0_mention_16 : decode cX0_mention 16 = .ok (.getfield 23, 3) := by decide +kernel
theorem dX0_mention_19 : decode cX0_mention 19 = .ok (.iload_n 1, 1) := by decide +kernel
theorem dX0_mention_20 : decode cX0_mention 20 = .ok (.iaload, 1) := by decide +kernel
theorem dX0_mention_21 : decode cX0_mention 21 = .ok (.ireturn, 1) := by decide +kernel
set_option maxRecDepth 20000 in
theorem ggX0_apologize_X0_requireSlight : GoodIn wsX0_apologize wsX0_requireSlight := goodIn_ca (goodIn_r _ [7, 8, 9, 10, 80, 81, 82, 83, 84, 85, 86, 87, 88, 89, 90, 91] (by decide +kernel) (by decide +kernel)) (goodIn_sub (fun _ h => List.mem_cons_of_mem _ (List.mem_append_left _ (List.mem_append_left _ (List.mem_append_right _ h)))) (by decide +kernel))
set_option maxRecDepth 20000 in
theorem gX0_apologize_X0_requireSlight : GoodIn wsX0_apologize (wsV RX0 65 RX0 yX0_requireSlight wsX0_requireSlight) := goodIn_app (goodIn_of _ (by decide +kernel)) ggX0_apologize_X0_requireSlight
set_option maxRecDepth 20000 in
theorem ggX0_apologize_X0_requireWords : GoodIn wsX0_apologize wsX0_requireWords := goodIn_ca (goodIn_r _ [13, 14, 15] (by decide +kernel) (by decide +kernel)) (goodIn_sub (fun _ h => List.mem_cons_of_mem _ (List.mem_append_left _ (List.mem_append_right _ h))) (by decide +kernel))
set_option maxRecDepth 20000 in
theorem gX0_apologize_X0_requireWords : GoodIn wsX0_apologize (va_wsS RX0 74 yX0_requireWords wsX0_requireWords) := goodIn_app (goodIn_of _ (by decide +kernel)) ggX0_apologize_X0_requireWords
set_option maxRecDepth 20000 in
theorem ggX0_apologize_X0_requireOpen : GoodIn wsX0_apologize wsX0_requireOpen := goodIn_ca (goodIn_ca (goodIn_r _ [19, 20, 21, 22, 23, 24, 6, 25, 26, 3, 4, 5, 7, 8, 9, 10, 80, 81, 82, 83, 84, 85, 86, 87, 88, 89, 90, 91] (by decide +kernel) (by decide +kernel)) (goodIn_sub (fun _ h => List.mem_cons_of_mem _ (List.mem_append_right _ h)) (by decide +kernel))) (goodIn_sub (fun _ h => List.mem_cons_of_mem _ (List.mem_append_left _ (List.mem_append_left _ (List.mem_append_right _ h)))) (by decide +kernel))
set_option maxRecDepth 20000 in
theorem gX0_apologize_X0_requireOpen : GoodIn wsX0_apologize (wsV RX0 68 RX0 yX0_requireOpen wsX0_requireOpen) := goodIn_app (goodIn_of _ (by decide +kernel)) ggX0_apologize_X0_requireOpen
set_option maxRecDepth 20000 in
theorem ggX0_apologize_X0_worthOf : GoodIn wsX0_apologize wsX0_worthOf := goodIn_ca (goodIn_r _ [30, 31, 32, 33, 6, 34, 35, 36, 37, 38, 3, 4, 5, 7, 8, 9, 10, 80, 81, 82, 83, 84, 85, 86, 87, 88, 89, 90, 91] (by decide +kernel) (by decide +kernel)) (goodIn_sub (fun _ h => List.mem_cons_of_mem _ (List.mem_append_left _ (List.mem_append_left _ (List.mem_append_right _ h)))) (by decide +kernel))
set_option maxRecDepth 20000 in
theorem gX0_apologize_X0_worthOf : GoodIn wsX0_apologize (wsV RX0 77 RX0 yX0_worthOf wsX0_worthOf) := goodIn_app (goodIn_of _ (by decide +kernel)) ggX0_apologize_X0_worthOf
set_option maxRecDepth 20000 in
theorem ggX0_apologize_X0_leastWorthHeard : GoodIn wsX0_apologize wsX0_leastWorthHeard := goodIn_ca (goodIn_r _ [42, 43, 44, 45, 46, 47, 48, 49, 6, 50, 38, 3, 4, 5, 7, 8, 9, 10, 51, 52, 53, 54, 55, 56, 57, 58, 59, 35, 60, 61, 62, 63, 2, 80, 81, 82, 83, 84, 85, 86, 87, 88, 89, 90, 91] (by decide +kernel) (by decide +kernel)) (goodIn_sub (fun _ h => List.mem_cons_of_mem _ (List.mem_append_left _ (List.mem_append_left _ (List.mem_append_right _ h)))) (by decide +kernel))
set_option maxRecDepth 20000 in
theorem gX0_apologize_X0_leastWorthHeard : GoodIn wsX0_apologize (wsV RX0 81 RX0 yX0_leastWorthHeard wsX0_leastWorthHeard) := goodIn_app (goodIn_of _ (by decide +kernel)) ggX0_apologize_X0_leastWorthHeard
set_option maxRecDepth 20000 in
theorem ggX0_apologize_X0_speakOf : GoodIn wsX0_apologize wsX0_speakOf := goodIn_ca (goodIn_r _ [67, 2, 68, 69, 45, 70, 71, 3, 4, 5, 6, 7, 8, 9, 10, 80, 81, 82, 83, 84, 85, 86, 87, 88, 89, 90, 91] (by decide +kernel) (by decide +kernel)) (goodIn_sub (fun _ h => List.mem_cons_of_mem _ (List.mem_append_left _ (List.mem_append_left _ (List.mem_append_right _ h)))) (by decide +kernel))
set_option maxRecDepth 20000 in
theorem gX0_apologize_X0_speakOf : GoodIn wsX0_apologize (wsV RX0 71 RX0 yX0_speakOf wsX0_speakOf) := goodIn_app (goodIn_of _ (by decide +kernel)) ggX0_apologize_X0_speakOf
set_option maxRecDepth 20000 in
theorem ggX0_apologize_X0_lighten : GoodIn wsX0_apologize wsX0_lighten := goodIn_ca (goodIn_r _ [75, 2, 3, 4, 5, 6, 7, 8, 9, 10, 76, 77, 78, 79, 26, 80, 81, 82, 83, 84, 85, 86, 87, 88, 89, 90, 91] (by decide +kernel) (by decide +kernel)) (goodIn_sub (fun _ h => List.mem_cons_of_mem _ (List.mem_append_left _ (List.mem_append_left _ (List.mem_append_right _ h)))) (by decide +kernel))
set_option maxRecDepth 20000 in
theorem gX0_apologize_X0_lighten : GoodIn wsX0_apologize (wsV RX0 88 RX0 yX0_lighten wsX0_lighten) := goodIn_app (goodIn_of _ (by decide +kernel)) ggX0_apologize_X0_lighten
theorem dX0_apologize_0 : decode cX0_apologize 0 = .ok (.aload_n 0, 1) := by decide +kernel
theorem dX0_apologize_1 : decode cX0_apologize 1 = .ok (.iload_n 1, 1) := by decide +kernel
theorem dX0_apologize_2 : decode cX0_apologize 2 = .ok (.invokevirtual 65, 3) := by decide +kernel
theorem dX0_apologize_5 : decode cX0_apologize 5 = .ok (.iload_n 2, 1) := by decide +kernel
theorem dX0_apologize_6 : decode cX0_apologize 6 = .ok (.invokestatic 74, 3) := by decide +kernel
theorem dX0_apologize_9 : decode cX0_apologize 9 = .ok (.aload_n 0, 1) := by decide +kernel
theorem dX0_apologize_10 : decode cX0_apologize 10 = .ok (.iload_n 1, 1) := by decide +kernel
theorem dX0_apologize_11 : decode cX0_apologize 11 = .ok (.invokevirtual 68, 3) := by decide +kernel
theorem dX0_apologize_14 : decode cX0_apologize 14 = .ok (.aload_n 0, 1) := by decide +kernel
theorem dX0_apologize_15 : decode cX0_apologize 15 = .ok (.iload_n 1, 1) := by decide +kernel
theorem dX0_apologize_16 : decode cX0_apologize 16 = .ok (.iload_n 2, 1) := by decide +kernel
theorem dX0_apologize_17 : decode cX0_apologize 17 = .ok (.invokevirtual 77, 3) := by decide +kernel
theorem dX0_apologize_20 : decode cX0_apologize 20 = .ok (.istore_n 3, 1) := by decide +kernel
theorem dX0_apologize_21 : decode cX0_apologize 21 = .ok (.iload_n 3, 1) := by decide +kernel
theorem dX0_apologize_22 : decode cX0_apologize 22 = .ok (.aload_n 0, 1) := by decide +kernel
theorem dX0_apologize_23 : decode cX0_apologize 23 = .ok (.iload_n 1, 1) := by decide +kernel
theorem dX0_apologize_24 : decode cX0_apologize 24 = .ok (.invokevirtual 81, 3) := by decide +kernel
theorem dX0_apologize_27 : decode cX0_apologize 27 = .ok (.if_icmp .ge 21, 3) := by decide +kernel
theorem dX0_apologize_30 : decode cX0_apologize 30 = .ok (.aload_n 0, 1) := by decide +kernel
theorem dX0_apologize_31 : decode cX0_apologize 31 = .ok (.dup, 1) := by decide +kernel
theorem dX0_apologize_32 : decode cX0_apologize 32 = .ok (.getfield 85, 3) := by decide +kernel
theorem dX0_apologize_35 : decode cX0_apologize 35 = .ok (.iconst 1, 1) := by decide +kernel
theorem dX0_apologize_36 : decode cX0_apologize 36 = .ok (.iadd, 1) := by decide +kernel
theorem dX0_apologize_37 : decode cX0_apologize 37 = .ok (.putfield 85, 3) := by decide +kernel
theorem dX0_apologize_40 : decode cX0_apologize 40 = .ok (.aload_n 0, 1) := by decide +kernel
theorem dX0_apologize_41 : decode cX0_apologize 41 = .ok (.iload_n 1, 1) := by decide +kernel
theorem dX0_apologize_42 : decode cX0_apologize 42 = .ok (.invokevirtual 71, 3) := by decide +kernel
theorem dX0_apologize_45 : decode cX0_apologize 45 = .ok (.goto 10, 3) := by decide +kernel
theorem dX0_apologize_48 : decode cX0_apologize 48 = .ok (.aload_n 0, 1) := by decide +kernel
theorem dX0_apologize_49 : decode cX0_apologize 49 = .ok (.iload_n 1, 1) := by decide +kernel
theorem dX0_apologize_50 : decode cX0_apologize 50 = .ok (.iload_n 3, 1) := by decide +kernel
theorem dX0_apologize_51 : decode cX0_apologize 51 = .ok (.iconst 1, 1) := by decide +kernel
theorem dX0_apologize_52 : decode cX0_apologize 52 = .ok (.invokevirtual 88, 3) := by decide +kernel
theorem dX0_apologize_55 : decode cX0_apologize 55 = .ok (.aload_n 0, 1) := by decide +kernel
theorem dX0_apologize_56 : decode cX0_apologize 56 = .ok (.getfield 23, 3) := by decide +kernel
theorem dX0_apologize_59 : decode cX0_apologize 59 = .ok (.iload_n 1, 1) := by decide +kernel
theorem dX0_apologize_60 : decode cX0_apologize 60 = .ok (.iaload, 1) := by decide +kernel
theorem dX0_apologize_61 : decode cX0_apologize 61 = .ok (.ireturn, 1) := by decide +kernel
set_option maxRecDepth 20000 in
theorem ggX0_setOff_X0_requireSlight : GoodIn wsX0_setOff wsX0_requireSlight := goodIn_ca (goodIn_r _ [12, 13, 14, 15, 47, 48, 49, 50, 51, 52, 53, 54, 55, 56, 57, 58] (by decide +kernel) (by decide +kernel)) (goodIn_sub (fun _ h => List.mem_cons_of_mem _ (List.mem_append_right _ h)) (by decide +kernel))
set_option maxRecDepth 20000 in
theorem gX0_setOff_X0_requireSlight : GoodIn wsX0_setOff (wsV RX0 65 RX0 yX0_requireSlight wsX0_requireSlight) := goodIn_app (goodIn_of _ (by decide +kernel)) ggX0_setOff_X0_requireSlight
set_option maxRecDepth 20000 in
theorem ggX0_setOff_X0_requireOpen : GoodIn wsX0_setOff wsX0_requireOpen := goodIn_ca (goodIn_ca (goodIn_r _ [19, 1, 2, 20, 21, 22, 11, 23, 24, 8, 9, 10, 12, 13, 14, 15, 47, 48, 49, 50, 51, 52, 53, 54, 55, 56, 57, 58] (by decide +kernel) (by decide +kernel)) (goodIn_sub (fun _ h => List.mem_cons_of_mem _ (List.mem_append_left _ (List.mem_append_right _ h))) (by decide +kernel))) (goodIn_sub (fun _ h => List.mem_cons_of_mem _ (List.mem_append_right _ h)) (by decide +kernel))
set_option maxRecDepth 20000 in
theorem gX0_setOff_X0_requireOpen : GoodIn wsX0_setOff (wsV RX0 68 RX0 yX0_requireOpen wsX0_requireOpen) := goodIn_app (goodIn_of _ (by decide +kernel)) ggX0_setOff_X0_requireOpen
set_option maxRecDepth 20000 in
theorem ggX0_setOff_X0_areAgainstEachOther : GoodIn wsX0_setOff wsX0_areAgainstEachOther := goodIn_ca (goodIn_r _ [28, 29, 30, 31, 11, 32, 33, 8, 9, 10, 12, 13, 14, 15, 34, 35, 36, 37, 38, 47, 48, 49, 50, 51, 52, 53, 54, 55, 56, 57, 58] (by decide +kernel) (by decide +kernel)) (goodIn_sub (fun _ h => List.mem_cons_of_mem _ (List.mem_append_right _ h)) (by decide +kernel))
set_option maxRecDepth 20000 in
theorem gX0_setOff_X0_areAgainstEachOther : GoodIn wsX0_setOff (wsV RX0 92 RX0 yX0_areAgainstEachOther wsX0_areAgainstEachOther) := goodIn_app (goodIn_of _ (by decide +kernel)) ggX0_setOff_X0_areAgainstEachOther
set_option maxRecDepth 20000 in
theorem ggX0_setOff_X0_lighten : GoodIn wsX0_setOff wsX0_lighten := goodIn_ca (goodIn_r _ [42, 3, 8, 9, 10, 11, 12, 13, 14, 15, 43, 44, 45, 46, 24, 47, 48, 49, 50, 51, 52, 53, 54, 55, 56, 57, 58] (by decide +kernel) (by decide +kernel)) (goodIn_sub (fun _ h => List.mem_cons_of_mem _ (List.mem_append_right _ h)) (by decide +kernel))
set_option maxRecDepth 20000 in
theorem gX0_setOff_X0_lighten : GoodIn wsX0_setOff (wsV RX0 88 RX0 yX0_lighten wsX0_lighten) := goodIn_app (goodIn_of _ (by decide +kernel)) ggX0_setOff_X0_lighten
theorem dX0_setOff_0 : decode cX0_setOff 0 = .ok (.aload_n 0, 1) := by decide +kernel
theorem dX0_setOff_1 : decode cX0_setOff 1 = .ok (.iload_n 1, 1) := by decide +kernel
theorem dX0_setOff_2 : decode cX0_setOff 2 = .ok (.invokevirtual 65, 3) := by decide +kernel
theorem dX0_setOff_5 : decode cX0_setOff 5 = .ok (.aload_n 0, 1) := by decide +kernel
theorem dX0_setOff_6 : decode cX0_setOff 6 = .ok (.iload_n 2, 1) := by decide +kernel
theorem dX0_setOff_7 : decode cX0_setOff 7 = .ok (.invokevirtual 65, 3) := by decide +kernel
theorem dX0_setOff_10 : decode cX0_setOff 10 = .ok (.aload_n 0, 1) := by decide +kernel
theorem dX0_setOff_11 : decode cX0_setOff 11 = .ok (.iload_n 1, 1) := by decide +kernel
theorem dX0_setOff_12 : decode cX0_setOff 12 = .ok (.invokevirtual 68, 3) := by decide +kernel
theorem dX0_setOff_15 : decode cX0_setOff 15 = .ok (.aload_n 0, 1) := by decide +kernel
theorem dX0_setOff_16 : decode cX0_setOff 16 = .ok (.iload_n 2, 1) := by decide +kernel
theorem dX0_setOff_17 : decode cX0_setOff 17 = .ok (.invokevirtual 68, 3) := by decide +kernel
theorem dX0_setOff_20 : decode cX0_setOff 20 = .ok (.aload_n 0, 1) := by decide +kernel
theorem dX0_setOff_21 : decode cX0_setOff 21 = .ok (.iload_n 1, 1) := by decide +kernel
theorem dX0_setOff_22 : decode cX0_setOff 22 = .ok (.iload_n 2, 1) := by decide +kernel
theorem dX0_setOff_23 : decode cX0_setOff 23 = .ok (.invokevirtual 92, 3) := by decide +kernel
theorem dX0_setOff_26 : decode cX0_setOff 26 = .ok (.ifCond .ne 13, 3) := by decide +kernel
theorem dX0_setOff_29 : decode cX0_setOff 29 = .ok (.new 43, 3) := by decide +kernel
theorem dX0_setOff_32 : decode cX0_setOff 32 = .ok (.dup, 1) := by decide +kernel
theorem dX0_setOff_33 : decode cX0_setOff 33 = .ok (.ldc 96, 2) := by decide +kernel
theorem dX0_setOff_35 : decode cX0_setOff 35 = .ok (.invokespecial 47, 3) := by decide +kernel
theorem dX0_setOff_38 : decode cX0_setOff 38 = .ok (.athrow, 1) := by decide +kernel
theorem dX0_setOff_39 : decode cX0_setOff 39 = .ok (.aload_n 0, 1) := by decide +kernel
theorem dX0_setOff_40 : decode cX0_setOff 40 = .ok (.getfield 23, 3) := by decide +kernel
theorem dX0_setOff_43 : decode cX0_setOff 43 = .ok (.iload_n 1, 1) := by decide +kernel
theorem dX0_setOff_44 : decode cX0_setOff 44 = .ok (.iaload, 1) := by decide +kernel
theorem dX0_setOff_45 : decode cX0_setOff 45 = .ok (.aload_n 0, 1) := by decide +kernel
theorem dX0_setOff_46 : decode cX0_setOff 46 = .ok (.getfield 23, 3) := by decide +kernel
theorem dX0_setOff_49 : decode cX0_setOff 49 = .ok (.iload_n 2, 1) := by decide +kernel
theorem dX0_setOff_50 : decode cX0_setOff 50 = .ok (.iaload, 1) := by decide +kernel
theorem dX0_setOff_51 : decode cX0_setOff 51 = .ok (.invokestatic 98, 3) := by decide +kernel
theorem dX0_setOff_54 : decode cX0_setOff 54 = .ok (.istore_n 3, 1) := by decide +kernel
theorem dX0_setOff_55 : decode cX0_setOff 55 = .ok (.aload_n 0, 1) := by decide +kernel
theorem dX0_setOff_56 : decode cX0_setOff 56 = .ok (.iload_n 1, 1) := by decide +kernel
theorem dX0_setOff_57 : decode cX0_setOff 57 = .ok (.iload_n 3, 1) := by decide +kernel
theorem dX0_setOff_58 : decode cX0_setOff 58 = .ok (.iconst 3, 1) := by decide +kernel
theorem dX0_setOff_59 : decode cX0_setOff 59 = .ok (.invokevirtual 88, 3) := by decide +kernel
theorem dX0_setOff_62 : decode cX0_setOff 62 = .ok (.aload_n 0, 1) := by decide +kernel
theorem dX0_setOff_63 : decode cX0_setOff 63 = .ok (.iload_n 2, 1) := by decide +kernel
theorem dX0_setOff_64 : decode cX0_setOff 64 = .ok (.iload_n 3, 1) := by decide +kernel
theorem dX0_setOff_65 : decode cX0_setOff 65 = .ok (.iconst 3, 1) := by decide +kernel
theorem dX0_setOff_66 : decode cX0_setOff 66 = .ok (.invokevirtual 88, 3) := by decide +kernel
theorem dX0_setOff_69 : decode cX0_setOff 69 = .ok (.iload_n 3, 1) := by decide +kernel
theorem dX0_setOff_70 : decode cX0_setOff 70 = .ok (.ireturn, 1) := by decide +kernel
set_option maxRecDepth 20000 in
theorem ggX0_setPride_X0_requirePerson : GoodIn wsX0_setPride wsX0_requirePerson := goodIn_ca (goodIn_r _ [6, 7, 8, 9, 15, 16, 17, 18, 19, 20, 21, 22, 23, 24, 25, 26] (by decide +kernel) (by decide +kernel)) (goodIn_sub (fun _ h => List.mem_cons_of_mem _ (List.mem_append_left _ (List.mem_append_right _ h))) (by decide +kernel))
set_option maxRecDepth 20000 in
theorem gX0_setPride_X0_requirePerson : GoodIn wsX0_setPride (wsV RX0 50 RX0 yX0_requirePerson wsX0_requirePerson) := goodIn_app (goodIn_of _ (by decide +kernel)) ggX0_setPride_X0_requirePerson
set_option maxRecDepth 20000 in
theorem ggX0_setPride_X0_requirePride : GoodIn wsX0_setPride wsX0_requirePride := goodIn_ca (goodIn_r _ [12, 13, 14] (by decide +kernel) (by decide +kernel)) (goodIn_sub (fun _ h => List.mem_cons_of_mem _ (List.mem_append_right _ h)) (by decide +kernel))
set_option maxRecDepth 20000 in
theorem gX0_setPride_X0_requirePride : GoodIn wsX0_setPride (va_wsS RX0 35 yX0_requirePride wsX0_requirePride) := goodIn_app (goodIn_of _ (by decide +kernel)) ggX0_setPride_X0_requirePride
theorem dX0_setPride_0 : decode cX0_setPride 0 = .ok (.aload_n 0, 1) := by decide +kernel
theorem dX0_setPride_1 : decode cX0_setPride 1 = .ok (.iload_n 1, 1) := by decide +kernel
theorem dX0_setPride_2 : decode cX0_setPride 2 = .ok (.invokevirtual 50, 3) := by decide +kernel
theorem dX0_setPride_5 : decode cX0_setPride 5 = .ok (.iload_n 2, 1) := by decide +kernel
theorem dX0_setPride_6 : decode cX0_setPride 6 = .ok (.invokestatic 35, 3) := by decide +kernel
theorem dX0_setPride_9 : decode cX0_setPride 9 = .ok (.aload_n 0, 1) := by decide +kernel
theorem dX0_setPride_10 : decode cX0_setPride 10 = .ok (.getfield 9, 3) := by decide +kernel
theorem dX0_setPride_13 : decode cX0_setPride 13 = .ok (.iload_n 1, 1) := by decide +kernel
theorem dX0_setPride_14 : decode cX0_setPride 14 = .ok (.iaload, 1) := by decide +kernel
theorem dX0_setPride_15 : decode cX0_setPride 15 = .ok (.istore_n 3, 1) := by decide +kernel
theorem dX0_setPride_16 : decode cX0_setPride 16 = .ok (.aload_n 0, 1) := by decide +kernel
theorem dX0_setPride_17 : decode cX0_setPride 17 = .ok (.getfield 9, 3) := by decide +kernel
theorem dX0_setPride_20 : decode cX0_setPride 20 = .ok (.iload_n 1, 1) := by decide +kernel
theorem dX0_setPride_21 : decode cX0_setPride 21 = .ok (.iload_n 2, 1) := by decide +kernel
theorem dX0_setPride_22 : decode cX0_setPride 22 = .ok (.iastore, 1) := by decide +kernel
theorem dX0_setPride_23 : decode cX0_setPride 23 = .ok (.iload_n 3, 1) := by decide +kernel
theorem dX0_setPride_24 : decode cX0_setPride 24 = .ok (.ireturn, 1) := by decide +kernel
set_option maxRecDepth 20000 in
theorem ggX0_pass_X0_requireDays : GoodIn wsX0_pass wsX0_requireDays := goodIn_ca (goodIn_r _ [4, 5, 6] (by decide +kernel) (by decide +kernel)) (goodIn_sub (fun _ h => List.mem_cons_of_mem _ (List.mem_append_left _ (List.mem_append_right _ h))) (by decide +kernel))
set_option maxRecDepth 20000 in
theorem gX0_pass_X0_requireDays : GoodIn wsX0_pass (va_wsS RX0 103 yX0_requireDays wsX0_requireDays) := goodIn_app (goodIn_of _ (by decide +kernel)) ggX0_pass_X0_requireDays
set_option maxRecDepth 20000 in
theorem ggX0_pass_X0_passOneDay : GoodIn wsX0_pass wsX0_passOneDay := goodIn_ca (goodIn_r _ [10, 11, 12, 13, 14, 15, 16, 3, 17, 18, 19, 20, 21, 22, 23, 24, 25, 26, 27, 28, 29, 30, 31, 32, 33, 34, 35, 36, 37, 38, 39, 40, 41, 42, 43, 44, 45, 46, 47, 48, 49, 50, 51, 52] (by decide +kernel) (by decide +kernel)) (goodIn_sub (fun _ h => List.mem_cons_of_mem _ (List.mem_append_right _ h)) (by decide +kernel))
set_option maxRecDepth 20000 in
theorem gX0_pass_X0_passOneDay : GoodIn wsX0_pass (wsV RX0 106 RX0 yX0_passOneDay wsX0_passOneDay) := goodIn_app (goodIn_of _ (by decide +kernel)) ggX0_pass_X0_passOneDay
theorem dX0_pass_0 : decode cX0_pass 0 = .ok (.iload_n 1, 1) := by decide +kernel
theorem dX0_pass_1 : decode cX0_pass 1 = .ok (.invokestatic 103, 3) := by decide +kernel
theorem dX0_pass_4 : decode cX0_pass 4 = .ok (.iconst 0, 1) := by decide +kernel
theorem dX0_pass_5 : decode cX0_pass 5 = .ok (.istore_n 2, 1) := by decide +kernel
theorem dX0_pass_6 : decode cX0_pass 6 = .ok (.iconst 0, 1) := by decide +kernel
theorem dX0_pass_7 : decode cX0_pass 7 = .ok (.istore_n 3, 1) := by decide +kernel
theorem dX0_pass_8 : decode cX0_pass 8 = .ok (.iload_n 3, 1) := by decide +kernel
theorem dX0_pass_9 : decode cX0_pass 9 = .ok (.iload_n 1, 1) := by decide +kernel
theorem dX0_pass_10 : decode cX0_pass 10 = .ok (.if_icmp .ge 16, 3) := by decide +kernel
theorem dX0_pass_13 : decode cX0_pass 13 = .ok (.iload_n 2, 1) := by decide +kernel
theorem dX0_pass_14 : decode cX0_pass 14 = .ok (.aload_n 0, 1) := by decide +kernel
theorem dX0_pass_15 : decode cX0_pass 15 = .ok (.invokevirtual 106, 3) := by decide +kernel
theorem dX0_pass_18 : decode cX0_pass 18 = .ok (.iadd, 1) := by decide +kernel
theorem dX0_pass_19 : decode cX0_pass 19 = .ok (.istore_n 2, 1) := by decide +kernel
theorem dX0_pass_20 : decode cX0_pass 20 = .ok (.iinc 3 1, 3) := by decide +kernel
theorem dX0_pass_23 : decode cX0_pass 23 = .ok (.goto (-15), 3) := by decide +kernel
theorem dX0_pass_26 : decode cX0_pass 26 = .ok (.iload_n 2, 1) := by decide +kernel
theorem dX0_pass_27 : decode cX0_pass 27 = .ok (.ireturn, 1) := by decide +kernel
theorem dX0_day_0 : decode cX0_day 0 = .ok (.aload_n 0, 1) := by decide +kernel
theorem dX0_day_1 : decode cX0_day 1 = .ok (.getfield 110, 3) := by decide +kernel
theorem dX0_day_4 : decode cX0_day 4 = .ok (.ireturn, 1) := by decide +kernel
theorem dX0_persons_0 : decode cX0_persons 0 = .ok (.aload_n 0, 1) := by decide +kernel
theorem dX0_persons_1 : decode cX0_persons 1 = .ok (.getfield 39, 3) := by decide +kernel
theorem dX0_persons_4 : decode cX0_persons 4 = .ok (.ireturn, 1) := by decide +kernel
theorem dX0_slights_0 : decode cX0_slights 0 = .ok (.aload_n 0, 1) := by decide +kernel
theorem dX0_slights_1 : decode cX0_slights 1 = .ok (.getfield 60, 3) := by decide +kernel
theorem dX0_slights_4 : decode cX0_slights 4 = .ok (.ireturn, 1) := by decide +kernel
theorem dX0_inHall_0 : decode cX0_inHall 0 = .ok (.iconst 0, 1) := by decide +kernel
theorem dX0_inHall_1 : decode cX0_inHall 1 = .ok (.istore_n 1, 1) := by decide +kernel
theorem dX0_inHall_2 : decode cX0_inHall 2 = .ok (.iconst 0, 1) := by decide +kernel
theorem dX0_inHall_3 : decode cX0_inHall 3 = .ok (.istore_n 2, 1) := by decide +kernel
theorem dX0_inHall_4 : decode cX0_inHall 4 = .ok (.iload_n 2, 1) := by decide +kernel
theorem dX0_inHall_5 : decode cX0_inHall 5 = .ok (.aload_n 0, 1) := by decide +kernel
theorem dX0_inHall_6 : decode cX0_inHall 6 = .ok (.getfield 39, 3) := by decide +kernel
theorem dX0_inHall_9 : decode cX0_inHall 9 = .ok (.if_icmp .ge 21, 3) := by decide +kernel
theorem dX0_inHall_12 : decode cX0_inHall 12 = .ok (.aload_n 0, 1) := by decide +kernel
theorem dX0_inHall_13 : decode cX0_inHall 13 = .ok (.getfield 13, 3) := by decide +kernel
theorem dX0_inHall_16 : decode cX0_inHall 16 = .ok (.iload_n 2, 1) := by decide +kernel
theorem dX0_inHall_17 : decode cX0_inHall 17 = .ok (.baload, 1) := by decide +kernel
theorem dX0_inHall_18 : decode cX0_inHall 18 = .ok (.ifCond .eq 6, 3) := by decide +kernel
theorem dX0_inHall_21 : decode cX0_inHall 21 = .ok (.iinc 1 1, 3) := by decide +kernel
theorem dX0_inHall_24 : decode cX0_inHall 24 = .ok (.iinc 2 1, 3) := by decide +kernel
theorem dX0_inHall_27 : decode cX0_inHall 27 = .ok (.goto (-23), 3) := by decide +kernel
theorem dX0_inHall_30 : decode cX0_inHall 30 = .ok (.iload_n 1, 1) := by decide +kernel
theorem dX0_inHall_31 : decode cX0_inHall 31 = .ok (.ireturn, 1) := by decide +kernel
theorem dX0_scorned_0 : decode cX0_scorned 0 = .ok (.aload_n 0, 1) := by decide +kernel
theorem dX0_scorned_1 : decode cX0_scorned 1 = .ok (.getfield 85, 3) := by decide +kernel
theorem dX0_scorned_4 : decode cX0_scorned 4 = .ok (.ireturn, 1) := by decide +kernel
set_option maxRecDepth 20000 in
theorem ggX0_isInHall_X0_requirePerson : GoodIn wsX0_isInHall wsX0_requirePerson := goodIn_ca (goodIn_r _ [6, 7, 8, 9, 10, 11, 12, 13, 14, 15, 16, 17, 18, 19, 20, 21] (by decide +kernel) (by decide +kernel)) (goodIn_sub (fun _ h => List.mem_cons_of_mem _ (List.mem_append_right _ h)) (by decide +kernel))
set_option maxRecDepth 20000 in
theorem gX0_isInHall_X0_requirePerson : GoodIn wsX0_isInHall (wsV RX0 50 RX0 yX0_requirePerson wsX0_requirePerson) := goodIn_app (goodIn_of _ (by decide +kernel)) ggX0_isInHall_X0_requirePerson
theorem dX0_isInHall_0 : decode cX0_isInHall 0 = .ok (.aload_n 0, 1) := by decide +kernel
theorem dX0_isInHall_1 : decode cX0_isInHall 1 = .ok (.iload_n 1, 1) := by decide +kernel
theorem dX0_isInHall_2 : decode cX0_isInHall 2 = .ok (.invokevirtual 50, 3) := by decide +kernel
theorem dX0_isInHall_5 : decode cX0_isInHall 5 = .ok (.aload_n 0, 1) := by decide +kernel
theorem dX0_isInHall_6 : decode cX0_isInHall 6 = .ok (.getfield 13, 3) := by decide +kernel
theorem dX0_isInHall_9 : decode cX0_isInHall 9 = .ok (.iload_n 1, 1) := by decide +kernel
theorem dX0_isInHall_10 : decode cX0_isInHall 10 = .ok (.baload, 1) := by decide +kernel
theorem dX0_isInHall_11 : decode cX0_isInHall 11 = .ok (.ireturn, 1) := by decide +kernel
set_option maxRecDepth 20000 in
theorem ggX0_prideOf_X0_requirePerson : GoodIn wsX0_prideOf wsX0_requirePerson := goodIn_ca (goodIn_r _ [6, 7, 8, 9, 10, 11, 12, 13, 14, 15, 16, 17, 18, 19, 20, 21] (by decide +kernel) (by decide +kernel)) (goodIn_sub (fun _ h => List.mem_cons_of_mem _ (List.mem_append_right _ h)) (by decide +kernel))
set_option maxRecDepth 20000 in
theorem gX0_prideOf_X0_requirePerson : GoodIn wsX0_prideOf (wsV RX0 50 RX0 yX0_requirePerson wsX0_requirePerson) := goodIn_app (goodIn_of _ (by decide +kernel)) ggX0_prideOf_X0_requirePerson
theorem dX0_prideOf_0 : decode cX0_prideOf 0 = .ok (.aload_n 0, 1) := by decide +kernel
theorem dX0_prideOf_1 : decode cX0_prideOf 1 = .ok (.iload_n 1, 1) := by decide +kernel
theorem dX0_prideOf_2 : decode cX0_prideOf 2 = .ok (.invokevirtual 50, 3) := by decide +kernel
theorem dX0_prideOf_5 : decode cX0_prideOf 5 = .ok (.aload_n 0, 1) := by decide +kernel
theorem dX0_prideOf_6 : decode cX0_prideOf 6 = .ok (.getfield 9, 3) := by decide +kernel
theorem dX0_prideOf_9 : decode cX0_prideOf 9 = .ok (.iload_n 1, 1) := by decide +kernel
theorem dX0_prideOf_10 : decode cX0_prideOf 10 = .ok (.iaload, 1) := by decide +kernel
theorem dX0_prideOf_11 : decode cX0_prideOf 11 = .ok (.ireturn, 1) := by decide +kernel
set_option maxRecDepth 20000 in
theorem ggX0_borneBy_X0_requirePerson : GoodIn wsX0_borneBy wsX0_requirePerson := goodIn_ca (goodIn_r _ [9, 10, 11, 12, 13, 14, 15, 16, 17, 18, 19, 20, 21, 22, 23, 24] (by decide +kernel) (by decide +kernel)) (goodIn_sub (fun _ h => List.mem_cons_of_mem _ (List.mem_append_right _ h)) (by decide +kernel))
set_option maxRecDepth 20000 in
theorem gX0_borneBy_X0_requirePerson : GoodIn wsX0_borneBy (wsV RX0 50 RX0 yX0_requirePerson wsX0_requirePerson) := goodIn_app (goodIn_of _ (by decide +kernel)) ggX0_borneBy_X0_requirePerson
theorem dX0_borneBy_0 : decode cX0_borneBy 0 = .ok (.aload_n 0, 1) := by decide +kernel
theorem dX0_borneBy_1 : decode cX0_borneBy 1 = .ok (.iload_n 1, 1) := by decide +kernel
theorem dX0_borneBy_2 : decode cX0_borneBy 2 = .ok (.invokevirtual 50, 3) := by decide +kernel
theorem dX0_borneBy_5 : decode cX0_borneBy 5 = .ok (.iconst 0, 1) := by decide +kernel
theorem dX0_borneBy_6 : decode cX0_borneBy 6 = .ok (.istore_n 2, 1) := by decide +kernel
theorem dX0_borneBy_7 : decode cX0_borneBy 7 = .ok (.iconst 0, 1) := by decide +kernel
theorem dX0_borneBy_8 : decode cX0_borneBy 8 = .ok (.istore_n 3, 1) := by decide +kernel
theorem dX0_borneBy_9 : decode cX0_borneBy 9 = .ok (.iload_n 3, 1) := by decide +kernel
theorem dX0_borneBy_10 : decode cX0_borneBy 10 = .ok (.aload_n 0, 1) := by decide +kernel
theorem dX0_borneBy_11 : decode cX0_borneBy 11 = .ok (.getfield 60, 3) := by decide +kernel
theorem dX0_borneBy_14 : decode cX0_borneBy 14 = .ok (.if_icmp .ge 37, 3) := by decide +kernel
theorem dX0_borneBy_17 : decode cX0_borneBy 17 = .ok (.aload_n 0, 1) := by decide +kernel
theorem dX0_borneBy_18 : decode cX0_borneBy 18 = .ok (.getfield 26, 3) := by decide +kernel
theorem dX0_borneBy_21 : decode cX0_borneBy 21 = .ok (.iload_n 3, 1) := by decide +kernel
theorem dX0_borneBy_22 : decode cX0_borneBy 22 = .ok (.iaload, 1) := by decide +kernel
theorem dX0_borneBy_23 : decode cX0_borneBy 23 = .ok (.ifCond .ne 22, 3) := by decide +kernel
theorem dX0_borneBy_26 : decode cX0_borneBy 26 = .ok (.aload_n 0, 1) := by decide +kernel
theorem dX0_borneBy_27 : decode cX0_borneBy 27 = .ok (.getfield 20, 3) := by decide +kernel
theorem dX0_borneBy_30 : decode cX0_borneBy 30 = .ok (.iload_n 3, 1) := by decide +kernel
theorem dX0_borneBy_31 : decode cX0_borneBy 31 = .ok (.iaload, 1) := by decide +kernel
theorem dX0_borneBy_32 : decode cX0_borneBy 32 = .ok (.iload_n 1, 1) := by decide +kernel
theorem dX0_borneBy_33 : decode cX0_borneBy 33 = .ok (.if_icmp .ne 12, 3) := by decide +kernel
theorem dX0_borneBy_36 : decode cX0_borneBy 36 = .ok (.iload_n 2, 1) := by decide +kernel
theorem dX0_borneBy_37 : decode cX0_borneBy 37 = .ok (.aload_n 0, 1) := by decide +kernel
theorem dX0_borneBy_38 : decode cX0_borneBy 38 = .ok (.getfield 23, 3) := by decide +kernel
theorem dX0_borneBy_41 : decode cX0_borneBy 41 = .ok (.iload_n 3, 1) := by decide +kernel
theorem dX0_borneBy_42 : decode cX0_borneBy 42 = .ok (.iaload, 1) := by decide +kernel
theorem dX0_borneBy_43 : decode cX0_borneBy 43 = .ok (.iadd, 1) := by decide +kernel
theorem dX0_borneBy_44 : decode cX0_borneBy 44 = .ok (.istore_n 2, 1) := by decide +kernel
theorem dX0_borneBy_45 : decode cX0_borneBy 45 = .ok (.iinc 3 1, 3) := by decide +kernel
theorem dX0_borneBy_48 : decode cX0_borneBy 48 = .ok (.goto (-39), 3) := by decide +kernel
theorem dX0_borneBy_51 : decode cX0_borneBy 51 = .ok (.iload_n 2, 1) := by decide +kernel
theorem dX0_borneBy_52 : decode cX0_borneBy 52 = .ok (.ireturn, 1) := by decide +kernel
set_option maxRecDepth 20000 in
theorem ggX0_owedBy_X0_requirePerson : GoodIn wsX0_owedBy wsX0_requirePerson := goodIn_ca (goodIn_r _ [9, 10, 11, 12, 13, 14, 15, 16, 17, 18, 19, 20, 21, 22, 23, 24] (by decide +kernel) (by decide +kernel)) (goodIn_sub (fun _ h => List.mem_cons_of_mem _ (List.mem_append_right _ h)) (by decide +kernel))
set_option maxRecDepth 20000 in
theorem gX0_owedBy_X0_requirePerson : GoodIn wsX0_owedBy (wsV RX0 50 RX0 yX0_requirePerson wsX0_requirePerson) := goodIn_app (goodIn_of _ (by decide +kernel)) ggX0_owedBy_X0_requirePerson
theorem dX0_owedBy_0 : decode cX0_owedBy 0 = .ok (.aload_n 0, 1) := by decide +kernel
theorem dX0_owedBy_1 : decode cX0_owedBy 1 = .ok (.iload_n 1, 1) := by decide +kernel
theorem dX0_owedBy_2 : decode cX0_owedBy 2 = .ok (.invokevirtual 50, 3) := by decide +kernel
theorem dX0_owedBy_5 : decode cX0_owedBy 5 = .ok (.iconst 0, 1) := by decide +kernel
theorem dX0_owedBy_6 : decode cX0_owedBy 6 = .ok (.istore_n 2, 1) := by decide +kernel
theorem dX0_owedBy_7 : decode cX0_owedBy 7 = .ok (.iconst 0, 1) := by decide +kernel
theorem dX0_owedBy_8 : decode cX0_owedBy 8 = .ok (.istore_n 3, 1) := by decide +kernel
theorem dX0_owedBy_9 : decode cX0_owedBy 9 = .ok (.iload_n 3, 1) := by decide +kernel
theorem dX0_owedBy_10 : decode cX0_owedBy 10 = .ok (.aload_n 0, 1) := by decide +kernel
theorem dX0_owedBy_11 : decode cX0_owedBy 11 = .ok (.getfield 60, 3) := by decide +kernel
theorem dX0_owedBy_14 : decode cX0_owedBy 14 = .ok (.if_icmp .ge 37, 3) := by decide +kernel
theorem dX0_owedBy_17 : decode cX0_owedBy 17 = .ok (.aload_n 0, 1) := by decide +kernel
theorem dX0_owedBy_18 : decode cX0_owedBy 18 = .ok (.getfield 26, 3) := by decide +kernel
theorem dX0_owedBy_21 : decode cX0_owedBy 21 = .ok (.iload_n 3, 1) := by decide +kernel
theorem dX0_owedBy_22 : decode cX0_owedBy 22 = .ok (.iaload, 1) := by decide +kernel
theorem dX0_owedBy_23 : decode cX0_owedBy 23 = .ok (.ifCond .ne 22, 3) := by decide +kernel
theorem dX0_owedBy_26 : decode cX0_owedBy 26 = .ok (.aload_n 0, 1) := by decide +kernel
theorem dX0_owedBy_27 : decode cX0_owedBy 27 = .ok (.getfield 17, 3) := by decide +kernel
theorem dX0_owedBy_30 : decode cX0_owedBy 30 = .ok (.iload_n 3, 1) := by decide +kernel
theorem dX0_owedBy_31 : decode cX0_owedBy 31 = .ok (.iaload, 1) := by decide +kernel
theorem dX0_owedBy_32 : decode cX0_owedBy 32 = .ok (.iload_n 1, 1) := by decide +kernel
theorem dX0_owedBy_33 : decode cX0_owedBy 33 = .ok (.if_icmp .ne 12, 3) := by decide +kernel
theorem dX0_owedBy_36 : decode cX0_owedBy 36 = .ok (.iload_n 2, 1) := by decide +kernel
theorem dX0_owedBy_37 : decode cX0_owedBy 37 = .ok (.aload_n 0, 1) := by decide +kernel
theorem dX0_owedBy_38 : decode cX0_owedBy 38 = .ok (.getfield 23, 3) := by decide +kernel
theorem dX0_owedBy_41 : decode cX0_owedBy 41 = .ok (.iload_n 3, 1) := by decide +kernel
theorem dX0_owedBy_42 : decode cX0_owedBy 42 = .ok (.iaload, 1) := by decide +kernel
theorem dX0_owedBy_43 : decode cX0_owedBy 43 = .ok (.iadd, 1) := by decide +kernel
theorem dX0_owedBy_44 : decode cX0_owedBy 44 = .ok (.istore_n 2, 1) := by decide +kernel
theorem dX0_owedBy_45 : decode cX0_owedBy 45 = .ok (.iinc 3 1, 3) := by decide +kernel
theorem dX0_owedBy_48 : decode cX0_owedBy 48 = .ok (.goto (-39), 3) := by decide +kernel
theorem dX0_owedBy_51 : decode cX0_owedBy 51 = .ok (.iload_n 2, 1) := by decide +kernel
theorem dX0_owedBy_52 : decode cX0_owedBy 52 = .ok (.ireturn, 1) := by decide +kernel
set_option maxRecDepth 20000 in
theorem ggX0_balance_X0_requirePerson : GoodIn wsX0_balance wsX0_requirePerson := goodIn_ca (goodIn_r _ [5, 6, 7, 8, 18, 19, 20, 21, 22, 23, 24, 25, 26, 27, 28, 29] (by decide +kernel) (by decide +kernel)) (goodIn_sub (fun _ h => List.mem_cons_of_mem _ (List.mem_append_right _ h)) (by decide +kernel))
set_option maxRecDepth 20000 in
theorem gX0_balance_X0_requirePerson : GoodIn wsX0_balance (wsV RX0 50 RX0 yX0_requirePerson wsX0_requirePerson) := goodIn_app (goodIn_of _ (by decide +kernel)) ggX0_balance_X0_requirePerson
set_option maxRecDepth 20000 in
theorem ggX0_balance_X0_weightBetween : GoodIn wsX0_balance wsX0_weightBetween := goodIn_r _ [12, 13, 14, 15, 16, 17, 18, 19, 20, 21, 22, 23, 24, 25, 26, 27, 28, 29] (by decide +kernel) (by decide +kernel)
set_option maxRecDepth 20000 in
theorem gX0_balance_X0_weightBetween : GoodIn wsX0_balance (wsV RX0 113 RX0 yX0_weightBetween wsX0_weightBetween) := goodIn_app (goodIn_of _ (by decide +kernel)) ggX0_balance_X0_weightBetween
theorem dX0_balance_0 : decode cX0_balance 0 = .ok (.aload_n 0, 1) := by decide +kernel
theorem dX0_balance_1 : decode cX0_balance 1 = .ok (.iload_n 1, 1) := by decide +kernel
theorem dX0_balance_2 : decode cX0_balance 2 = .ok (.invokevirtual 50, 3) := by decide +kernel
theorem dX0_balance_5 : decode cX0_balance 5 = .ok (.aload_n 0, 1) := by decide +kernel
theorem dX0_balance_6 : decode cX0_balance 6 = .ok (.iload_n 2, 1) := by decide +kernel
theorem dX0_balance_7 : decode cX0_balance 7 = .ok (.invokevirtual 50, 3) := by decide +kernel
theorem dX0_balance_10 : decode cX0_balance 10 = .ok (.aload_n 0, 1) := by decide +kernel
theorem dX0_balance_11 : decode cX0_balance 11 = .ok (.iload_n 1, 1) := by decide +kernel
theorem dX0_balance_12 : decode cX0_balance 12 = .ok (.iload_n 2, 1) := by decide +kernel
theorem dX0_balance_13 : decode cX0_balance 13 = .ok (.invokevirtual 113, 3) := by decide +kernel
theorem dX0_balance_16 : decode cX0_balance 16 = .ok (.aload_n 0, 1) := by decide +kernel
theorem dX0_balance_17 : decode cX0_balance 17 = .ok (.iload_n 2, 1) := by decide +kernel
theorem dX0_balance_18 : decode cX0_balance 18 = .ok (.iload_n 1, 1) := by decide +kernel
theorem dX0_balance_19 : decode cX0_balance 19 = .ok (.invokevirtual 113, 3) := by decide +kernel
theorem dX0_balance_22 : decode cX0_balance 22 = .ok (.isub, 1) := by decide +kernel
theorem dX0_balance_23 : decode cX0_balance 23 = .ok (.ireturn, 1) := by decide +kernel
set_option maxRecDepth 20000 in
theorem ggX0_sorest_X0_borneBy : GoodIn wsX0_sorest wsX0_borneBy := goodIn_ca (goodIn_r _ [6, 7, 8, 9, 10, 11, 12, 13, 5, 14, 15, 16, 1, 17, 18, 19, 20, 21, 22, 23, 24, 25, 26, 27, 28] (by decide +kernel) (by decide +kernel)) (goodIn_sub (fun _ h => List.mem_cons_of_mem _ (List.mem_append_right _ h)) (by decide +kernel))
set_option maxRecDepth 20000 in
theorem gX0_sorest_X0_borneBy : GoodIn wsX0_sorest (wsV RX0 116 RX0 yX0_borneBy wsX0_borneBy) := goodIn_app (goodIn_of _ (by decide +kernel)) ggX0_sorest_X0_borneBy
theorem dX0_sorest_0 : decode cX0_sorest 0 = .ok (.iconst (-1), 1) := by decide +kernel
theorem dX0_sorest_1 : decode cX0_sorest 1 = .ok (.istore_n 1, 1) := by decide +kernel
theorem dX0_sorest_2 : decode cX0_sorest 2 = .ok (.iconst (-1), 1) := by decide +kernel
theorem dX0_sorest_3 : decode cX0_sorest 3 = .ok (.istore_n 2, 1) := by decide +kernel
theorem dX0_sorest_4 : decode cX0_sorest 4 = .ok (.iconst 0, 1) := by decide +kernel
theorem dX0_sorest_5 : decode cX0_sorest 5 = .ok (.istore_n 3, 1) := by decide +kernel
theorem dX0_sorest_6 : decode cX0_sorest 6 = .ok (.iload_n 3, 1) := by decide +kernel
theorem dX0_sorest_7 : decode cX0_sorest 7 = .ok (.aload_n 0, 1) := by decide +kernel
theorem dX0_sorest_8 : decode cX0_sorest 8 = .ok (.getfield 39, 3) := by decide +kernel
theorem dX0_sorest_11 : decode cX0_sorest 11 = .ok (.if_icmp .ge 27, 3) := by decide +kernel
theorem dX0_sorest_14 : decode cX0_sorest 14 = .ok (.aload_n 0, 1) := by decide +kernel
theorem dX0_sorest_15 : decode cX0_sorest 15 = .ok (.iload_n 3, 1) := by decide +kernel
theorem dX0_sorest_16 : decode cX0_sorest 16 = .ok (.invokevirtual 116, 3) := by decide +kernel
theorem dX0_sorest_19 : decode cX0_sorest 19 = .ok (.istore 4, 2) := by decide +kernel
theorem dX0_sorest_21 : decode cX0_sorest 21 = .ok (.iload 4, 2) := by decide +kernel
theorem dX0_sorest_23 : decode cX0_sorest 23 = .ok (.iload_n 2, 1) := by decide +kernel
theorem dX0_sorest_24 : decode cX0_sorest 24 = .ok (.if_icmp .le 8, 3) := by decide +kernel
theorem dX0_sorest_27 : decode cX0_sorest 27 = .ok (.iload_n 3, 1) := by decide +kernel
theorem dX0_sorest_28 : decode cX0_sorest 28 = .ok (.istore_n 1, 1) := by decide +kernel
theorem dX0_sorest_29 : decode cX0_sorest 29 = .ok (.iload 4, 2) := by decide +kernel
theorem dX0_sorest_31 : decode cX0_sorest 31 = .ok (.istore_n 2, 1) := by decide +kernel
theorem dX0_sorest_32 : decode cX0_sorest 32 = .ok (.iinc 3 1, 3) := by decide +kernel
theorem dX0_sorest_35 : decode cX0_sorest 35 = .ok (.goto (-29), 3) := by decide +kernel
theorem dX0_sorest_38 : decode cX0_sorest 38 = .ok (.iload_n 1, 1) := by decide +kernel
theorem dX0_sorest_39 : decode cX0_sorest 39 = .ok (.ireturn, 1) := by decide +kernel
set_option maxRecDepth 20000 in
theorem ggX0_offenderOf_X0_requireSlight : GoodIn wsX0_offenderOf wsX0_requireSlight := goodIn_ca (goodIn_r _ [6, 7, 8, 9, 10, 11, 12, 13, 14, 15, 16, 17, 18, 19, 20, 21] (by decide +kernel) (by decide +kernel)) (goodIn_sub (fun _ h => List.mem_cons_of_mem _ (List.mem_append_right _ h)) (by decide +kernel))
set_option maxRecDepth 20000 in
theorem gX0_offenderOf_X0_requireSlight : GoodIn wsX0_offenderOf (wsV RX0 65 RX0 yX0_requireSlight wsX0_requireSlight) := goodIn_app (goodIn_of _ (by decide +kernel)) ggX0_offenderOf_X0_requireSlight
theorem dX0_offenderOf_0 : decode cX0_offenderOf 0 = .ok (.aload_n 0, 1) := by decide +kernel
theorem dX0_offenderOf_1 : decode cX0_offenderOf 1 = .ok (.iload_n 1, 1) := by decide +kernel
theorem dX0_offenderOf_2 : decode cX0_offenderOf 2 = .ok (.invokevirtual 65, 3) := by decide +kernel
theorem dX0_offenderOf_5 : decode cX0_offenderOf 5 = .ok (.aload_n 0, 1) := by decide +kernel
theorem dX0_offenderOf_6 : decode cX0_offenderOf 6 = .ok (.getfield 17, 3) := by decide +kernel
theorem dX0_offenderOf_9 : decode cX0_offenderOf 9 = .ok (.iload_n 1, 1) := by decide +kernel
theorem dX0_offenderOf_10 : decode cX0_offenderOf 10 = .ok (.iaload, 1) := by decide +kernel
theorem dX0_offenderOf_11 : decode cX0_offenderOf 11 = .ok (.ireturn, 1) := by decide +kernel
set_option maxRecDepth 20000 in
theorem ggX0_offendedOf_X0_requireSlight : GoodIn wsX0_offendedOf wsX0_requireSlight := goodIn_ca (goodIn_r _ [6, 7, 8, 9, 10, 11, 12, 13, 14, 15, 16, 17, 18, 19, 20, 21] (by decide +kernel) (by decide +kernel)) (goodIn_sub (fun _ h => List.mem_cons_of_mem _ (List.mem_append_right _ h)) (by decide +kernel))
set_option maxRecDepth 20000 in
theorem gX0_offendedOf_X0_requireSlight : GoodIn wsX0_offendedOf (wsV RX0 65 RX0 yX0_requireSlight wsX0_requireSlight) := goodIn_app (goodIn_of _ (by decide +kernel)) ggX0_offendedOf_X0_requireSlight
theorem dX0_offendedOf_0 : decode cX0_offendedOf 0 = .ok (.aload_n 0, 1) := by decide +kernel
theorem dX0_offendedOf_1 : decode cX0_offendedOf 1 = .ok (.iload_n 1, 1) := by decide +kernel
theorem dX0_offendedOf_2 : decode cX0_offendedOf 2 = .ok (.invokevirtual 65, 3) := by decide +kernel
theorem dX0_offendedOf_5 : decode cX0_offendedOf 5 = .ok (.aload_n 0, 1) := by decide +kernel
theorem dX0_offendedOf_6 : decode cX0_offendedOf 6 = .ok (.getfield 20, 3) := by decide +kernel
theorem dX0_offendedOf_9 : decode cX0_offendedOf 9 = .ok (.iload_n 1, 1) := by decide +kernel
theorem dX0_offendedOf_10 : decode cX0_offendedOf 10 = .ok (.iaload, 1) := by decide +kernel
theorem dX0_offendedOf_11 : decode cX0_offendedOf 11 = .ok (.ireturn, 1) := by decide +kernel
set_option maxRecDepth 20000 in
theorem ggX0_weightOf_X0_requireSlight : GoodIn wsX0_weightOf wsX0_requireSlight := goodIn_ca (goodIn_r _ [6, 7, 8, 9, 10, 11, 12, 13, 14, 15, 16, 17, 18, 19, 20, 21] (by decide +kernel) (by decide +kernel)) (goodIn_sub (fun _ h => List.mem_cons_of_mem _ (List.mem_append_right _ h)) (by decide +kernel))
set_option maxRecDepth 20000 in
theorem gX0_weightOf_X0_requireSlight : GoodIn wsX0_weightOf (wsV RX0 65 RX0 yX0_requireSlight wsX0_requireSlight) := goodIn_app (goodIn_of _ (by decide +kernel)) ggX0_weightOf_X0_requireSlight
theorem dX0_weightOf_0 : decode cX0_weightOf 0 = .ok (.aload_n 0, 1) := by decide +kernel
theorem dX0_weightOf_1 : decode cX0_weightOf 1 = .ok (.iload_n 1, 1) := by decide +kernel
theorem dX0_weightOf_2 : decode cX0_weightOf 2 = .ok (.invokevirtual 65, 3) := by decide +kernel
theorem dX0_weightOf_5 : decode cX0_weightOf 5 = .ok (.aload_n 0, 1) := by decide +kernel
theorem dX0_weightOf_6 : decode cX0_weightOf 6 = .ok (.getfield 23, 3) := by decide +kernel
theorem dX0_weightOf_9 : decode cX0_weightOf 9 = .ok (.iload_n 1, 1) := by decide +kernel
theorem dX0_weightOf_10 : decode cX0_weightOf 10 = .ok (.iaload, 1) := by decide +kernel
theorem dX0_weightOf_11 : decode cX0_weightOf 11 = .ok (.ireturn, 1) := by decide +kernel
set_option maxRecDepth 20000 in
theorem ggX0_stateOf_X0_requireSlight : GoodIn wsX0_stateOf wsX0_requireSlight := goodIn_ca (goodIn_r _ [6, 7, 8, 9, 10, 11, 12, 13, 14, 15, 16, 17, 18, 19, 20, 21] (by decide +kernel) (by decide +kernel)) (goodIn_sub (fun _ h => List.mem_cons_of_mem _ (List.mem_append_right _ h)) (by decide +kernel))
set_option maxRecDepth 20000 in
theorem gX0_stateOf_X0_requireSlight : GoodIn wsX0_stateOf (wsV RX0 65 RX0 yX0_requireSlight wsX0_requireSlight) := goodIn_app (goodIn_of _ (by decide +kernel)) ggX0_stateOf_X0_requireSlight
theorem dX0_stateOf_0 : decode cX0_stateOf 0 = .ok (.aload_n 0, 1) := by decide +kernel
theorem dX0_stateOf_1 : decode cX0_stateOf 1 = .ok (.iload_n 1, 1) := by decide +kernel
theorem dX0_stateOf_2 : decode cX0_stateOf 2 = .ok (.invokevirtual 65, 3) := by decide +kernel
theorem dX0_stateOf_5 : decode cX0_stateOf 5 = .ok (.aload_n 0, 1) := by decide +kernel
theorem dX0_stateOf_6 : decode cX0_stateOf 6 = .ok (.getfield 26, 3) := by decide +kernel
theorem dX0_stateOf_9 : decode cX0_stateOf 9 = .ok (.iload_n 1, 1) := by decide +kernel
theorem dX0_stateOf_10 : decode cX0_stateOf 10 = .ok (.iaload, 1) := by decide +kernel
theorem dX0_stateOf_11 : decode cX0_stateOf 11 = .ok (.ireturn, 1) := by decide +kernel
set_option maxRecDepth 20000 in
theorem ggX0_borneFor_X0_requireSlight : GoodIn wsX0_borneFor wsX0_requireSlight := goodIn_ca (goodIn_r _ [6, 7, 8, 9, 10, 11, 12, 13, 14, 15, 16, 17, 18, 19, 20, 21] (by decide +kernel) (by decide +kernel)) (goodIn_sub (fun _ h => List.mem_cons_of_mem _ (List.mem_append_right _ h)) (by decide +kernel))
set_option maxRecDepth 20000 in
theorem gX0_borneFor_X0_requireSlight : GoodIn wsX0_borneFor (wsV RX0 65 RX0 yX0_requireSlight wsX0_requireSlight) := goodIn_app (goodIn_of _ (by decide +kernel)) ggX0_borneFor_X0_requireSlight
theorem dX0_borneFor_0 : decode cX0_borneFor 0 = .ok (.aload_n 0, 1) := by decide +kernel
theorem dX0_borneFor_1 : decode cX0_borneFor 1 = .ok (.iload_n 1, 1) := by decide +kernel
theorem dX0_borneFor_2 : decode cX0_borneFor 2 = .ok (.invokevirtual 65, 3) := by decide +kernel
theorem dX0_borneFor_5 : decode cX0_borneFor 5 = .ok (.aload_n 0, 1) := by decide +kernel
theorem dX0_borneFor_6 : decode cX0_borneFor 6 = .ok (.getfield 29, 3) := by decide +kernel
theorem dX0_borneFor_9 : decode cX0_borneFor 9 = .ok (.iload_n 1, 1) := by decide +kernel
theorem dX0_borneFor_10 : decode cX0_borneFor 10 = .ok (.iaload, 1) := by decide +kernel
theorem dX0_borneFor_11 : decode cX0_borneFor 11 = .ok (.ireturn, 1) := by decide +kernel
set_option maxRecDepth 20000 in
theorem ggX0_quietFor_X0_requireSlight : GoodIn wsX0_quietFor wsX0_requireSlight := goodIn_ca (goodIn_r _ [6, 7, 8, 9, 10, 11, 12, 13, 14, 15, 16, 17, 18, 19, 20, 21] (by decide +kernel) (by decide +kernel)) (goodIn_sub (fun _ h => List.mem_cons_of_mem _ (List.mem_append_right _ h)) (by decide +kernel))
set_option maxRecDepth 20000 in
theorem gX0_quietFor_X0_requireSlight : GoodIn wsX0_quietFor (wsV RX0 65 RX0 yX0_requireSlight wsX0_requireSlight) := goodIn_app (goodIn_of _ (by decide +kernel)) ggX0_quietFor_X0_requireSlight
theorem dX0_quietFor_0 : decode cX0_quietFor 0 = .ok (.aload_n 0, 1) := by decide +kernel
theorem dX0_quietFor_1 : decode cX0_quietFor 1 = .ok (.iload_n 1, 1) := by decide +kernel
theorem dX0_quietFor_2 : decode cX0_quietFor 2 = .ok (.invokevirtual 65, 3) := by decide +kernel
theorem dX0_quietFor_5 : decode cX0_quietFor 5 = .ok (.aload_n 0, 1) := by decide +kernel
theorem dX0_quietFor_6 : decode cX0_quietFor 6 = .ok (.getfield 32, 3) := by decide +kernel
theorem dX0_quietFor_9 : decode cX0_quietFor 9 = .ok (.iload_n 1, 1) := by decide +kernel
theorem dX0_quietFor_10 : decode cX0_quietFor 10 = .ok (.iaload, 1) := by decide +kernel
theorem dX0_quietFor_11 : decode cX0_quietFor 11 = .ok (.ireturn, 1) := by decide +kernel
set_option maxRecDepth 20000 in
theorem ggX0_witnessesFor_X0_requireSlight : GoodIn wsX0_witnessesFor wsX0_requireSlight := goodIn_ca (goodIn_r _ [9, 10, 11, 12, 13, 14, 15, 16, 17, 18, 19, 20, 21, 22, 23, 24] (by decide +kernel) (by decide +kernel)) (goodIn_sub (fun _ h => List.mem_cons_of_mem _ (List.mem_append_right _ h)) (by decide +kernel))
set_option maxRecDepth 20000 in
theorem gX0_witnessesFor_X0_requireSlight : GoodIn wsX0_witnessesFor (wsV RX0 65 RX0 yX0_requireSlight wsX0_requireSlight) := goodIn_app (goodIn_of _ (by decide +kernel)) ggX0_witnessesFor_X0_requireSlight
theorem dX0_witnessesFor_0 : decode cX0_witnessesFor 0 = .ok (.aload_n 0, 1) := by decide +kernel
theorem dX0_witnessesFor_1 : decode cX0_witnessesFor 1 = .ok (.iload_n 1, 1) := by decide +kernel
theorem dX0_witnessesFor_2 : decode cX0_witnessesFor 2 = .ok (.invokevirtual 65, 3) := by decide +kernel
theorem dX0_witnessesFor_5 : decode cX0_witnessesFor 5 = .ok (.iconst 0, 1) := by decide +kernel
theorem dX0_witnessesFor_6 : decode cX0_witnessesFor 6 = .ok (.istore_n 2, 1) := by decide +kernel
theorem dX0_witnessesFor_7 : decode cX0_witnessesFor 7 = .ok (.iconst 0, 1) := by decide +kernel
theorem dX0_witnessesFor_8 : decode cX0_witnessesFor 8 = .ok (.istore_n 3, 1) := by decide +kernel
theorem dX0_witnessesFor_9 : decode cX0_witnessesFor 9 = .ok (.iload_n 3, 1) := by decide +kernel
theorem dX0_witnessesFor_10 : decode cX0_witnessesFor 10 = .ok (.aload_n 0, 1) := by decide +kernel
theorem dX0_witnessesFor_11 : decode cX0_witnessesFor 11 = .ok (.getfield 39, 3) := by decide +kernel
theorem dX0_witnessesFor_14 : decode cX0_witnessesFor 14 = .ok (.if_icmp .ge 41, 3) := by decide +kernel
theorem dX0_witnessesFor_17 : decode cX0_witnessesFor 17 = .ok (.aload_n 0, 1) := by decide +kernel
theorem dX0_witnessesFor_18 : decode cX0_witnessesFor 18 = .ok (.getfield 13, 3) := by decide +kernel
theorem dX0_witnessesFor_21 : decode cX0_witnessesFor 21 = .ok (.iload_n 3, 1) := by decide +kernel
theorem dX0_witnessesFor_22 : decode cX0_witnessesFor 22 = .ok (.baload, 1) := by decide +kernel
theorem dX0_witnessesFor_23 : decode cX0_witnessesFor 23 = .ok (.ifCond .eq 26, 3) := by decide +kernel
theorem dX0_witnessesFor_26 : decode cX0_witnessesFor 26 = .ok (.iload_n 3, 1) := by decide +kernel
theorem dX0_witnessesFor_27 : decode cX0_witnessesFor 27 = .ok (.aload_n 0, 1) := by decide +kernel
theorem dX0_witnessesFor_28 : decode cX0_witnessesFor 28 = .ok (.getfield 17, 3) := by decide +kernel
theorem dX0_witnessesFor_31 : decode cX0_witnessesFor 31 = .ok (.iload_n 1, 1) := by decide +kernel
theorem dX0_witnessesFor_32 : decode cX0_witnessesFor 32 = .ok (.iaload, 1) := by decide +kernel
theorem dX0_witnessesFor_33 : decode cX0_witnessesFor 33 = .ok (.if_icmp .eq 16, 3) := by decide +kernel
theorem dX0_witnessesFor_36 : decode cX0_witnessesFor 36 = .ok (.iload_n 3, 1) := by decide +kernel
theorem dX0_witnessesFor_37 : decode cX0_witnessesFor 37 = .ok (.aload_n 0, 1) := by decide +kernel
theorem dX0_witnessesFor_38 : decode cX0_witnessesFor 38 = .ok (.getfield 20, 3) := by decide +kernel
theorem dX0_witnessesFor_41 : decode cX0_witnessesFor 41 = .ok (.iload_n 1, 1) := by decide +kernel
theorem dX0_witnessesFor_42 : decode cX0_witnessesFor 42 = .ok (.iaload, 1) := by decide +kernel
theorem dX0_witnessesFor_43 : decode cX0_witnessesFor 43 = .ok (.if_icmp .eq 6, 3) := by decide +kernel
theorem dX0_witnessesFor_46 : decode cX0_witnessesFor 46 = .ok (.iinc 2 1, 3) := by decide +kernel
theorem dX0_witnessesFor_49 : decode cX0_witnessesFor 49 = .ok (.iinc 3 1, 3) := by decide +kernel
theorem dX0_witnessesFor_52 : decode cX0_witnessesFor 52 = .ok (.goto (-43), 3) := by decide +kernel
theorem dX0_witnessesFor_55 : decode cX0_witnessesFor 55 = .ok (.iload_n 2, 1) := by decide +kernel
theorem dX0_witnessesFor_56 : decode cX0_witnessesFor 56 = .ok (.ireturn, 1) := by decide +kernel
theorem dX0_inState_0 : decode cX0_inState 0 = .ok (.iload_n 1, 1) := by decide +kernel
theorem dX0_inState_1 : decode cX0_inState 1 = .ok (.ifCond .lt 8, 3) := by decide +kernel
theorem dX0_inState_4 : decode cX0_inState 4 = .ok (.iload_n 1, 1) := by decide +kernel
theorem dX0_inState_5 : decode cX0_inState 5 = .ok (.iconst 3, 1) := by decide +kernel
theorem dX0_inState_6 : decode cX0_inState 6 = .ok (.if_icmp .le 13, 3) := by decide +kernel
theorem dX0_inState_9 : decode cX0_inState 9 = .ok (.new 53, 3) := by decide +kernel
theorem dX0_inState_12 : decode cX0_inState 12 = .ok (.dup, 1) := by decide +kernel
theorem dX0_inState_13 : decode cX0_inState 13 = .ok (.ldc 119, 2) := by decide +kernel
theorem dX0_inState_15 : decode cX0_inState 15 = .ok (.invokespecial 57, 3) := by decide +kernel
theorem dX0_inState_18 : decode cX0_inState 18 = .ok (.athrow, 1) := by decide +kernel
theorem dX0_inState_19 : decode cX0_inState 19 = .ok (.iconst 0, 1) := by decide +kernel
theorem dX0_inState_20 : decode cX0_inState 20 = .ok (.istore_n 2, 1) := by decide +kernel
theorem dX0_inState_21 : decode cX0_inState 21 = .ok (.iconst 0, 1) := by decide +kernel
theorem dX0_inState_22 : decode cX0_inState 22 = .ok (.istore_n 3, 1) := by decide +kernel
theorem dX0_inState_23 : decode cX0_inState 23 = .ok (.iload_n 3, 1) := by decide +kernel
theorem dX0_inState_24 : decode cX0_inState 24 = .ok (.aload_n 0, 1) := by decide +kernel
theorem dX0_inState_25 : decode cX0_inState 25 = .ok (.getfield 60, 3) := by decide +kernel
theorem dX0_inState_28 : decode cX0_inState 28 = .ok (.if_icmp .ge 22, 3) := by decide +kernel
theorem dX0_inState_31 : decode cX0_inState 31 = .ok (.aload_n 0, 1) := by decide +kernel
theorem dX0_inState_32 : decode cX0_inState 32 = .ok (.getfield 26, 3) := by decide +kernel
theorem dX0_inState_35 : decode cX0_inState 35 = .ok (.iload_n 3, 1) := by decide +kernel
theorem dX0_inState_36 : decode cX0_inState 36 = .ok (.iaload, 1) := by decide +kernel
theorem dX0_inState_37 : decode cX0_inState 37 = .ok (.iload_n 1, 1) := by decide +kernel
theorem dX0_inState_38 : decode cX0_inState 38 = .ok (.if_icmp .ne 6, 3) := by decide +kernel
theorem dX0_inState_41 : decode cX0_inState 41 = .ok (.iinc 2 1, 3) := by decide +kernel
theorem dX0_inState_44 : decode cX0_inState 44 = .ok (.iinc 3 1, 3) := by decide +kernel
theorem dX0_inState_47 : decode cX0_inState 47 = .ok (.goto (-24), 3) := by decide +kernel
theorem dX0_inState_50 : decode cX0_inState 50 = .ok (.iload_n 2, 1) := by decide +kernel
theorem dX0_inState_51 : decode cX0_inState 51 = .ok (.ireturn, 1) := by decide +kernel
theorem dX0_heaviest_0 : decode cX0_heaviest 0 = .ok (.iconst (-1), 1) := by decide +kernel
theorem dX0_heaviest_1 : decode cX0_heaviest 1 = .ok (.istore_n 1, 1) := by decide +kernel
theorem dX0_heaviest_2 : decode cX0_heaviest 2 = .ok (.iconst (-1), 1) := by decide +kernel
theorem dX0_heaviest_3 : decode cX0_heaviest 3 = .ok (.istore_n 2, 1) := by decide +kernel
theorem dX0_heaviest_4 : decode cX0_heaviest 4 = .ok (.iconst 0, 1) := by decide +kernel
theorem dX0_heaviest_5 : decode cX0_heaviest 5 = .ok (.istore_n 3, 1) := by decide +kernel
theorem dX0_heaviest_6 : decode cX0_heaviest 6 = .ok (.iload_n 3, 1) := by decide +kernel
theorem dX0_heaviest_7 : decode cX0_heaviest 7 = .ok (.aload_n 0, 1) := by decide +kernel
theorem dX0_heaviest_8 : decode cX0_heaviest 8 = .ok (.getfield 60, 3) := by decide +kernel
theorem dX0_heaviest_11 : decode cX0_heaviest 11 = .ok (.if_icmp .ge 37, 3) := by decide +kernel
theorem dX0_heaviest_14 : decode cX0_heaviest 14 = .ok (.aload_n 0, 1) := by decide +kernel
theorem dX0_heaviest_15 : decode cX0_heaviest 15 = .ok (.getfield 26, 3) := by decide +kernel
theorem dX0_heaviest_18 : decode cX0_heaviest 18 = .ok (.iload_n 3, 1) := by decide +kernel
theorem dX0_heaviest_19 : decode cX0_heaviest 19 = .ok (.iaload, 1) := by decide +kernel
theorem dX0_heaviest_20 : decode cX0_heaviest 20 = .ok (.ifCond .ne 22, 3) := by decide +kernel
theorem dX0_heaviest_23 : decode cX0_heaviest 23 = .ok (.aload_n 0, 1) := by decide +kernel
theorem dX0_heaviest_24 : decode cX0_heaviest 24 = .ok (.getfield 23, 3) := by decide +kernel
theorem dX0_heaviest_27 : decode cX0_heaviest 27 = .ok (.iload_n 3, 1) := by decide +kernel
theorem dX0_heaviest_28 : decode cX0_heaviest 28 = .ok (.iaload, 1) := by decide +kernel
theorem dX0_heaviest_29 : decode cX0_heaviest 29 = .ok (.iload_n 2, 1) := by decide +kernel
theorem dX0_heaviest_30 : decode cX0_heaviest 30 = .ok (.if_icmp .le 12, 3) := by decide +kernel
theorem dX0_heaviest_33 : decode cX0_heaviest 33 = .ok (.iload_n 3, 1) := by decide +kernel
theorem dX0_heaviest_34 : decode cX0_heaviest 34 = .ok (.istore_n 1, 1) := by decide +kernel
theorem dX0_heaviest_35 : decode cX0_heaviest 35 = .ok (.aload_n 0, 1) := by decide +kernel
theorem dX0_heaviest_36 : decode cX0_heaviest 36 = .ok (.getfield 23, 3) := by decide +kernel
theorem dX0_heaviest_39 : decode cX0_heaviest 39 = .ok (.iload_n 3, 1) := by decide +kernel
theorem dX0_heaviest_40 : decode cX0_heaviest 40 = .ok (.iaload, 1) := by decide +kernel
theorem dX0_heaviest_41 : decode cX0_heaviest 41 = .ok (.istore_n 2, 1) := by decide +kernel
theorem dX0_heaviest_42 : decode cX0_heaviest 42 = .ok (.iinc 3 1, 3) := by decide +kernel
theorem dX0_heaviest_45 : decode cX0_heaviest 45 = .ok (.goto (-39), 3) := by decide +kernel
theorem dX0_heaviest_48 : decode cX0_heaviest 48 = .ok (.iload_n 1, 1) := by decide +kernel
theorem dX0_heaviest_49 : decode cX0_heaviest 49 = .ok (.ireturn, 1) := by decide +kernel
set_option maxRecDepth 20000 in
theorem ggX0_pairsToSetOff_X0_areAgainstEachOther : GoodIn wsX0_pairsToSetOff wsX0_areAgainstEachOther := goodIn_ca (goodIn_r _ [7, 8, 9, 10, 6, 11, 12, 13, 14, 15, 16, 17, 18, 1, 19, 20, 21, 22, 23, 24, 25, 26, 27, 28, 29, 30, 31, 32, 33, 34, 35] (by decide +kernel) (by decide +kernel)) (goodIn_sub (fun _ h => List.mem_cons_of_mem _ (List.mem_append_right _ h)) (by decide +kernel))
set_option maxRecDepth 20000 in
theorem gX0_pairsToSetOff_X0_areAgainstEachOther : GoodIn wsX0_pairsToSetOff (wsV RX0 92 RX0 yX0_areAgainstEachOther wsX0_areAgainstEachOther) := goodIn_app (goodIn_of _ (by decide +kernel)) ggX0_pairsToSetOff_X0_areAgainstEachOther
theorem dX0_pairsToSetOff_0 : decode cX0_pairsToSetOff 0 = .ok (.iconst 0, 1) := by decide +kernel
theorem dX0_pairsToSetOff_1 : decode cX0_pairsToSetOff 1 = .ok (.istore_n 1, 1) := by decide +kernel
theorem dX0_pairsToSetOff_2 : decode cX0_pairsToSetOff 2 = .ok (.iconst 0, 1) := by decide +kernel
theorem dX0_pairsToSetOff_3 : decode cX0_pairsToSetOff 3 = .ok (.istore_n 2, 1) := by decide +kernel
theorem dX0_pairsToSetOff_4 : decode cX0_pairsToSetOff 4 = .ok (.iload_n 2, 1) := by decide +kernel
theorem dX0_pairsToSetOff_5 : decode cX0_pairsToSetOff 5 = .ok (.aload_n 0, 1) := by decide +kernel
theorem dX0_pairsToSetOff_6 : decode cX0_pairsToSetOff 6 = .ok (.getfield 60, 3) := by decide +kernel
theorem dX0_pairsToSetOff_9 : decode cX0_pairsToSetOff 9 = .ok (.if_icmp .ge 57, 3) := by decide +kernel
theorem dX0_pairsToSetOff_12 : decode cX0_pairsToSetOff 12 = .ok (.iload_n 2, 1) := by decide +kernel
theorem dX0_pairsToSetOff_13 : decode cX0_pairsToSetOff 13 = .ok (.iconst 1, 1) := by decide +kernel
theorem dX0_pairsToSetOff_14 : decode cX0_pairsToSetOff 14 = .ok (.iadd, 1) := by decide +kernel
theorem dX0_pairsToSetOff_15 : decode cX0_pairsToSetOff 15 = .ok (.istore_n 3, 1) := by decide +kernel
theorem dX0_pairsToSetOff_16 : decode cX0_pairsToSetOff 16 = .ok (.iload_n 3, 1) := by decide +kernel
theorem dX0_pairsToSetOff_17 : decode cX0_pairsToSetOff 17 = .ok (.aload_n 0, 1) := by decide +kernel
theorem dX0_pairsToSetOff_18 : decode cX0_pairsToSetOff 18 = .ok (.getfield 60, 3) := by decide +kernel
theorem dX0_pairsToSetOff_21 : decode cX0_pairsToSetOff 21 = .ok (.if_icmp .ge 39, 3) := by decide +kernel
theorem dX0_pairsToSetOff_24 : decode cX0_pairsToSetOff 24 = .ok (.aload_n 0, 1) := by decide +kernel
theorem dX0_pairsToSetOff_25 : decode cX0_pairsToSetOff 25 = .ok (.getfield 26, 3) := by decide +kernel
theorem dX0_pairsToSetOff_28 : decode cX0_pairsToSetOff 28 = .ok (.iload_n 2, 1) := by decide +kernel
theorem dX0_pairsToSetOff_29 : decode cX0_pairsToSetOff 29 = .ok (.iaload, 1) := by decide +kernel
theorem dX0_pairsToSetOff_30 : decode cX0_pairsToSetOff 30 = .ok (.ifCond .ne 24, 3) := by decide +kernel
theorem dX0_pairsToSetOff_33 : decode cX0_pairsToSetOff 33 = .ok (.aload_n 0, 1) := by decide +kernel
theorem dX0_pairsToSetOff_34 : decode cX0_pairsToSetOff 34 = .ok (.getfield 26, 3) := by decide +kernel
theorem dX0_pairsToSetOff_37 : decode cX0_pairsToSetOff 37 = .ok (.iload_n 3, 1) := by decide +kernel
theorem dX0_pairsToSetOff_38 : decode cX0_pairsToSetOff 38 = .ok (.iaload, 1) := by decide +kernel
theorem dX0_pairsToSetOff_39 : decode cX0_pairsToSetOff 39 = .ok (.ifCond .ne 15, 3) := by decide +kernel
theorem dX0_pairsToSetOff_42 : decode cX0_pairsToSetOff 42 = .ok (.aload_n 0, 1) := by decide +kernel
theorem dX0_pairsToSetOff_43 : decode cX0_pairsToSetOff 43 = .ok (.iload_n 2, 1) := by decide +kernel
theorem dX0_pairsToSetOff_44 : decode cX0_pairsToSetOff 44 = .ok (.iload_n 3, 1) := by decide +kernel
theorem dX0_pairsToSetOff_45 : decode cX0_pairsToSetOff 45 = .ok (.invokevirtual 92, 3) := by decide +kernel
theorem dX0_pairsToSetOff_48 : decode cX0_pairsToSetOff 48 = .ok (.ifCond .eq 6, 3) := by decide +kernel
theorem dX0_pairsToSetOff_51 : decode cX0_pairsToSetOff 51 = .ok (.iinc 1 1, 3) := by decide +kernel
theorem dX0_pairsToSetOff_54 : decode cX0_pairsToSetOff 54 = .ok (.iinc 3 1, 3) := by decide +kernel
theorem dX0_pairsToSetOff_57 : decode cX0_pairsToSetOff 57 = .ok (.goto (-41), 3) := by decide +kernel
theorem dX0_pairsToSetOff_60 : decode cX0_pairsToSetOff 60 = .ok (.iinc 2 1, 3) := by decide +kernel
theorem dX0_pairsToSetOff_63 : decode cX0_pairsToSetOff 63 = .ok (.goto (-59), 3) := by decide +kernel
theorem dX0_pairsToSetOff_66 : decode cX0_pairsToSetOff 66 = .ok (.iload_n 1, 1) := by decide +kernel
theorem dX0_pairsToSetOff_67 : decode cX0_pairsToSetOff 67 = .ok (.ireturn, 1) := by decide +kernel
set_option maxRecDepth 20000 in
theorem ggX0_wordsWanted_X0_requireSlight : GoodIn wsX0_wordsWanted wsX0_requireSlight := goodIn_ca (goodIn_r _ [11, 12, 13, 14, 48, 49, 50, 51, 52, 53, 54, 55, 56, 57, 58, 59] (by decide +kernel) (by decide +kernel)) (goodIn_sub (fun _ h => List.mem_cons_of_mem _ (List.mem_append_right _ h)) (by decide +kernel))
set_option maxRecDepth 20000 in
theorem gX0_wordsWanted_X0_requireSlight : GoodIn wsX0_wordsWanted (wsV RX0 65 RX0 yX0_requireSlight wsX0_requireSlight) := goodIn_app (goodIn_of _ (by decide +kernel)) ggX0_wordsWanted_X0_requireSlight
set_option maxRecDepth 20000 in
theorem ggX0_wordsWanted_X0_leastWorthHeard : GoodIn wsX0_wordsWanted wsX0_leastWorthHeard := goodIn_ca (goodIn_r _ [18, 3, 4, 5, 6, 19, 20, 21, 10, 22, 23, 7, 8, 9, 11, 12, 13, 14, 24, 25, 26, 27, 28, 29, 30, 31, 32, 33, 34, 35, 36, 37, 2, 48, 49, 50, 51, 52, 53, 54, 55, 56, 57, 58, 59] (by decide +kernel) (by decide +kernel)) (goodIn_sub (fun _ h => List.mem_cons_of_mem _ (List.mem_append_right _ h)) (by decide +kernel))
set_option maxRecDepth 20000 in
theorem gX0_wordsWanted_X0_leastWorthHeard : GoodIn wsX0_wordsWanted (wsV RX0 81 RX0 yX0_leastWorthHeard wsX0_leastWorthHeard) := goodIn_app (goodIn_of _ (by decide +kernel)) ggX0_wordsWanted_X0_leastWorthHeard
set_option maxRecDepth 20000 in
theorem ggX0_wordsWanted_X0_worthOf : GoodIn wsX0_wordsWanted wsX0_worthOf := goodIn_ca (goodIn_r _ [41, 42, 43, 44, 10, 45, 33, 46, 47, 23, 7, 8, 9, 11, 12, 13, 14, 48, 49, 50, 51, 52, 53, 54, 55, 56, 57, 58, 59] (by decide +kernel) (by decide +kernel)) (goodIn_sub (fun _ h => List.mem_cons_of_mem _ (List.mem_append_right _ h)) (by decide +kernel))
set_option maxRecDepth 20000 in
theorem gX0_wordsWanted_X0_worthOf : GoodIn wsX0_wordsWanted (wsV RX0 77 RX0 yX0_worthOf wsX0_worthOf) := goodIn_app (goodIn_of _ (by decide +kernel)) ggX0_wordsWanted_X0_worthOf
theorem dX0_wordsWanted_0 : decode cX0_wordsWanted 0 = .ok (.aload_n 0, 1) := by decide +kernel
theorem dX0_wordsWanted_1 : decode cX0_wordsWanted 1 = .ok (.iload_n 1, 1) := by decide +kernel
theorem dX0_wordsWanted_2 : decode cX0_wordsWanted 2 = .ok (.invokevirtual 65, 3) := by decide +kernel
theorem dX0_wordsWanted_5 : decode cX0_wordsWanted 5 = .ok (.aload_n 0, 1) := by decide +kernel
theorem dX0_wordsWanted_6 : decode cX0_wordsWanted 6 = .ok (.getfield 26, 3) := by decide +kernel
theorem dX0_wordsWanted_9 : decode cX0_wordsWanted 9 = .ok (.iload_n 1, 1) := by decide +kernel
theorem dX0_wordsWanted_10 : decode cX0_wordsWanted 10 = .ok (.iaload, 1) := by decide +kernel
theorem dX0_wordsWanted_11 : decode cX0_wordsWanted 11 = .ok (.ifCond .eq 5, 3) := by decide +kernel
theorem dX0_wordsWanted_14 : decode cX0_wordsWanted 14 = .ok (.iconst (-1), 1) := by decide +kernel
theorem dX0_wordsWanted_15 : decode cX0_wordsWanted 15 = .ok (.ireturn, 1) := by decide +kernel
theorem dX0_wordsWanted_16 : decode cX0_wordsWanted 16 = .ok (.aload_n 0, 1) := by decide +kernel
theorem dX0_wordsWanted_17 : decode cX0_wordsWanted 17 = .ok (.getfield 23, 3) := by decide +kernel
theorem dX0_wordsWanted_20 : decode cX0_wordsWanted 20 = .ok (.iload_n 1, 1) := by decide +kernel
theorem dX0_wordsWanted_21 : decode cX0_wordsWanted 21 = .ok (.iaload, 1) := by decide +kernel
theorem dX0_wordsWanted_22 : decode cX0_wordsWanted 22 = .ok (.aload_n 0, 1) := by decide +kernel
theorem dX0_wordsWanted_23 : decode cX0_wordsWanted 23 = .ok (.iload_n 1, 1) := by decide +kernel
theorem dX0_wordsWanted_24 : decode cX0_wordsWanted 24 = .ok (.invokevirtual 81, 3) := by decide +kernel
theorem dX0_wordsWanted_27 : decode cX0_wordsWanted 27 = .ok (.invokestatic 121, 3) := by decide +kernel
theorem dX0_wordsWanted_30 : decode cX0_wordsWanted 30 = .ok (.istore_n 2, 1) := by decide +kernel
theorem dX0_wordsWanted_31 : decode cX0_wordsWanted 31 = .ok (.iconst 1, 1) := by decide +kernel
theorem dX0_wordsWanted_32 : decode cX0_wordsWanted 32 = .ok (.iload_n 2, 1) := by decide +kernel
theorem dX0_wordsWanted_33 : decode cX0_wordsWanted 33 = .ok (.aload_n 0, 1) := by decide +kernel
theorem dX0_wordsWanted_34 : decode cX0_wordsWanted 34 = .ok (.iload_n 1, 1) := by decide +kernel
theorem dX0_wordsWanted_35 : decode cX0_wordsWanted 35 = .ok (.iconst 0, 1) := by decide +kernel
theorem dX0_wordsWanted_36 : decode cX0_wordsWanted 36 = .ok (.invokevirtual 77, 3) := by decide +kernel
theorem dX0_wordsWanted_39 : decode cX0_wordsWanted 39 = .ok (.isub, 1) := by decide +kernel
theorem dX0_wordsWanted_40 : decode cX0_wordsWanted 40 = .ok (.invokestatic 121, 3) := by decide +kernel
theorem dX0_wordsWanted_43 : decode cX0_wordsWanted 43 = .ok (.istore_n 3, 1) := by decide +kernel
theorem dX0_wordsWanted_44 : decode cX0_wordsWanted 44 = .ok (.iload_n 3, 1) := by decide +kernel
theorem dX0_wordsWanted_45 : decode cX0_wordsWanted 45 = .ok (.bipush 20, 2) := by decide +kernel
theorem dX0_wordsWanted_47 : decode cX0_wordsWanted 47 = .ok (.if_icmp .le 7, 3) := by decide +kernel
theorem dX0_wordsWanted_50 : decode cX0_wordsWanted 50 = .ok (.iconst (-1), 1) := by decide +kernel
theorem dX0_wordsWanted_51 : decode cX0_wordsWanted 51 = .ok (.goto 4, 3) := by decide +kernel
theorem dX0_wordsWanted_54 : decode cX0_wordsWanted 54 = .ok (.iload_n 3, 1) := by decide +kernel
theorem dX0_wordsWanted_55 : decode cX0_wordsWanted 55 = .ok (.ireturn, 1) := by decide +kernel
set_option maxRecDepth 20000 in
theorem ggX0_wouldBeScorned_X0_requireSlight : GoodIn wsX0_wouldBeScorned wsX0_requireSlight := goodIn_ca (goodIn_r _ [6, 7, 8, 9, 53, 54, 55, 56, 57, 58, 59, 60, 61, 62, 63, 64] (by decide +kernel) (by decide +kernel)) (goodIn_sub (fun _ h => List.mem_cons_of_mem _ (List.mem_append_left _ (List.mem_append_right _ h))) (by decide +kernel))
set_option maxRecDepth 20000 in
theorem gX0_wouldBeScorned_X0_requireSlight : GoodIn wsX0_wouldBeScorned (wsV RX0 65 RX0 yX0_requireSlight wsX0_requireSlight) := goodIn_app (goodIn_of _ (by decide +kernel)) ggX0_wouldBeScorned_X0_requireSlight
set_option maxRecDepth 20000 in
theorem ggX0_wouldBeScorned_X0_requireWords : GoodIn wsX0_wouldBeScorned wsX0_requireWords := goodIn_ca (goodIn_r _ [12, 13, 14] (by decide +kernel) (by decide +kernel)) (goodIn_sub (fun _ h => List.mem_cons_of_mem _ (List.mem_append_right _ h)) (by decide +kernel))
set_option maxRecDepth 20000 in
theorem gX0_wouldBeScorned_X0_requireWords : GoodIn wsX0_wouldBeScorned (va_wsS RX0 74 yX0_requireWords wsX0_requireWords) := goodIn_app (goodIn_of _ (by decide +kernel)) ggX0_wouldBeScorned_X0_requireWords
set_option maxRecDepth 20000 in
theorem ggX0_wouldBeScorned_X0_worthOf : GoodIn wsX0_wouldBeScorned wsX0_worthOf := goodIn_ca (goodIn_r _ [18, 19, 20, 21, 5, 22, 23, 24, 25, 26, 2, 3, 4, 6, 7, 8, 9, 53, 54, 55, 56, 57, 58, 59, 60, 61, 62, 63, 64] (by decide +kernel) (by decide +kernel)) (goodIn_sub (fun _ h => List.mem_cons_of_mem _ (List.mem_append_left _ (List.mem_append_right _ h))) (by decide +kernel))
set_option maxRecDepth 20000 in
theorem gX0_wouldBeScorned_X0_worthOf : GoodIn wsX0_wouldBeScorned (wsV RX0 77 RX0 yX0_worthOf wsX0_worthOf) := goodIn_app (goodIn_of _ (by decide +kernel)) ggX0_wouldBeScorned_X0_worthOf
set_option maxRecDepth 20000 in
theorem ggX0_wouldBeScorned_X0_leastWorthHeard : GoodIn wsX0_wouldBeScorned wsX0_leastWorthHeard := goodIn_ca (goodIn_r _ [30, 31, 32, 33, 34, 35, 36, 37, 5, 38, 26, 2, 3, 4, 6, 7, 8, 9, 39, 40, 41, 42, 43, 44, 45, 46, 47, 23, 48, 49, 50, 51, 52, 53, 54, 55, 56, 57, 58, 59, 60, 61, 62, 63, 64] (by decide +kernel) (by decide +kernel)) (goodIn_sub (fun _ h => List.mem_cons_of_mem _ (List.mem_append_left _ (List.mem_append_right _ h))) (by decide +kernel))
set_option maxRecDepth 20000 in
theorem gX0_wouldBeScorned_X0_leastWorthHeard : GoodIn wsX0_wouldBeScorned (wsV RX0 81 RX0 yX0_leastWorthHeard wsX0_leastWorthHeard) := goodIn_app (goodIn_of _ (by decide +kernel)) ggX0_wouldBeScorned_X0_leastWorthHeard
theorem dX0_wouldBeScorned_0 : decode cX0_wouldBeScorned 0 = .ok (.aload_n 0, 1) := by decide +kernel
theorem dX0_wouldBeScorned_1 : decode cX0_wouldBeScorned 1 = .ok (.iload_n 1, 1) := by decide +kernel
theorem dX0_wouldBeScorned_2 : decode cX0_wouldBeScorned 2 = .ok (.invokevirtual 65, 3) := by decide +kernel
theorem dX0_wouldBeScorned_5 : decode cX0_wouldBeScorned 5 = .ok (.iload_n 2, 1) := by decide +kernel
theorem dX0_wouldBeScorned_6 : decode cX0_wouldBeScorned 6 = .ok (.invokestatic 74, 3) := by decide +kernel
theorem dX0_wouldBeScorned_9 : decode cX0_wouldBeScorned 9 = .ok (.aload_n 0, 1) := by decide +kernel
theorem dX0_wouldBeScorned_10 : decode cX0_wouldBeScorned 10 = .ok (.getfield 26, 3) := by decide +kernel
theorem dX0_wouldBeScorned_13 : decode cX0_wouldBeScorned 13 = .ok (.iload_n 1, 1) := by decide +kernel
theorem dX0_wouldBeScorned_14 : decode cX0_wouldBeScorned 14 = .ok (.iaload, 1) := by decide +kernel
theorem dX0_wouldBeScorned_15 : decode cX0_wouldBeScorned 15 = .ok (.ifCond .ne 21, 3) := by decide +kernel
theorem dX0_wouldBeScorned_18 : decode cX0_wouldBeScorned 18 = .ok (.aload_n 0, 1) := by decide +kernel
theorem dX0_wouldBeScorned_19 : decode cX0_wouldBeScorned 19 = .ok (.iload_n 1, 1) := by decide +kernel
theorem dX0_wouldBeScorned_20 : decode cX0_wouldBeScorned 20 = .ok (.iload_n 2, 1) := by decide +kernel
theorem dX0_wouldBeScorned_21 : decode cX0_wouldBeScorned 21 = .ok (.invokevirtual 77, 3) := by decide +kernel
theorem dX0_wouldBeScorned_24 : decode cX0_wouldBeScorned 24 = .ok (.aload_n 0, 1) := by decide +kernel
theorem dX0_wouldBeScorned_25 : decode cX0_wouldBeScorned 25 = .ok (.iload_n 1, 1) := by decide +kernel
theorem dX0_wouldBeScorned_26 : decode cX0_wouldBeScorned 26 = .ok (.invokevirtual 81, 3) := by decide +kernel
theorem dX0_wouldBeScorned_29 : decode cX0_wouldBeScorned 29 = .ok (.if_icmp .ge 7, 3) := by decide +kernel
theorem dX0_wouldBeScorned_32 : decode cX0_wouldBeScorned 32 = .ok (.iconst 1, 1) := by decide +kernel
theorem dX0_wouldBeScorned_33 : decode cX0_wouldBeScorned 33 = .ok (.goto 4, 3) := by decide +kernel
theorem dX0_wouldBeScorned_36 : decode cX0_wouldBeScorned 36 = .ok (.iconst 0, 1) := by decide +kernel
theorem dX0_wouldBeScorned_37 : decode cX0_wouldBeScorned 37 = .ok (.ireturn, 1) := by decide +kernel
set_option maxRecDepth 20000 in
theorem ggX0_weightIn_X0_requireSlight : GoodIn wsX0_weightIn wsX0_requireSlight := goodIn_ca (goodIn_r _ [9, 10, 11, 12, 28, 29, 30, 31, 32, 33, 34, 35, 36, 37, 38, 39] (by decide +kernel) (by decide +kernel)) (goodIn_sub (fun _ h => List.mem_cons_of_mem _ (List.mem_append_left _ (List.mem_append_right _ h))) (by decide +kernel))
set_option maxRecDepth 20000 in
theorem gX0_weightIn_X0_requireSlight : GoodIn wsX0_weightIn (wsV RX0 65 RX0 yX0_requireSlight wsX0_requireSlight) := goodIn_app (goodIn_of _ (by decide +kernel)) ggX0_weightIn_X0_requireSlight
set_option maxRecDepth 20000 in
theorem ggX0_weightIn_X0_requireDays : GoodIn wsX0_weightIn wsX0_requireDays := goodIn_ca (goodIn_r _ [15, 16, 17] (by decide +kernel) (by decide +kernel)) (goodIn_sub (fun _ h => List.mem_cons_of_mem _ (List.mem_append_right _ h)) (by decide +kernel))
set_option maxRecDepth 20000 in
theorem gX0_weightIn_X0_requireDays : GoodIn wsX0_weightIn (va_wsS RX0 103 yX0_requireDays wsX0_requireDays) := goodIn_app (goodIn_of _ (by decide +kernel)) ggX0_weightIn_X0_requireDays
set_option maxRecDepth 20000 in
theorem ggX0_weightIn_X0_weightWhenBorne : GoodIn wsX0_weightIn wsX0_weightWhenBorne := goodIn_r _ [20, 21, 22, 23, 24, 25, 26, 27] (by decide +kernel) (by decide +kernel)
set_option maxRecDepth 20000 in
theorem gX0_weightIn_X0_weightWhenBorne : GoodIn wsX0_weightIn (va_wsS RX0 124 yX0_weightWhenBorne wsX0_weightWhenBorne) := goodIn_app (goodIn_of _ (by decide +kernel)) ggX0_weightIn_X0_weightWhenBorne
theorem dX0_weightIn_0 : decode cX0_weightIn 0 = .ok (.aload_n 0, 1) := by decide +kernel
theorem dX0_weightIn_1 : decode cX0_weightIn 1 = .ok (.iload_n 1, 1) := by decide +kernel
theorem dX0_weightIn_2 : decode cX0_weightIn 2 = .ok (.invokevirtual 65, 3) := by decide +kernel
theorem dX0_weightIn_5 : decode cX0_weightIn 5 = .ok (.iload_n 2, 1) := by decide +kernel
theorem dX0_weightIn_6 : decode cX0_weightIn 6 = .ok (.invokestatic 103, 3) := by decide +kernel
theorem dX0_weightIn_9 : decode cX0_weightIn 9 = .ok (.aload_n 0, 1) := by decide +kernel
theorem dX0_weightIn_10 : decode cX0_weightIn 10 = .ok (.getfield 26, 3) := by decide +kernel
theorem dX0_weightIn_13 : decode cX0_weightIn 13 = .ok (.iload_n 1, 1) := by decide +kernel
theorem dX0_weightIn_14 : decode cX0_weightIn 14 = .ok (.iaload, 1) := by decide +kernel
theorem dX0_weightIn_15 : decode cX0_weightIn 15 = .ok (.ifCond .ne 16, 3) := by decide +kernel
theorem dX0_weightIn_18 : decode cX0_weightIn 18 = .ok (.aload_n 0, 1) := by decide +kernel
theorem dX0_weightIn_19 : decode cX0_weightIn 19 = .ok (.getfield 32, 3) := by decide +kernel
theorem dX0_weightIn_22 : decode cX0_weightIn 22 = .ok (.iload_n 1, 1) := by decide +kernel
theorem dX0_weightIn_23 : decode cX0_weightIn 23 = .ok (.iaload, 1) := by decide +kernel
theorem dX0_weightIn_24 : decode cX0_weightIn 24 = .ok (.iload_n 2, 1) := by decide +kernel
theorem dX0_weightIn_25 : decode cX0_weightIn 25 = .ok (.iadd, 1) := by decide +kernel
theorem dX0_weightIn_26 : decode cX0_weightIn 26 = .ok (.bipush 30, 2) := by decide +kernel
theorem dX0_weightIn_28 : decode cX0_weightIn 28 = .ok (.if_icmp .lt 5, 3) := by decide +kernel
theorem dX0_weightIn_31 : decode cX0_weightIn 31 = .ok (.iconst 0, 1) := by decide +kernel
theorem dX0_weightIn_32 : decode cX0_weightIn 32 = .ok (.ireturn, 1) := by decide +kernel
theorem dX0_weightIn_33 : decode cX0_weightIn 33 = .ok (.aload_n 0, 1) := by decide +kernel
theorem dX0_weightIn_34 : decode cX0_weightIn 34 = .ok (.getfield 23, 3) := by decide +kernel
theorem dX0_weightIn_37 : decode cX0_weightIn 37 = .ok (.iload_n 1, 1) := by decide +kernel
theorem dX0_weightIn_38 : decode cX0_weightIn 38 = .ok (.iaload, 1) := by decide +kernel
theorem dX0_weightIn_39 : decode cX0_weightIn 39 = .ok (.istore_n 3, 1) := by decide +kernel
theorem dX0_weightIn_40 : decode cX0_weightIn 40 = .ok (.iconst 1, 1) := by decide +kernel
theorem dX0_weightIn_41 : decode cX0_weightIn 41 = .ok (.istore 4, 2) := by decide +kernel
theorem dX0_weightIn_43 : decode cX0_weightIn 43 = .ok (.iload 4, 2) := by decide +kernel
theorem dX0_weightIn_45 : decode cX0_weightIn 45 = .ok (.iload_n 2, 1) := by decide +kernel
theorem dX0_weightIn_46 : decode cX0_weightIn 46 = .ok (.if_icmp .gt 23, 3) := by decide +kernel
theorem dX0_weightIn_49 : decode cX0_weightIn 49 = .ok (.iload_n 3, 1) := by decide +kernel
theorem dX0_weightIn_50 : decode cX0_weightIn 50 = .ok (.aload_n 0, 1) := by decide +kernel
theorem dX0_weightIn_51 : decode cX0_weightIn 51 = .ok (.getfield 29, 3) := by decide +kernel
theorem dX0_weightIn_54 : decode cX0_weightIn 54 = .ok (.iload_n 1, 1) := by decide +kernel
theorem dX0_weightIn_55 : decode cX0_weightIn 55 = .ok (.iaload, 1) := by decide +kernel
theorem dX0_weightIn_56 : decode cX0_weightIn 56 = .ok (.iload 4, 2) := by decide +kernel
theorem dX0_weightIn_58 : decode cX0_weightIn 58 = .ok (.iadd, 1) := by decide +kernel
theorem dX0_weightIn_59 : decode cX0_weightIn 59 = .ok (.invokestatic 124, 3) := by decide +kernel
theorem dX0_weightIn_62 : decode cX0_weightIn 62 = .ok (.istore_n 3, 1) := by decide +kernel
theorem dX0_weightIn_63 : decode cX0_weightIn 63 = .ok (.iinc 4 1, 3) := by decide +kernel
theorem dX0_weightIn_66 : decode cX0_weightIn 66 = .ok (.goto (-23), 3) := by decide +kernel
theorem dX0_weightIn_69 : decode cX0_weightIn 69 = .ok (.iload_n 3, 1) := by decide +kernel
theorem dX0_weightIn_70 : decode cX0_weightIn 70 = .ok (.ireturn, 1) := by decide +kernel
set_option maxRecDepth 20000 in
theorem ggX0_daysUntilForgotten_X0_requireSlight : GoodIn wsX0_daysUntilForgotten wsX0_requireSlight := goodIn_ca (goodIn_r _ [7, 8, 9, 10, 11, 12, 13, 14, 15, 16, 17, 18, 19, 20, 21, 22] (by decide +kernel) (by decide +kernel)) (goodIn_sub (fun _ h => List.mem_cons_of_mem _ (List.mem_append_right _ h)) (by decide +kernel))
set_option maxRecDepth 20000 in
theorem gX0_daysUntilForgotten_X0_requireSlight : GoodIn wsX0_daysUntilForgotten (wsV RX0 65 RX0 yX0_requireSlight wsX0_requireSlight) := goodIn_app (goodIn_of _ (by decide +kernel)) ggX0_daysUntilForgotten_X0_requireSlight
theorem dX0_daysUntilForgotten_0 : decode cX0_daysUntilForgotten 0 = .ok (.aload_n 0, 1) := by decide +kernel
theorem dX0_daysUntilForgotten_1 : decode cX0_daysUntilForgotten 1 = .ok (.iload_n 1, 1) := by decide +kernel
theorem dX0_daysUntilForgotten_2 : decode cX0_daysUntilForgotten 2 = .ok (.invokevirtual 65, 3) := by decide +kernel
theorem dX0_daysUntilForgotten_5 : decode cX0_daysUntilForgotten 5 = .ok (.aload_n 0, 1) := by decide +kernel
theorem dX0_daysUntilForgotten_6 : decode cX0_daysUntilForgotten 6 = .ok (.getfield 26, 3) := by decide +kernel
theorem dX0_daysUntilForgotten_9 : decode cX0_daysUntilForgotten 9 = .ok (.iload_n 1, 1) := by decide +kernel
theorem dX0_daysUntilForgotten_10 : decode cX0_daysUntilForgotten 10 = .ok (.iaload, 1) := by decide +kernel
theorem dX0_daysUntilForgotten_11 : decode cX0_daysUntilForgotten 11 = .ok (.ifCond .ne 15, 3) := by decide +kernel
theorem dX0_daysUntilForgotten_14 : decode cX0_daysUntilForgotten 14 = .ok (.bipush 30, 2) := by decide +kernel
theorem dX0_daysUntilForgotten_16 : decode cX0_daysUntilForgotten 16 = .ok (.aload_n 0, 1) := by decide +kernel
theorem dX0_daysUntilForgotten_17 : decode cX0_daysUntilForgotten 17 = .ok (.getfield 32, 3) := by decide +kernel
theorem dX0_daysUntilForgotten_20 : decode cX0_daysUntilForgotten 20 = .ok (.iload_n 1, 1) := by decide +kernel
theorem dX0_daysUntilForgotten_21 : decode cX0_daysUntilForgotten 21 = .ok (.iaload, 1) := by decide +kernel
theorem dX0_daysUntilForgotten_22 : decode cX0_daysUntilForgotten 22 = .ok (.isub, 1) := by decide +kernel
theorem dX0_daysUntilForgotten_23 : decode cX0_daysUntilForgotten 23 = .ok (.goto 4, 3) := by decide +kernel
theorem dX0_daysUntilForgotten_26 : decode cX0_daysUntilForgotten 26 = .ok (.iconst (-1), 1) := by decide +kernel
theorem dX0_daysUntilForgotten_27 : decode cX0_daysUntilForgotten 27 = .ok (.ireturn, 1) := by decide +kernel
set_option maxRecDepth 20000 in
theorem ggX0_borneIn_X0_requirePerson : GoodIn wsX0_borneIn wsX0_requirePerson := goodIn_ca (goodIn_r _ [7, 8, 9, 10, 38, 39, 40, 41, 42, 43, 44, 45, 46, 47, 48, 49] (by decide +kernel) (by decide +kernel)) (goodIn_sub (fun _ h => List.mem_cons_of_mem _ (List.mem_append_left _ (List.mem_append_right _ h))) (by decide +kernel))
set_option maxRecDepth 20000 in
theorem gX0_borneIn_X0_requirePerson : GoodIn wsX0_borneIn (wsV RX0 50 RX0 yX0_requirePerson wsX0_requirePerson) := goodIn_app (goodIn_of _ (by decide +kernel)) ggX0_borneIn_X0_requirePerson
set_option maxRecDepth 20000 in
theorem ggX0_borneIn_X0_requireDays : GoodIn wsX0_borneIn wsX0_requireDays := goodIn_ca (goodIn_r _ [13, 14, 15] (by decide +kernel) (by decide +kernel)) (goodIn_sub (fun _ h => List.mem_cons_of_mem _ (List.mem_append_right _ h)) (by decide +kernel))
set_option maxRecDepth 20000 in
theorem gX0_borneIn_X0_requireDays : GoodIn wsX0_borneIn (va_wsS RX0 103 yX0_requireDays wsX0_requireDays) := goodIn_app (goodIn_of _ (by decide +kernel)) ggX0_borneIn_X0_requireDays
set_option maxRecDepth 20000 in
theorem ggX0_borneIn_X0_weightIn : GoodIn wsX0_borneIn wsX0_weightIn := goodIn_ca (goodIn_ca (goodIn_r _ [19, 20, 21, 22, 23, 24, 25, 26, 6, 27, 8, 9, 1, 11, 12, 13, 14, 15, 28, 29, 30, 31, 32, 33, 34, 35, 36, 37, 38, 39, 40, 41, 42, 43, 44, 45, 46, 47, 48, 49] (by decide +kernel) (by decide +kernel)) (goodIn_sub (fun _ h => List.mem_cons_of_mem _ (List.mem_append_left _ (List.mem_append_right _ h))) (by decide +kernel))) (goodIn_sub (fun _ h => List.mem_cons_of_mem _ (List.mem_append_right _ h)) (by decide +kernel))
set_option maxRecDepth 20000 in
theorem gX0_borneIn_X0_weightIn : GoodIn wsX0_borneIn (wsV RX0 127 RX0 yX0_weightIn wsX0_weightIn) := goodIn_app (goodIn_of _ (by decide +kernel)) ggX0_borneIn_X0_weightIn
theorem dX0_borneIn_0 : decode cX0_borneIn 0 = .ok (.aload_n 0, 1) := by decide +kernel
theorem dX0_borneIn_1 : decode cX0_borneIn 1 = .ok (.iload_n 1, 1) := by decide +kernel
theorem dX0_borneIn_2 : decode cX0_borneIn 2 = .ok (.invokevirtual 50, 3) := by decide +kernel
theorem dX0_borneIn_5 : decode cX0_borneIn 5 = .ok (.iload_n 2, 1) := by decide +kernel
theorem dX0_borneIn_6 : decode cX0_borneIn 6 = .ok (.invokestatic 103, 3) := by decide +kernel
theorem dX0_borneIn_9 : decode cX0_borneIn 9 = .ok (.iconst 0, 1) := by decide +kernel
theorem dX0_borneIn_10 : decode cX0_borneIn 10 = .ok (.istore_n 3, 1) := by decide +kernel
theorem dX0_borneIn_11 : decode cX0_borneIn 11 = .ok (.iconst 0, 1) := by decide +kernel
theorem dX0_borneIn_12 : decode cX0_borneIn 12 = .ok (.istore 4, 2) := by decide +kernel
theorem dX0_borneIn_14 : decode cX0_borneIn 14 = .ok (.iload 4, 2) := by decide +kernel
theorem dX0_borneIn_16 : decode cX0_borneIn 16 = .ok (.aload_n 0, 1) := by decide +kernel
theorem dX0_borneIn_17 : decode cX0_borneIn 17 = .ok (.getfield 60, 3) := by decide +kernel
theorem dX0_borneIn_20 : decode cX0_borneIn 20 = .ok (.if_icmp .ge 30, 3) := by decide +kernel
theorem dX0_borneIn_23 : decode cX0_borneIn 23 = .ok (.aload_n 0, 1) := by decide +kernel
theorem dX0_borneIn_24 : decode cX0_borneIn 24 = .ok (.getfield 20, 3) := by decide +kernel
theorem dX0_borneIn_27 : decode cX0_borneIn 27 = .ok (.iload 4, 2) := by decide +kernel
theorem dX0_borneIn_29 : decode cX0_borneIn 29 = .ok (.iaload, 1) := by decide +kernel
theorem dX0_borneIn_30 : decode cX0_borneIn 30 = .ok (.iload_n 1, 1) := by decide +kernel
theorem dX0_borneIn_31 : decode cX0_borneIn 31 = .ok (.if_icmp .ne 13, 3) := by decide +kernel
theorem dX0_borneIn_34 : decode cX0_borneIn 34 = .ok (.iload_n 3, 1) := by decide +kernel
theorem dX0_borneIn_35 : decode cX0_borneIn 35 = .ok (.aload_n 0, 1) := by decide +kernel
theorem dX0_borneIn_36 : decode cX0_borneIn 36 = .ok (.iload 4, 2) := by decide +kernel
theorem dX0_borneIn_38 : decode cX0_borneIn 38 = .ok (.iload_n 2, 1) := by decide +kernel
theorem dX0_borneIn_39 : decode cX0_borneIn 39 = .ok (.invokevirtual 127, 3) := by decide +kernel
theorem dX0_borneIn_42 : decode cX0_borneIn 42 = .ok (.iadd, 1) := by decide +kernel
theorem dX0_borneIn_43 : decode cX0_borneIn 43 = .ok (.istore_n 3, 1) := by decide +kernel
theorem dX0_borneIn_44 : decode cX0_borneIn 44 = .ok (.iinc 4 1, 3) := by decide +kernel
theorem dX0_borneIn_47 : decode cX0_borneIn 47 = .ok (.goto (-33), 3) := by decide +kernel
theorem dX0_borneIn_50 : decode cX0_borneIn 50 = .ok (.iload_n 3, 1) := by decide +kernel
theorem dX0_borneIn_51 : decode cX0_borneIn 51 = .ok (.ireturn, 1) := by decide +kernel
set_option maxRecDepth 20000 in
theorem ggX0_worstToKeep_X0_requirePerson : GoodIn wsX0_worstToKeep wsX0_requirePerson := goodIn_ca (goodIn_r _ [9, 10, 11, 12, 38, 39, 40, 41, 42, 43, 44, 45, 46, 47, 48, 49] (by decide +kernel) (by decide +kernel)) (goodIn_sub (fun _ h => List.mem_cons_of_mem _ (List.mem_append_left _ (List.mem_append_right _ h))) (by decide +kernel))
set_option maxRecDepth 20000 in
theorem gX0_worstToKeep_X0_requirePerson : GoodIn wsX0_worstToKeep (wsV RX0 50 RX0 yX0_requirePerson wsX0_requirePerson) := goodIn_app (goodIn_of _ (by decide +kernel)) ggX0_worstToKeep_X0_requirePerson
set_option maxRecDepth 20000 in
theorem ggX0_worstToKeep_X0_weightIn : GoodIn wsX0_worstToKeep wsX0_weightIn := goodIn_ca (goodIn_ca (goodIn_r _ [16, 2, 17, 4, 18, 19, 20, 21, 8, 22, 10, 11, 1, 23, 24, 25, 26, 27, 28, 29, 30, 31, 32, 33, 34, 35, 36, 37, 38, 39, 40, 41, 42, 43, 44, 45, 46, 47, 48, 49] (by decide +kernel) (by decide +kernel)) (goodIn_sub (fun _ h => List.mem_cons_of_mem _ (List.mem_append_left _ (List.mem_append_right _ h))) (by decide +kernel))) (goodIn_sub (fun _ h => List.mem_cons_of_mem _ (List.mem_append_right _ h)) (by decide +kernel))
set_option maxRecDepth 20000 in
theorem gX0_worstToKeep_X0_weightIn : GoodIn wsX0_worstToKeep (wsV RX0 127 RX0 yX0_weightIn wsX0_weightIn) := goodIn_app (goodIn_of _ (by decide +kernel)) ggX0_worstToKeep_X0_weightIn
theorem dX0_worstToKeep_0 : decode cX0_worstToKeep 0 = .ok (.aload_n 0, 1) := by decide +kernel
theorem dX0_worstToKeep_1 : decode cX0_worstToKeep 1 = .ok (.iload_n 1, 1) := by decide +kernel
theorem dX0_worstToKeep_2 : decode cX0_worstToKeep 2 = .ok (.invokevirtual 50, 3) := by decide +kernel
theorem dX0_worstToKeep_5 : decode cX0_worstToKeep 5 = .ok (.iconst (-1), 1) := by decide +kernel
theorem dX0_worstToKeep_6 : decode cX0_worstToKeep 6 = .ok (.istore_n 2, 1) := by decide +kernel
theorem dX0_worstToKeep_7 : decode cX0_worstToKeep 7 = .ok (.iconst 0, 1) := by decide +kernel
theorem dX0_worstToKeep_8 : decode cX0_worstToKeep 8 = .ok (.istore_n 3, 1) := by decide +kernel
theorem dX0_worstToKeep_9 : decode cX0_worstToKeep 9 = .ok (.iconst 0, 1) := by decide +kernel
theorem dX0_worstToKeep_10 : decode cX0_worstToKeep 10 = .ok (.istore 4, 2) := by decide +kernel
theorem dX0_worstToKeep_12 : decode cX0_worstToKeep 12 = .ok (.iload 4, 2) := by decide +kernel
theorem dX0_worstToKeep_14 : decode cX0_worstToKeep 14 = .ok (.aload_n 0, 1) := by decide +kernel
theorem dX0_worstToKeep_15 : decode cX0_worstToKeep 15 = .ok (.getfield 60, 3) := by decide +kernel
theorem dX0_worstToKeep_18 : decode cX0_worstToKeep 18 = .ok (.if_icmp .ge 65, 3) := by decide +kernel
theorem dX0_worstToKeep_21 : decode cX0_worstToKeep 21 = .ok (.aload_n 0, 1) := by decide +kernel
theorem dX0_worstToKeep_22 : decode cX0_worstToKeep 22 = .ok (.getfield 26, 3) := by decide +kernel
theorem dX0_worstToKeep_25 : decode cX0_worstToKeep 25 = .ok (.iload 4, 2) := by decide +kernel
theorem dX0_worstToKeep_27 : decode cX0_worstToKeep 27 = .ok (.iaload, 1) := by decide +kernel
theorem dX0_worstToKeep_28 : decode cX0_worstToKeep 28 = .ok (.ifCond .ne 49, 3) := by decide +kernel
theorem dX0_worstToKeep_31 : decode cX0_worstToKeep 31 = .ok (.aload_n 0, 1) := by decide +kernel
theorem dX0_worstToKeep_32 : decode cX0_worstToKeep 32 = .ok (.getfield 17, 3) := by decide +kernel
theorem dX0_worstToKeep_35 : decode cX0_worstToKeep 35 = .ok (.iload 4, 2) := by decide +kernel
theorem dX0_worstToKeep_37 : decode cX0_worstToKeep 37 = .ok (.iaload, 1) := by decide +kernel
theorem dX0_worstToKeep_38 : decode cX0_worstToKeep 38 = .ok (.iload_n 1, 1) := by decide +kernel
theorem dX0_worstToKeep_39 : decode cX0_worstToKeep 39 = .ok (.if_icmp .ne 38, 3) := by decide +kernel
theorem dX0_worstToKeep_42 : decode cX0_worstToKeep 42 = .ok (.aload_n 0, 1) := by decide +kernel
theorem dX0_worstToKeep_43 : decode cX0_worstToKeep 43 = .ok (.iload 4, 2) := by decide +kernel
theorem dX0_worstToKeep_45 : decode cX0_worstToKeep 45 = .ok (.bipush 20, 2) := by decide +kernel
theorem dX0_worstToKeep_47 : decode cX0_worstToKeep 47 = .ok (.invokevirtual 127, 3) := by decide +kernel
theorem dX0_worstToKeep_50 : decode cX0_worstToKeep 50 = .ok (.aload_n 0, 1) := by decide +kernel
theorem dX0_worstToKeep_51 : decode cX0_worstToKeep 51 = .ok (.getfield 23, 3) := by decide +kernel
theorem dX0_worstToKeep_54 : decode cX0_worstToKeep 54 = .ok (.iload 4, 2) := by decide +kernel
theorem dX0_worstToKeep_56 : decode cX0_worstToKeep 56 = .ok (.iaload, 1) := by decide +kernel
theorem dX0_worstToKeep_57 : decode cX0_worstToKeep 57 = .ok (.isub, 1) := by decide +kernel
theorem dX0_worstToKeep_58 : decode cX0_worstToKeep 58 = .ok (.istore 5, 2) := by decide +kernel
theorem dX0_worstToKeep_60 : decode cX0_worstToKeep 60 = .ok (.iload_n 2, 1) := by decide +kernel
theorem dX0_worstToKeep_61 : decode cX0_worstToKeep 61 = .ok (.iconst (-1), 1) := by decide +kernel
theorem dX0_worstToKeep_62 : decode cX0_worstToKeep 62 = .ok (.if_icmp .eq 9, 3) := by decide +kernel
theorem dX0_worstToKeep_65 : decode cX0_worstToKeep 65 = .ok (.iload 5, 2) := by decide +kernel
theorem dX0_worstToKeep_67 : decode cX0_worstToKeep 67 = .ok (.iload_n 3, 1) := by decide +kernel
theorem dX0_worstToKeep_68 : decode cX0_worstToKeep 68 = .ok (.if_icmp .le 9, 3) := by decide +kernel
theorem dX0_worstToKeep_71 : decode cX0_worstToKeep 71 = .ok (.iload 4, 2) := by decide +kernel
theorem dX0_worstToKeep_73 : decode cX0_worstToKeep 73 = .ok (.istore_n 2, 1) := by decide +kernel
theorem dX0_worstToKeep_74 : decode cX0_worstToKeep 74 = .ok (.iload 5, 2) := by decide +kernel
theorem dX0_worstToKeep_76 : decode cX0_worstToKeep 76 = .ok (.istore_n 3, 1) := by decide +kernel
theorem dX0_worstToKeep_77 : decode cX0_worstToKeep 77 = .ok (.iinc 4 1, 3) := by decide +kernel
theorem dX0_worstToKeep_80 : decode cX0_worstToKeep 80 = .ok (.goto (-68), 3) := by decide +kernel
theorem dX0_worstToKeep_83 : decode cX0_worstToKeep 83 = .ok (.iload_n 2, 1) := by decide +kernel
theorem dX0_worstToKeep_84 : decode cX0_worstToKeep 84 = .ok (.ireturn, 1) := by decide +kernel
theorem dX0_meanWeight_0 : decode cX0_meanWeight 0 = .ok (.iconst 0, 1) := by decide +kernel
theorem dX0_meanWeight_1 : decode cX0_meanWeight 1 = .ok (.istore_n 1, 1) := by decide +kernel
theorem dX0_meanWeight_2 : decode cX0_meanWeight 2 = .ok (.iconst 0, 1) := by decide +kernel
theorem dX0_meanWeight_3 : decode cX0_meanWeight 3 = .ok (.istore_n 2, 1) := by decide +kernel
theorem dX0_meanWeight_4 : decode cX0_meanWeight 4 = .ok (.iconst 0, 1) := by decide +kernel
theorem dX0_meanWeight_5 : decode cX0_meanWeight 5 = .ok (.istore_n 3, 1) := by decide +kernel
theorem dX0_meanWeight_6 : decode cX0_meanWeight 6 = .ok (.iload_n 3, 1) := by decide +kernel
theorem dX0_meanWeight_7 : decode cX0_meanWeight 7 = .ok (.aload_n 0, 1) := by decide +kernel
theorem dX0_meanWeight_8 : decode cX0_meanWeight 8 = .ok (.getfield 60, 3) := by decide +kernel
theorem dX0_meanWeight_11 : decode cX0_meanWeight 11 = .ok (.if_icmp .ge 30, 3) := by decide +kernel
theorem dX0_meanWeight_14 : decode cX0_meanWeight 14 = .ok (.aload_n 0, 1) := by decide +kernel
theorem dX0_meanWeight_15 : decode cX0_meanWeight 15 = .ok (.getfield 26, 3) := by decide +kernel
theorem dX0_meanWeight_18 : decode cX0_meanWeight 18 = .ok (.iload_n 3, 1) := by decide +kernel
theorem dX0_meanWeight_19 : decode cX0_meanWeight 19 = .ok (.iaload, 1) := by decide +kernel
theorem dX0_meanWeight_20 : decode cX0_meanWeight 20 = .ok (.ifCond .ne 15, 3) := by decide +kernel
theorem dX0_meanWeight_23 : decode cX0_meanWeight 23 = .ok (.iload_n 1, 1) := by decide +kernel
theorem dX0_meanWeight_24 : decode cX0_meanWeight 24 = .ok (.aload_n 0, 1) := by decide +kernel
theorem dX0_meanWeight_25 : decode cX0_meanWeight 25 = .ok (.getfield 23, 3) := by decide +kernel
theorem dX0_meanWeight_28 : decode cX0_meanWeight 28 = .ok (.iload_n 3, 1) := by decide +kernel
theorem dX0_meanWeight_29 : decode cX0_meanWeight 29 = .ok (.iaload, 1) := by decide +kernel
theorem dX0_meanWeight_30 : decode cX0_meanWeight 30 = .ok (.iadd, 1) := by decide +kernel
theorem dX0_meanWeight_31 : decode cX0_meanWeight 31 = .ok (.istore_n 1, 1) := by decide +kernel
theorem dX0_meanWeight_32 : decode cX0_meanWeight 32 = .ok (.iinc 2 1, 3) := by decide +kernel
theorem dX0_meanWeight_35 : decode cX0_meanWeight 35 = .ok (.iinc 3 1, 3) := by decide +kernel
theorem dX0_meanWeight_38 : decode cX0_meanWeight 38 = .ok (.goto (-32), 3) := by decide +kernel
theorem dX0_meanWeight_41 : decode cX0_meanWeight 41 = .ok (.iload_n 2, 1) := by decide +kernel
theorem dX0_meanWeight_42 : decode cX0_meanWeight 42 = .ok (.ifCond .ne 7, 3) := by decide +kernel
theorem dX0_meanWeight_45 : decode cX0_meanWeight 45 = .ok (.dconst 0, 1) := by decide +kernel
theorem dX0_meanWeight_46 : decode cX0_meanWeight 46 = .ok (.goto 8, 3) := by decide +kernel
theorem dX0_meanWeight_49 : decode cX0_meanWeight 49 = .ok (.iload_n 1, 1) := by decide +kernel
theorem dX0_meanWeight_50 : decode cX0_meanWeight 50 = .ok (.i2d, 1) := by decide +kernel
theorem dX0_meanWeight_51 : decode cX0_meanWeight 51 = .ok (.iload_n 2, 1) := by decide +kernel
theorem dX0_meanWeight_52 : decode cX0_meanWeight 52 = .ok (.i2d, 1) := by decide +kernel
theorem dX0_meanWeight_53 : decode cX0_meanWeight 53 = .ok (.ddiv, 1) := by decide +kernel
theorem dX0_meanWeight_54 : decode cX0_meanWeight 54 = .ok (.dreturn, 1) := by decide +kernel
set_option maxRecDepth 20000 in
theorem ggX0_digest_X0_digestOfTheWhole : GoodIn wsX0_digest wsX0_digestOfTheWhole := goodIn_ca (goodIn_ca (goodIn_r _ [8, 9, 10, 11, 7, 12, 13, 14, 15, 16, 17, 18, 19, 20, 21, 2, 22, 23, 24, 25, 3, 26, 27, 28, 29, 30, 31, 32, 33, 34, 35, 36, 37, 38, 39, 40, 41, 42, 43, 44, 45, 46, 47, 48, 49, 50, 51, 52, 53, 54, 55, 56, 57, 58, 59, 60, 61, 62, 63, 64, 65, 66, 67, 68, 69, 70, 71, 72, 73, 74, 75, 76, 77, 78, 79, 80, 81, 82, 83, 168, 169, 170, 171, 172, 173, 174, 175, 176, 177, 178, 179] (by decide +kernel) (by decide +kernel)) (goodIn_sub (fun _ h => List.mem_cons_of_mem _ (List.mem_append_left _ (List.mem_append_right _ h))) (by decide +kernel))) (goodIn_sub (fun _ h => List.mem_cons_of_mem _ (List.mem_append_right _ h)) (by decide +kernel))
set_option maxRecDepth 20000 in
theorem gX0_digest_X0_digestOfTheWhole : GoodIn wsX0_digest (wsV RX0 132 RX0 yX0_digestOfTheWhole wsX0_digestOfTheWhole) := goodIn_app (goodIn_of _ (by decide +kernel)) ggX0_digest_X0_digestOfTheWhole
set_option maxRecDepth 20000 in
theorem ggX0_digest_X0_digestOfPerson : GoodIn wsX0_digest wsX0_digestOfPerson := goodIn_ca (goodIn_ca (goodIn_r _ [87, 88, 89, 90, 7, 91, 30, 47, 48, 49, 50, 51, 52, 2, 14, 15, 16, 17, 92, 93, 94, 95, 96, 40, 41, 42, 43, 3, 44, 45, 46, 97, 98, 99, 100, 75, 101, 102, 103, 104, 105, 106, 107, 57, 58, 108, 109, 110, 111, 112, 113, 76, 77, 78, 79, 114, 115, 116, 117, 118, 119, 120, 121, 122, 123, 124, 125, 126, 127, 168, 169, 170, 171, 172, 173, 174, 175, 176, 177, 178, 179] (by decide +kernel) (by decide +kernel)) (goodIn_sub (fun _ h => List.mem_cons_of_mem _ (List.mem_append_left _ (List.mem_append_right _ h))) (by decide +kernel))) (goodIn_sub (fun _ h => List.mem_cons_of_mem _ (List.mem_append_right _ h)) (by decide +kernel))
set_option maxRecDepth 20000 in
theorem gX0_digest_X0_digestOfPerson : GoodIn wsX0_digest (wsV RX0 136 RX0 yX0_digestOfPerson wsX0_digestOfPerson) := goodIn_app (goodIn_of _ (by decide +kernel)) ggX0_digest_X0_digestOfPerson
set_option maxRecDepth 20000 in
theorem ggX0_digest_X0_digestOfSlight : GoodIn wsX0_digest wsX0_digestOfSlight := goodIn_ca (goodIn_ca (goodIn_r _ [131, 132, 133, 134, 7, 135, 46, 76, 77, 78, 79, 51, 52, 3, 14, 15, 16, 17, 136, 137, 138, 139, 44, 140, 141, 142, 143, 113, 144, 145, 146, 147, 112, 148, 149, 150, 151, 2, 30, 75, 45, 152, 153, 154, 155, 117, 118, 119, 120, 156, 157, 158, 159, 80, 81, 82, 83, 92, 93, 94, 95, 96, 47, 48, 49, 50, 160, 161, 162, 163, 108, 109, 110, 111, 105, 106, 107, 57, 58, 114, 115, 116, 121, 122, 123, 164, 165, 166, 167, 168, 169, 170, 171, 172, 173, 174, 175, 176, 177, 178, 179] (by decide +kernel) (by decide +kernel)) (goodIn_sub (fun _ h => List.mem_cons_of_mem _ (List.mem_append_left _ (List.mem_append_right _ h))) (by decide +kernel))) (goodIn_sub (fun _ h => List.mem_cons_of_mem _ (List.mem_append_right _ h)) (by decide +kernel))
set_option maxRecDepth 20000 in
theorem gX0_digest_X0_digestOfSlight : GoodIn wsX0_digest (wsV RX0 140 RX0 yX0_digestOfSlight wsX0_digestOfSlight) := goodIn_app (goodIn_of _ (by decide +kernel)) ggX0_digest_X0_digestOfSlight
theorem dX0_digest_0 : decode cX0_digest 0 = .ok (.aload_n 0, 1) := by decide +kernel
theorem dX0_digest_1 : decode cX0_digest 1 = .ok (.ldc2_w 130, 3) := by decide +kernel
theorem dX0_digest_4 : decode cX0_digest 4 = .ok (.invokevirtual 132, 3) := by decide +kernel
theorem dX0_digest_7 : decode cX0_digest 7 = .ok (.lstore_n 1, 1) := by decide +kernel
theorem dX0_digest_8 : decode cX0_digest 8 = .ok (.iconst 0, 1) := by decide +kernel
theorem dX0_digest_9 : decode cX0_digest 9 = .ok (.istore_n 3, 1) := by decide +kernel
theorem dX0_digest_10 : decode cX0_digest 10 = .ok (.iload_n 3, 1) := by decide +kernel
theorem dX0_digest_11 : decode cX0_digest 11 = .ok (.aload_n 0, 1) := by decide +kernel
theorem dX0_digest_12 : decode cX0_digest 12 = .ok (.getfield 39, 3) := by decide +kernel
theorem dX0_digest_15 : decode cX0_digest 15 = .ok (.if_icmp .ge 16, 3) := by decide +kernel
theorem dX0_digest_18 : decode cX0_digest 18 = .ok (.aload_n 0, 1) := by decide +kernel
theorem dX0_digest_19 : decode cX0_digest 19 = .ok (.lload_n 1, 1) := by decide +kernel
theorem dX0_digest_20 : decode cX0_digest 20 = .ok (.iload_n 3, 1) := by decide +kernel
theorem dX0_digest_21 : decode cX0_digest 21 = .ok (.invokevirtual 136, 3) := by decide +kernel
theorem dX0_digest_24 : decode cX0_digest 24 = .ok (.lstore_n 1, 1) := by decide +kernel
theorem dX0_digest_25 : decode cX0_digest 25 = .ok (.iinc 3 1, 3) := by decide +kernel
theorem dX0_digest_28 : decode cX0_digest 28 = .ok (.goto (-18), 3) := by decide +kernel
theorem dX0_digest_31 : decode cX0_digest 31 = .ok (.iconst 0, 1) := by decide +kernel
theorem dX0_digest_32 : decode cX0_digest 32 = .ok (.istore_n 3, 1) := by decide +kernel
theorem dX0_digest_33 : decode cX0_digest 33 = .ok (.iload_n 3, 1) := by decide +kernel
theorem dX0_digest_34 : decode cX0_digest 34 = .ok (.aload_n 0, 1) := by decide +kernel
theorem dX0_digest_35 : decode cX0_digest 35 = .ok (.getfield 60, 3) := by decide +kernel
theorem dX0_digest_38 : decode cX0_digest 38 = .ok (.if_icmp .ge 16, 3) := by decide +kernel
theorem dX0_digest_41 : decode cX0_digest 41 = .ok (.aload_n 0, 1) := by decide +kernel
theorem dX0_digest_42 : decode cX0_digest 42 = .ok (.lload_n 1, 1) := by decide +kernel
theorem dX0_digest_43 : decode cX0_digest 43 = .ok (.iload_n 3, 1) := by decide +kernel
theorem dX0_digest_44 : decode cX0_digest 44 = .ok (.invokevirtual 140, 3) := by decide +kernel
theorem dX0_digest_47 : decode cX0_digest 47 = .ok (.lstore_n 1, 1) := by decide +kernel
theorem dX0_digest_48 : decode cX0_digest 48 = .ok (.iinc 3 1, 3) := by decide +kernel
theorem dX0_digest_51 : decode cX0_digest 51 = .ok (.goto (-18), 3) := by decide +kernel
theorem dX0_digest_54 : decode cX0_digest 54 = .ok (.lload_n 1, 1) := by decide +kernel
theorem dX0_digest_55 : decode cX0_digest 55 = .ok (.lreturn, 1) := by decide +kernel
theorem dX0_requirePerson_0 : decode cX0_requirePerson 0 = .ok (.iload_n 1, 1) := by decide +kernel
theorem dX0_requirePerson_1 : decode cX0_requirePerson 1 = .ok (.ifCond .lt 11, 3) := by decide +kernel
theorem dX0_requirePerson_4 : decode cX0_requirePerson 4 = .ok (.iload_n 1, 1) := by decide +kernel
theorem dX0_requirePerson_5 : decode cX0_requirePerson 5 = .ok (.aload_n 0, 1) := by decide +kernel
theorem dX0_requirePerson_6 : decode cX0_requirePerson 6 = .ok (.getfield 39, 3) := by decide +kernel
theorem dX0_requirePerson_9 : decode cX0_requirePerson 9 = .ok (.if_icmp .lt 13, 3) := by decide +kernel
theorem dX0_requirePerson_12 : decode cX0_requirePerson 12 = .ok (.new 143, 3) := by decide +kernel
theorem dX0_requirePerson_15 : decode cX0_requirePerson 15 = .ok (.dup, 1) := by decide +kernel
theorem dX0_requirePerson_16 : decode cX0_requirePerson 16 = .ok (.ldc 145, 2) := by decide +kernel
theorem dX0_requirePerson_18 : decode cX0_requirePerson 18 = .ok (.invokespecial 147, 3) := by decide +kernel
theorem dX0_requirePerson_21 : decode cX0_requirePerson 21 = .ok (.athrow, 1) := by decide +kernel
theorem dX0_requirePerson_22 : decode cX0_requirePerson 22 = .ok (.return_, 1) := by decide +kernel
theorem dX0_requireSlight_0 : decode cX0_requireSlight 0 = .ok (.iload_n 1, 1) := by decide +kernel
theorem dX0_requireSlight_1 : decode cX0_requireSlight 1 = .ok (.ifCond .lt 11, 3) := by decide +kernel
theorem dX0_requireSlight_4 : decode cX0_requireSlight 4 = .ok (.iload_n 1, 1) := by decide +kernel
theorem dX0_requireSlight_5 : decode cX0_requireSlight 5 = .ok (.aload_n 0, 1) := by decide +kernel
theorem dX0_requireSlight_6 : decode cX0_requireSlight 6 = .ok (.getfield 60, 3) := by decide +kernel
theorem dX0_requireSlight_9 : decode cX0_requireSlight 9 = .ok (.if_icmp .lt 13, 3) := by decide +kernel
theorem dX0_requireSlight_12 : decode cX0_requireSlight 12 = .ok (.new 143, 3) := by decide +kernel
theorem dX0_requireSlight_15 : decode cX0_requireSlight 15 = .ok (.dup, 1) := by decide +kernel
theorem dX0_requireSlight_16 : decode cX0_requireSlight 16 = .ok (.ldc 148, 2) := by decide +kernel
theorem dX0_requireSlight_18 : decode cX0_requireSlight 18 = .ok (.invokespecial 147, 3) := by decide +kernel
theorem dX0_requireSlight_21 : decode cX0_requireSlight 21 = .ok (.athrow, 1) := by decide +kernel
theorem dX0_requireSlight_22 : decode cX0_requireSlight 22 = .ok (.return_, 1) := by decide +kernel
set_option maxRecDepth 20000 in
theorem ggX0_requireOpen_X0_stateOf : GoodIn wsX0_requireOpen wsX0_stateOf := goodIn_ca (goodIn_r _ [7, 8, 9, 10, 11, 6, 12, 13, 14, 15, 16, 17, 18, 19, 20, 21, 22, 23, 24, 25, 26, 27] (by decide +kernel) (by decide +kernel)) (goodIn_sub (fun _ h => List.mem_cons_of_mem _ (List.mem_append_right _ h)) (by decide +kernel))
set_option maxRecDepth 20000 in
theorem gX0_requireOpen_X0_stateOf : GoodIn wsX0_requireOpen (wsV RX0 150 RX0 yX0_stateOf wsX0_stateOf) := goodIn_app (goodIn_of _ (by decide +kernel)) ggX0_requireOpen_X0_stateOf
theorem dX0_requireOpen_0 : decode cX0_requireOpen 0 = .ok (.aload_n 0, 1) := by decide +kernel
theorem dX0_requireOpen_1 : decode cX0_requireOpen 1 = .ok (.iload_n 1, 1) := by decide +kernel
theorem dX0_requireOpen_2 : decode cX0_requireOpen 2 = .ok (.invokevirtual 150, 3) := by decide +kernel
theorem dX0_requireOpen_5 : decode cX0_requireOpen 5 = .ok (.ifCond .eq 13, 3) := by decide +kernel
theorem dX0_requireOpen_8 : decode cX0_requireOpen 8 = .ok (.new 43, 3) := by decide +kernel
theorem dX0_requireOpen_11 : decode cX0_requireOpen 11 = .ok (.dup, 1) := by decide +kernel
theorem dX0_requireOpen_12 : decode cX0_requireOpen 12 = .ok (.ldc 153, 2) := by decide +kernel
theorem dX0_requireOpen_14 : decode cX0_requireOpen 14 = .ok (.invokespecial 47, 3) := by decide +kernel
theorem dX0_requireOpen_17 : decode cX0_requireOpen 17 = .ok (.athrow, 1) := by decide +kernel
theorem dX0_requireOpen_18 : decode cX0_requireOpen 18 = .ok (.return_, 1) := by decide +kernel
theorem dX0_requirePride_0 : decode cX0_requirePride 0 = .ok (.iload_n 0, 1) := by decide +kernel
theorem dX0_requirePride_1 : decode cX0_requirePride 1 = .ok (.ifCond .lt 9, 3) := by decide +kernel
theorem dX0_requirePride_4 : decode cX0_requirePride 4 = .ok (.iload_n 0, 1) := by decide +kernel
theorem dX0_requirePride_5 : decode cX0_requirePride 5 = .ok (.bipush 9, 2) := by decide +kernel
theorem dX0_requirePride_7 : decode cX0_requirePride 7 = .ok (.if_icmp .le 13, 3) := by decide +kernel
theorem dX0_requirePride_10 : decode cX0_requirePride 10 = .ok (.new 53, 3) := by decide +kernel
theorem dX0_requirePride_13 : decode cX0_requirePride 13 = .ok (.dup, 1) := by decide +kernel
theorem dX0_requirePride_14 : decode cX0_requirePride 14 = .ok (.ldc 155, 2) := by decide +kernel
theorem dX0_requirePride_16 : decode cX0_requirePride 16 = .ok (.invokespecial 57, 3) := by decide +kernel
theorem dX0_requirePride_19 : decode cX0_requirePride 19 = .ok (.athrow, 1) := by decide +kernel
theorem dX0_requirePride_20 : decode cX0_requirePride 20 = .ok (.return_, 1) := by decide +kernel
theorem dX0_requireWords_0 : decode cX0_requireWords 0 = .ok (.iload_n 0, 1) := by decide +kernel
theorem dX0_requireWords_1 : decode cX0_requireWords 1 = .ok (.iconst 1, 1) := by decide +kernel
theorem dX0_requireWords_2 : decode cX0_requireWords 2 = .ok (.if_icmp .lt 9, 3) := by decide +kernel
theorem dX0_requireWords_5 : decode cX0_requireWords 5 = .ok (.iload_n 0, 1) := by decide +kernel
theorem dX0_requireWords_6 : decode cX0_requireWords 6 = .ok (.bipush 20, 2) := by decide +kernel
theorem dX0_requireWords_8 : decode cX0_requireWords 8 = .ok (.if_icmp .le 13, 3) := by decide +kernel
theorem dX0_requireWords_11 : decode cX0_requireWords 11 = .ok (.new 53, 3) := by decide +kernel
theorem dX0_requireWords_14 : decode cX0_requireWords 14 = .ok (.dup, 1) := by decide +kernel
theorem dX0_requireWords_15 : decode cX0_requireWords 15 = .ok (.ldc 157, 2) := by decide +kernel
theorem dX0_requireWords_17 : decode cX0_requireWords 17 = .ok (.invokespecial 57, 3) := by decide +kernel
theorem dX0_requireWords_20 : decode cX0_requireWords 20 = .ok (.athrow, 1) := by decide +kernel
theorem dX0_requireWords_21 : decode cX0_requireWords 21 = .ok (.return_, 1) := by decide +kernel
theorem dX0_requireDays_0 : decode cX0_requireDays 0 = .ok (.iload_n 0, 1) := by decide +kernel
theorem dX0_requireDays_1 : decode cX0_requireDays 1 = .ok (.iconst 1, 1) := by decide +kernel
theorem dX0_requireDays_2 : decode cX0_requireDays 2 = .ok (.if_icmp .lt 9, 3) := by decide +kernel
theorem dX0_requireDays_5 : decode cX0_requireDays 5 = .ok (.iload_n 0, 1) := by decide +kernel
theorem dX0_requireDays_6 : decode cX0_requireDays 6 = .ok (.bipush 60, 2) := by decide +kernel
theorem dX0_requireDays_8 : decode cX0_requireDays 8 = .ok (.if_icmp .le 13, 3) := by decide +kernel
theorem dX0_requireDays_11 : decode cX0_requireDays 11 = .ok (.new 53, 3) := by decide +kernel
theorem dX0_requireDays_14 : decode cX0_requireDays 14 = .ok (.dup, 1) := by decide +kernel
theorem dX0_requireDays_15 : decode cX0_requireDays 15 = .ok (.ldc 159, 2) := by decide +kernel
theorem dX0_requireDays_17 : decode cX0_requireDays 17 = .ok (.invokespecial 57, 3) := by decide +kernel
theorem dX0_requireDays_20 : decode cX0_requireDays 20 = .ok (.athrow, 1) := by decide +kernel
theorem dX0_requireDays_21 : decode cX0_requireDays 21 = .ok (.return_, 1) := by decide +kernel
set_option maxRecDepth 20000 in
theorem ggX0_speakOf_X0_requireSlight : GoodIn wsX0_speakOf wsX0_requireSlight := goodIn_ca (goodIn_r _ [11, 12, 13, 14, 15, 16, 17, 18, 19, 20, 21, 22, 23, 24, 25, 26] (by decide +kernel) (by decide +kernel)) (goodIn_sub (fun _ h => List.mem_cons_of_mem _ (List.mem_append_right _ h)) (by decide +kernel))
set_option maxRecDepth 20000 in
theorem gX0_speakOf_X0_requireSlight : GoodIn wsX0_speakOf (wsV RX0 65 RX0 yX0_requireSlight wsX0_requireSlight) := goodIn_app (goodIn_of _ (by decide +kernel)) ggX0_speakOf_X0_requireSlight
theorem dX0_speakOf_0 : decode cX0_speakOf 0 = .ok (.aload_n 0, 1) := by decide +kernel
theorem dX0_speakOf_1 : decode cX0_speakOf 1 = .ok (.iload_n 1, 1) := by decide +kernel
theorem dX0_speakOf_2 : decode cX0_speakOf 2 = .ok (.invokevirtual 65, 3) := by decide +kernel
theorem dX0_speakOf_5 : decode cX0_speakOf 5 = .ok (.aload_n 0, 1) := by decide +kernel
theorem dX0_speakOf_6 : decode cX0_speakOf 6 = .ok (.getfield 23, 3) := by decide +kernel
theorem dX0_speakOf_9 : decode cX0_speakOf 9 = .ok (.iload_n 1, 1) := by decide +kernel
theorem dX0_speakOf_10 : decode cX0_speakOf 10 = .ok (.aload_n 0, 1) := by decide +kernel
theorem dX0_speakOf_11 : decode cX0_speakOf 11 = .ok (.getfield 23, 3) := by decide +kernel
theorem dX0_speakOf_14 : decode cX0_speakOf 14 = .ok (.iload_n 1, 1) := by decide +kernel
theorem dX0_speakOf_15 : decode cX0_speakOf 15 = .ok (.iaload, 1) := by decide +kernel
theorem dX0_speakOf_16 : decode cX0_speakOf 16 = .ok (.iconst 1, 1) := by decide +kernel
theorem dX0_speakOf_17 : decode cX0_speakOf 17 = .ok (.iadd, 1) := by decide +kernel
theorem dX0_speakOf_18 : decode cX0_speakOf 18 = .ok (.bipush 99, 2) := by decide +kernel
theorem dX0_speakOf_20 : decode cX0_speakOf 20 = .ok (.invokestatic 98, 3) := by decide +kernel
theorem dX0_speakOf_23 : decode cX0_speakOf 23 = .ok (.iastore, 1) := by decide +kernel
theorem dX0_speakOf_24 : decode cX0_speakOf 24 = .ok (.aload_n 0, 1) := by decide +kernel
theorem dX0_speakOf_25 : decode cX0_speakOf 25 = .ok (.getfield 32, 3) := by decide +kernel
theorem dX0_speakOf_28 : decode cX0_speakOf 28 = .ok (.iload_n 1, 1) := by decide +kernel
theorem dX0_speakOf_29 : decode cX0_speakOf 29 = .ok (.iconst 0, 1) := by decide +kernel
theorem dX0_speakOf_30 : decode cX0_speakOf 30 = .ok (.iastore, 1) := by decide +kernel
theorem dX0_speakOf_31 : decode cX0_speakOf 31 = .ok (.return_, 1) := by decide +kernel
set_option maxRecDepth 20000 in
theorem ggX0_lighten_X0_requireSlight : GoodIn wsX0_lighten wsX0_requireSlight := goodIn_ca (goodIn_r _ [6, 7, 8, 9, 15, 16, 17, 18, 19, 20, 21, 22, 23, 24, 25, 26] (by decide +kernel) (by decide +kernel)) (goodIn_sub (fun _ h => List.mem_cons_of_mem _ (List.mem_append_right _ h)) (by decide +kernel))
set_option maxRecDepth 20000 in
theorem gX0_lighten_X0_requireSlight : GoodIn wsX0_lighten (wsV RX0 65 RX0 yX0_requireSlight wsX0_requireSlight) := goodIn_app (goodIn_of _ (by decide +kernel)) ggX0_lighten_X0_requireSlight
set_option maxRecDepth 20000 in
theorem ggX0_lighten_X0_close : GoodIn wsX0_lighten wsX0_close := goodIn_ca (goodIn_r _ [13, 14, 1, 2, 3, 4, 5, 6, 7, 8, 9, 15, 16, 17, 18, 19, 20, 21, 22, 23, 24, 25, 26] (by decide +kernel) (by decide +kernel)) (goodIn_sub (fun _ h => List.mem_cons_of_mem _ (List.mem_append_right _ h)) (by decide +kernel))
set_option maxRecDepth 20000 in
theorem gX0_lighten_X0_close : GoodIn wsX0_lighten (wsV RX0 161 RX0 yX0_close wsX0_close) := goodIn_app (goodIn_of _ (by decide +kernel)) ggX0_lighten_X0_close
theorem dX0_lighten_0 : decode cX0_lighten 0 = .ok (.aload_n 0, 1) := by decide +kernel
theorem dX0_lighten_1 : decode cX0_lighten 1 = .ok (.iload_n 1, 1) := by decide +kernel
theorem dX0_lighten_2 : decode cX0_lighten 2 = .ok (.invokevirtual 65, 3) := by decide +kernel
theorem dX0_lighten_5 : decode cX0_lighten 5 = .ok (.aload_n 0, 1) := by decide +kernel
theorem dX0_lighten_6 : decode cX0_lighten 6 = .ok (.getfield 23, 3) := by decide +kernel
theorem dX0_lighten_9 : decode cX0_lighten 9 = .ok (.iload_n 1, 1) := by decide +kernel
theorem dX0_lighten_10 : decode cX0_lighten 10 = .ok (.iaload, 1) := by decide +kernel
theorem dX0_lighten_11 : decode cX0_lighten 11 = .ok (.iload_n 2, 1) := by decide +kernel
theorem dX0_lighten_12 : decode cX0_lighten 12 = .ok (.isub, 1) := by decide +kernel
theorem dX0_lighten_13 : decode cX0_lighten 13 = .ok (.istore 4, 2) := by decide +kernel
theorem dX0_lighten_15 : decode cX0_lighten 15 = .ok (.iload 4, 2) := by decide +kernel
theorem dX0_lighten_17 : decode cX0_lighten 17 = .ok (.ifCond .le 14, 3) := by decide +kernel
theorem dX0_lighten_20 : decode cX0_lighten 20 = .ok (.aload_n 0, 1) := by decide +kernel
theorem dX0_lighten_21 : decode cX0_lighten 21 = .ok (.getfield 23, 3) := by decide +kernel
theorem dX0_lighten_24 : decode cX0_lighten 24 = .ok (.iload_n 1, 1) := by decide +kernel
theorem dX0_lighten_25 : decode cX0_lighten 25 = .ok (.iload 4, 2) := by decide +kernel
theorem dX0_lighten_27 : decode cX0_lighten 27 = .ok (.iastore, 1) := by decide +kernel
theorem dX0_lighten_28 : decode cX0_lighten 28 = .ok (.goto 9, 3) := by decide +kernel
theorem dX0_lighten_31 : decode cX0_lighten 31 = .ok (.aload_n 0, 1) := by decide +kernel
theorem dX0_lighten_32 : decode cX0_lighten 32 = .ok (.iload_n 1, 1) := by decide +kernel
theorem dX0_lighten_33 : decode cX0_lighten 33 = .ok (.iload_n 3, 1) := by decide +kernel
theorem dX0_lighten_34 : decode cX0_lighten 34 = .ok (.invokevirtual 161, 3) := by decide +kernel
theorem dX0_lighten_37 : decode cX0_lighten 37 = .ok (.return_, 1) := by decide +kernel
set_option maxRecDepth 20000 in
theorem ggX0_close_X0_requireSlight : GoodIn wsX0_close wsX0_requireSlight := goodIn_ca (goodIn_r _ [7, 8, 9, 10, 11, 12, 13, 14, 15, 16, 17, 18, 19, 20, 21, 22] (by decide +kernel) (by decide +kernel)) (goodIn_sub (fun _ h => List.mem_cons_of_mem _ (List.mem_append_right _ h)) (by decide +kernel))
set_option maxRecDepth 20000 in
theorem gX0_close_X0_requireSlight : GoodIn wsX0_close (wsV RX0 65 RX0 yX0_requireSlight wsX0_requireSlight) := goodIn_app (goodIn_of _ (by decide +kernel)) ggX0_close_X0_requireSlight
theorem dX0_close_0 : decode cX0_close 0 = .ok (.aload_n 0, 1) := by decide +kernel
theorem dX0_close_1 : decode cX0_close 1 = .ok (.iload_n 1, 1) := by decide +kernel
theorem dX0_close_2 : decode cX0_close 2 = .ok (.invokevirtual 65, 3) := by decide +kernel
theorem dX0_close_5 : decode cX0_close 5 = .ok (.aload_n 0, 1) := by decide +kernel
theorem dX0_close_6 : decode cX0_close 6 = .ok (.getfield 26, 3) := by decide +kernel
theorem dX0_close_9 : decode cX0_close 9 = .ok (.iload_n 1, 1) := by decide +kernel
theorem dX0_close_10 : decode cX0_close 10 = .ok (.iload_n 2, 1) := by decide +kernel
theorem dX0_close_11 : decode cX0_close 11 = .ok (.iastore, 1) := by decide +kernel
theorem dX0_close_12 : decode cX0_close 12 = .ok (.aload_n 0, 1) := by decide +kernel
theorem dX0_close_13 : decode cX0_close 13 = .ok (.getfield 23, 3) := by decide +kernel
theorem dX0_close_16 : decode cX0_close 16 = .ok (.iload_n 1, 1) := by decide +kernel
theorem dX0_close_17 : decode cX0_close 17 = .ok (.iconst 0, 1) := by decide +kernel
theorem dX0_close_18 : decode cX0_close 18 = .ok (.iastore, 1) := by decide +kernel
theorem dX0_close_19 : decode cX0_close 19 = .ok (.return_, 1) := by decide +kernel
set_option maxRecDepth 20000 in
theorem ggX0_passOneDay_X0_bearOneDay : GoodIn wsX0_passOneDay wsX0_bearOneDay := goodIn_ca (goodIn_r _ [8, 9, 10, 11, 12, 13, 14, 7, 15, 16, 17, 1, 18, 19, 20, 21, 22, 23, 24, 25, 26, 27, 28, 29, 30, 31, 2, 32, 33, 34, 35, 36, 37, 38, 39, 40, 41, 42, 43] (by decide +kernel) (by decide +kernel)) (goodIn_sub (fun _ h => List.mem_cons_of_mem _ (List.mem_append_right _ h)) (by decide +kernel))
set_option maxRecDepth 20000 in
theorem gX0_passOneDay_X0_bearOneDay : GoodIn wsX0_passOneDay (wsV RX0 165 RX0 yX0_bearOneDay wsX0_bearOneDay) := goodIn_app (goodIn_of _ (by decide +kernel)) ggX0_passOneDay_X0_bearOneDay
theorem dX0_passOneDay_0 : decode cX0_passOneDay 0 = .ok (.iconst 0, 1) := by decide +kernel
theorem dX0_passOneDay_1 : decode cX0_passOneDay 1 = .ok (.istore_n 1, 1) := by decide +kernel
theorem dX0_passOneDay_2 : decode cX0_passOneDay 2 = .ok (.iconst 0, 1) := by decide +kernel
theorem dX0_passOneDay_3 : decode cX0_passOneDay 3 = .ok (.istore_n 2, 1) := by decide +kernel
theorem dX0_passOneDay_4 : decode cX0_passOneDay 4 = .ok (.iload_n 2, 1) := by decide +kernel
theorem dX0_passOneDay_5 : decode cX0_passOneDay 5 = .ok (.aload_n 0, 1) := by decide +kernel
theorem dX0_passOneDay_6 : decode cX0_passOneDay 6 = .ok (.getfield 60, 3) := by decide +kernel
theorem dX0_passOneDay_9 : decode cX0_passOneDay 9 = .ok (.if_icmp .ge 36, 3) := by decide +kernel
theorem dX0_passOneDay_12 : decode cX0_passOneDay 12 = .ok (.aload_n 0, 1) := by decide +kernel
theorem dX0_passOneDay_13 : decode cX0_passOneDay 13 = .ok (.getfield 26, 3) := by decide +kernel
theorem dX0_passOneDay_16 : decode cX0_passOneDay 16 = .ok (.iload_n 2, 1) := by decide +kernel
theorem dX0_passOneDay_17 : decode cX0_passOneDay 17 = .ok (.iaload, 1) := by decide +kernel
theorem dX0_passOneDay_18 : decode cX0_passOneDay 18 = .ok (.ifCond .ne 21, 3) := by decide +kernel
theorem dX0_passOneDay_21 : decode cX0_passOneDay 21 = .ok (.aload_n 0, 1) := by decide +kernel
theorem dX0_passOneDay_22 : decode cX0_passOneDay 22 = .ok (.iload_n 2, 1) := by decide +kernel
theorem dX0_passOneDay_23 : decode cX0_passOneDay 23 = .ok (.invokevirtual 165, 3) := by decide +kernel
theorem dX0_passOneDay_26 : decode cX0_passOneDay 26 = .ok (.aload_n 0, 1) := by decide +kernel
theorem dX0_passOneDay_27 : decode cX0_passOneDay 27 = .ok (.getfield 26, 3) := by decide +kernel
theorem dX0_passOneDay_30 : decode cX0_passOneDay 30 = .ok (.iload_n 2, 1) := by decide +kernel
theorem dX0_passOneDay_31 : decode cX0_passOneDay 31 = .ok (.iaload, 1) := by decide +kernel
theorem dX0_passOneDay_32 : decode cX0_passOneDay 32 = .ok (.iconst 2, 1) := by decide +kernel
theorem dX0_passOneDay_33 : decode cX0_passOneDay 33 = .ok (.if_icmp .ne 6, 3) := by decide +kernel
theorem dX0_passOneDay_36 : decode cX0_passOneDay 36 = .ok (.iinc 1 1, 3) := by decide +kernel
theorem dX0_passOneDay_39 : decode cX0_passOneDay 39 = .ok (.iinc 2 1, 3) := by decide +kernel
theorem dX0_passOneDay_42 : decode cX0_passOneDay 42 = .ok (.goto (-38), 3) := by decide +kernel
theorem dX0_passOneDay_45 : decode cX0_passOneDay 45 = .ok (.aload_n 0, 1) := by decide +kernel
theorem dX0_passOneDay_46 : decode cX0_passOneDay 46 = .ok (.dup, 1) := by decide +kernel
theorem dX0_passOneDay_47 : decode cX0_passOneDay 47 = .ok (.getfield 110, 3) := by decide +kernel
theorem dX0_passOneDay_50 : decode cX0_passOneDay 50 = .ok (.iconst 1, 1) := by decide +kernel
theorem dX0_passOneDay_51 : decode cX0_passOneDay 51 = .ok (.iadd, 1) := by decide +kernel
theorem dX0_passOneDay_52 : decode cX0_passOneDay 52 = .ok (.putfield 110, 3) := by decide +kernel
theorem dX0_passOneDay_55 : decode cX0_passOneDay 55 = .ok (.iload_n 1, 1) := by decide +kernel
theorem dX0_passOneDay_56 : decode cX0_passOneDay 56 = .ok (.ireturn, 1) := by decide +kernel
set_option maxRecDepth 20000 in
theorem ggX0_bearOneDay_X0_requireSlight : GoodIn wsX0_bearOneDay wsX0_requireSlight := goodIn_ca (goodIn_r _ [8, 9, 10, 11, 27, 28, 29, 30, 31, 32, 33, 34, 35, 36, 37, 38] (by decide +kernel) (by decide +kernel)) (goodIn_sub (fun _ h => List.mem_cons_of_mem _ (List.mem_append_right _ h)) (by decide +kernel))
set_option maxRecDepth 20000 in
theorem gX0_bearOneDay_X0_requireSlight : GoodIn wsX0_bearOneDay (wsV RX0 65 RX0 yX0_requireSlight wsX0_requireSlight) := goodIn_app (goodIn_of _ (by decide +kernel)) ggX0_bearOneDay_X0_requireSlight
set_option maxRecDepth 20000 in
theorem ggX0_bearOneDay_X0_weightWhenBorne : GoodIn wsX0_bearOneDay wsX0_weightWhenBorne := goodIn_r _ [14, 15, 16, 17, 18, 19, 20, 21] (by decide +kernel) (by decide +kernel)
set_option maxRecDepth 20000 in
theorem gX0_bearOneDay_X0_weightWhenBorne : GoodIn wsX0_bearOneDay (va_wsS RX0 124 yX0_weightWhenBorne wsX0_weightWhenBorne) := goodIn_app (goodIn_of _ (by decide +kernel)) ggX0_bearOneDay_X0_weightWhenBorne
set_option maxRecDepth 20000 in
theorem ggX0_bearOneDay_X0_close : GoodIn wsX0_bearOneDay wsX0_close := goodIn_ca (goodIn_r _ [25, 26, 3, 4, 5, 6, 7, 8, 9, 10, 11, 27, 28, 29, 30, 31, 32, 33, 34, 35, 36, 37, 38] (by decide +kernel) (by decide +kernel)) (goodIn_sub (fun _ h => List.mem_cons_of_mem _ (List.mem_append_right _ h)) (by decide +kernel))
set_option maxRecDepth 20000 in
theorem gX0_bearOneDay_X0_close : GoodIn wsX0_bearOneDay (wsV RX0 161 RX0 yX0_close wsX0_close) := goodIn_app (goodIn_of _ (by decide +kernel)) ggX0_bearOneDay_X0_close
theorem dX0_bearOneDay_0 : decode cX0_bearOneDay 0 = .ok (.aload_n 0, 1) := by decide +kernel
theorem dX0_bearOneDay_1 : decode cX0_bearOneDay 1 = .ok (.iload_n 1, 1) := by decide +kernel
theorem dX0_bearOneDay_2 : decode cX0_bearOneDay 2 = .ok (.invokevirtual 65, 3) := by decide +kernel
theorem dX0_bearOneDay_5 : decode cX0_bearOneDay 5 = .ok (.aload_n 0, 1) := by decide +kernel
theorem dX0_bearOneDay_6 : decode cX0_bearOneDay 6 = .ok (.getfield 29, 3) := by decide +kernel
theorem dX0_bearOneDay_9 : decode cX0_bearOneDay 9 = .ok (.iload_n 1, 1) := by decide +kernel
theorem dX0_bearOneDay_10 : decode cX0_bearOneDay 10 = .ok (.dup2, 1) := by decide +kernel
theorem dX0_bearOneDay_11 : decode cX0_bearOneDay 11 = .ok (.iaload, 1) := by decide +kernel
theorem dX0_bearOneDay_12 : decode cX0_bearOneDay 12 = .ok (.iconst 1, 1) := by decide +kernel
theorem dX0_bearOneDay_13 : decode cX0_bearOneDay 13 = .ok (.iadd, 1) := by decide +kernel
theorem dX0_bearOneDay_14 : decode cX0_bearOneDay 14 = .ok (.iastore, 1) := by decide +kernel
theorem dX0_bearOneDay_15 : decode cX0_bearOneDay 15 = .ok (.aload_n 0, 1) := by decide +kernel
theorem dX0_bearOneDay_16 : decode cX0_bearOneDay 16 = .ok (.getfield 32, 3) := by decide +kernel
theorem dX0_bearOneDay_19 : decode cX0_bearOneDay 19 = .ok (.iload_n 1, 1) := by decide +kernel
theorem dX0_bearOneDay_20 : decode cX0_bearOneDay 20 = .ok (.dup2, 1) := by decide +kernel
theorem dX0_bearOneDay_21 : decode cX0_bearOneDay 21 = .ok (.iaload, 1) := by decide +kernel
theorem dX0_bearOneDay_22 : decode cX0_bearOneDay 22 = .ok (.iconst 1, 1) := by decide +kernel
theorem dX0_bearOneDay_23 : decode cX0_bearOneDay 23 = .ok (.iadd, 1) := by decide +kernel
theorem dX0_bearOneDay_24 : decode cX0_bearOneDay 24 = .ok (.iastore, 1) := by decide +kernel
theorem dX0_bearOneDay_25 : decode cX0_bearOneDay 25 = .ok (.aload_n 0, 1) := by decide +kernel
theorem dX0_bearOneDay_26 : decode cX0_bearOneDay 26 = .ok (.getfield 23, 3) := by decide +kernel
theorem dX0_bearOneDay_29 : decode cX0_bearOneDay 29 = .ok (.iload_n 1, 1) := by decide +kernel
theorem dX0_bearOneDay_30 : decode cX0_bearOneDay 30 = .ok (.aload_n 0, 1) := by decide +kernel
theorem dX0_bearOneDay_31 : decode cX0_bearOneDay 31 = .ok (.getfield 23, 3) := by decide +kernel
theorem dX0_bearOneDay_34 : decode cX0_bearOneDay 34 = .ok (.iload_n 1, 1) := by decide +kernel
theorem dX0_bearOneDay_35 : decode cX0_bearOneDay 35 = .ok (.iaload, 1) := by decide +kernel
theorem dX0_bearOneDay_36 : decode cX0_bearOneDay 36 = .ok (.aload_n 0, 1) := by decide +kernel
theorem dX0_bearOneDay_37 : decode cX0_bearOneDay 37 = .ok (.getfield 29, 3) := by decide +kernel
theorem dX0_bearOneDay_40 : decode cX0_bearOneDay 40 = .ok (.iload_n 1, 1) := by decide +kernel
theorem dX0_bearOneDay_41 : decode cX0_bearOneDay 41 = .ok (.iaload, 1) := by decide +kernel
theorem dX0_bearOneDay_42 : decode cX0_bearOneDay 42 = .ok (.invokestatic 124, 3) := by decide +kernel
theorem dX0_bearOneDay_45 : decode cX0_bearOneDay 45 = .ok (.iastore, 1) := by decide +kernel
theorem dX0_bearOneDay_46 : decode cX0_bearOneDay 46 = .ok (.aload_n 0, 1) := by decide +kernel
theorem dX0_bearOneDay_47 : decode cX0_bearOneDay 47 = .ok (.getfield 32, 3) := by decide +kernel
theorem dX0_bearOneDay_50 : decode cX0_bearOneDay 50 = .ok (.iload_n 1, 1) := by decide +kernel
theorem dX0_bearOneDay_51 : decode cX0_bearOneDay 51 = .ok (.iaload, 1) := by decide +kernel
theorem dX0_bearOneDay_52 : decode cX0_bearOneDay 52 = .ok (.bipush 30, 2) := by decide +kernel
theorem dX0_bearOneDay_54 : decode cX0_bearOneDay 54 = .ok (.if_icmp .lt 9, 3) := by decide +kernel
theorem dX0_bearOneDay_57 : decode cX0_bearOneDay 57 = .ok (.aload_n 0, 1) := by decide +kernel
theorem dX0_bearOneDay_58 : decode cX0_bearOneDay 58 = .ok (.iload_n 1, 1) := by decide +kernel
theorem dX0_bearOneDay_59 : decode cX0_bearOneDay 59 = .ok (.iconst 2, 1) := by decide +kernel
theorem dX0_bearOneDay_60 : decode cX0_bearOneDay 60 = .ok (.invokevirtual 161, 3) := by decide +kernel
theorem dX0_bearOneDay_63 : decode cX0_bearOneDay 63 = .ok (.return_, 1) := by decide +kernel
theorem dX0_weightWhenBorne_0 : decode cX0_weightWhenBorne 0 = .ok (.iload_n 1, 1) := by decide +kernel
theorem dX0_weightWhenBorne_1 : decode cX0_weightWhenBorne 1 = .ok (.iconst 5, 1) := by decide +kernel
theorem dX0_weightWhenBorne_2 : decode cX0_weightWhenBorne 2 = .ok (.irem, 1) := by decide +kernel
theorem dX0_weightWhenBorne_3 : decode cX0_weightWhenBorne 3 = .ok (.ifCond .eq 5, 3) := by decide +kernel
theorem dX0_weightWhenBorne_6 : decode cX0_weightWhenBorne 6 = .ok (.iload_n 0, 1) := by decide +kernel
theorem dX0_weightWhenBorne_7 : decode cX0_weightWhenBorne 7 = .ok (.ireturn, 1) := by decide +kernel
theorem dX0_weightWhenBorne_8 : decode cX0_weightWhenBorne 8 = .ok (.iload_n 0, 1) := by decide +kernel
theorem dX0_weightWhenBorne_9 : decode cX0_weightWhenBorne 9 = .ok (.iconst 1, 1) := by decide +kernel
theorem dX0_weightWhenBorne_10 : decode cX0_weightWhenBorne 10 = .ok (.iload_n 0, 1) := by decide +kernel
theorem dX0_weightWhenBorne_11 : decode cX0_weightWhenBorne 11 = .ok (.bipush 10, 2) := by decide +kernel
theorem dX0_weightWhenBorne_13 : decode cX0_weightWhenBorne 13 = .ok (.idiv, 1) := by decide +kernel
theorem dX0_weightWhenBorne_14 : decode cX0_weightWhenBorne 14 = .ok (.invokestatic 121, 3) := by decide +kernel
theorem dX0_weightWhenBorne_17 : decode cX0_weightWhenBorne 17 = .ok (.iadd, 1) := by decide +kernel
theorem dX0_weightWhenBorne_18 : decode cX0_weightWhenBorne 18 = .ok (.bipush 99, 2) := by decide +kernel
theorem dX0_weightWhenBorne_20 : decode cX0_weightWhenBorne 20 = .ok (.invokestatic 98, 3) := by decide +kernel
theorem dX0_weightWhenBorne_23 : decode cX0_weightWhenBorne 23 = .ok (.ireturn, 1) := by decide +kernel
set_option maxRecDepth 20000 in
theorem ggX0_worthOf_X0_witnessesFor : GoodIn wsX0_worthOf wsX0_witnessesFor := goodIn_ca (goodIn_r _ [5, 6, 7, 8, 9, 10, 11, 12, 4, 13, 14, 15, 16, 17, 18, 19, 20, 21, 22, 23, 24, 25, 26, 27, 28] (by decide +kernel) (by decide +kernel)) (goodIn_sub (fun _ h => List.mem_cons_of_mem _ (List.mem_append_right _ h)) (by decide +kernel))
set_option maxRecDepth 20000 in
theorem gX0_worthOf_X0_witnessesFor : GoodIn wsX0_worthOf (wsV RX0 168 RX0 yX0_witnessesFor wsX0_witnessesFor) := goodIn_app (goodIn_of _ (by decide +kernel)) ggX0_worthOf_X0_witnessesFor
theorem dX0_worthOf_0 : decode cX0_worthOf 0 = .ok (.iload_n 2, 1) := by decide +kernel
theorem dX0_worthOf_1 : decode cX0_worthOf 1 = .ok (.iconst 2, 1) := by decide +kernel
theorem dX0_worthOf_2 : decode cX0_worthOf 2 = .ok (.aload_n 0, 1) := by decide +kernel
theorem dX0_worthOf_3 : decode cX0_worthOf 3 = .ok (.iload_n 1, 1) := by decide +kernel
theorem dX0_worthOf_4 : decode cX0_worthOf 4 = .ok (.invokevirtual 168, 3) := by decide +kernel
theorem dX0_worthOf_7 : decode cX0_worthOf 7 = .ok (.imul, 1) := by decide +kernel
theorem dX0_worthOf_8 : decode cX0_worthOf 8 = .ok (.iadd, 1) := by decide +kernel
theorem dX0_worthOf_9 : decode cX0_worthOf 9 = .ok (.ireturn, 1) := by decide +kernel
set_option maxRecDepth 20000 in
theorem ggX0_leastWorthHeard_X0_offendedOf : GoodIn wsX0_leastWorthHeard wsX0_offendedOf := goodIn_ca (goodIn_r _ [9, 10, 11, 12, 13, 8, 14, 15, 16, 17, 33, 34, 35, 36, 37, 38, 39, 40, 41, 42, 43, 44] (by decide +kernel) (by decide +kernel)) (goodIn_sub (fun _ h => List.mem_cons_of_mem _ (List.mem_append_right _ h)) (by decide +kernel))
set_option maxRecDepth 20000 in
theorem gX0_leastWorthHeard_X0_offendedOf : GoodIn wsX0_leastWorthHeard (wsV RX0 171 RX0 yX0_offendedOf wsX0_offendedOf) := goodIn_app (goodIn_of _ (by decide +kernel)) ggX0_leastWorthHeard_X0_offendedOf
set_option maxRecDepth 20000 in
theorem ggX0_leastWorthHeard_X0_prideOf : GoodIn wsX0_leastWorthHeard wsX0_prideOf := goodIn_ca (goodIn_r _ [21, 22, 23, 24, 25, 8, 26, 15, 16, 27, 33, 34, 35, 36, 37, 38, 39, 40, 41, 42, 43, 44] (by decide +kernel) (by decide +kernel)) (goodIn_sub (fun _ h => List.mem_cons_of_mem _ (List.mem_append_right _ h)) (by decide +kernel))
set_option maxRecDepth 20000 in
theorem gX0_leastWorthHeard_X0_prideOf : GoodIn wsX0_leastWorthHeard (wsV RX0 174 RX0 yX0_prideOf wsX0_prideOf) := goodIn_app (goodIn_of _ (by decide +kernel)) ggX0_leastWorthHeard_X0_prideOf
set_option maxRecDepth 20000 in
theorem ggX0_leastWorthHeard_X0_weightOf : GoodIn wsX0_leastWorthHeard wsX0_weightOf := goodIn_ca (goodIn_r _ [31, 32, 11, 12, 13, 8, 14, 15, 16, 17, 33, 34, 35, 36, 37, 38, 39, 40, 41, 42, 43, 44] (by decide +kernel) (by decide +kernel)) (goodIn_sub (fun _ h => List.mem_cons_of_mem _ (List.mem_append_right _ h)) (by decide +kernel))
set_option maxRecDepth 20000 in
theorem gX0_leastWorthHeard_X0_weightOf : GoodIn wsX0_leastWorthHeard (wsV RX0 177 RX0 yX0_weightOf wsX0_weightOf) := goodIn_app (goodIn_of _ (by decide +kernel)) ggX0_leastWorthHeard_X0_weightOf
theorem dX0_leastWorthHeard_0 : decode cX0_leastWorthHeard 0 = .ok (.aload_n 0, 1) := by decide +kernel
theorem dX0_leastWorthHeard_1 : decode cX0_leastWorthHeard 1 = .ok (.aload_n 0, 1) := by decide +kernel
theorem dX0_leastWorthHeard_2 : decode cX0_leastWorthHeard 2 = .ok (.iload_n 1, 1) := by decide +kernel
theorem dX0_leastWorthHeard_3 : decode cX0_leastWorthHeard 3 = .ok (.invokevirtual 171, 3) := by decide +kernel
theorem dX0_leastWorthHeard_6 : decode cX0_leastWorthHeard 6 = .ok (.invokevirtual 174, 3) := by decide +kernel
theorem dX0_leastWorthHeard_9 : decode cX0_leastWorthHeard 9 = .ok (.aload_n 0, 1) := by decide +kernel
theorem dX0_leastWorthHeard_10 : decode cX0_leastWorthHeard 10 = .ok (.iload_n 1, 1) := by decide +kernel
theorem dX0_leastWorthHeard_11 : decode cX0_leastWorthHeard 11 = .ok (.invokevirtual 177, 3) := by decide +kernel
theorem dX0_leastWorthHeard_14 : decode cX0_leastWorthHeard 14 = .ok (.iconst 4, 1) := by decide +kernel
theorem dX0_leastWorthHeard_15 : decode cX0_leastWorthHeard 15 = .ok (.idiv, 1) := by decide +kernel
theorem dX0_leastWorthHeard_16 : decode cX0_leastWorthHeard 16 = .ok (.invokestatic 121, 3) := by decide +kernel
theorem dX0_leastWorthHeard_19 : decode cX0_leastWorthHeard 19 = .ok (.ireturn, 1) := by decide +kernel
set_option maxRecDepth 20000 in
theorem ggX0_areAgainstEachOther_X0_offenderOf : GoodIn wsX0_areAgainstEachOther wsX0_offenderOf := goodIn_ca (goodIn_r _ [5, 6, 7, 8, 9, 4, 10, 11, 12, 13, 19, 20, 21, 22, 23, 24, 25, 26, 27, 28, 29, 30] (by decide +kernel) (by decide +kernel)) (goodIn_sub (fun _ h => List.mem_cons_of_mem _ (List.mem_append_right _ h)) (by decide +kernel))
set_option maxRecDepth 20000 in
theorem gX0_areAgainstEachOther_X0_offenderOf : GoodIn wsX0_areAgainstEachOther (wsV RX0 180 RX0 yX0_offenderOf wsX0_offenderOf) := goodIn_app (goodIn_of _ (by decide +kernel)) ggX0_areAgainstEachOther_X0_offenderOf
set_option maxRecDepth 20000 in
theorem ggX0_areAgainstEachOther_X0_offendedOf : GoodIn wsX0_areAgainstEachOther wsX0_offendedOf := goodIn_ca (goodIn_r _ [17, 18, 7, 8, 9, 4, 10, 11, 12, 13, 19, 20, 21, 22, 23, 24, 25, 26, 27, 28, 29, 30] (by decide +kernel) (by decide +kernel)) (goodIn_sub (fun _ h => List.mem_cons_of_mem _ (List.mem_append_right _ h)) (by decide +kernel))
set_option maxRecDepth 20000 in
theorem gX0_areAgainstEachOther_X0_offendedOf : GoodIn wsX0_areAgainstEachOther (wsV RX0 171 RX0 yX0_offendedOf wsX0_offendedOf) := goodIn_app (goodIn_of _ (by decide +kernel)) ggX0_areAgainstEachOther_X0_offendedOf
theorem dX0_areAgainstEachOther_0 : decode cX0_areAgainstEachOther 0 = .ok (.aload_n 0, 1) := by decide +kernel
theorem dX0_areAgainstEachOther_1 : decode cX0_areAgainstEachOther 1 = .ok (.iload_n 1, 1) := by decide +kernel
theorem dX0_areAgainstEachOther_2 : decode cX0_areAgainstEachOther 2 = .ok (.invokevirtual 180, 3) := by decide +kernel
theorem dX0_areAgainstEachOther_5 : decode cX0_areAgainstEachOther 5 = .ok (.aload_n 0, 1) := by decide +kernel
theorem dX0_areAgainstEachOther_6 : decode cX0_areAgainstEachOther 6 = .ok (.iload_n 2, 1) := by decide +kernel
theorem dX0_areAgainstEachOther_7 : decode cX0_areAgainstEachOther 7 = .ok (.invokevirtual 171, 3) := by decide +kernel
theorem dX0_areAgainstEachOther_10 : decode cX0_areAgainstEachOther 10 = .ok (.if_icmp .ne 20, 3) := by decide +kernel
theorem dX0_areAgainstEachOther_13 : decode cX0_areAgainstEachOther 13 = .ok (.aload_n 0, 1) := by decide +kernel
theorem dX0_areAgainstEachOther_14 : decode cX0_areAgainstEachOther 14 = .ok (.iload_n 2, 1) := by decide +kernel
theorem dX0_areAgainstEachOther_15 : decode cX0_areAgainstEachOther 15 = .ok (.invokevirtual 180, 3) := by decide +kernel
theorem dX0_areAgainstEachOther_18 : decode cX0_areAgainstEachOther 18 = .ok (.aload_n 0, 1) := by decide +kernel
theorem dX0_areAgainstEachOther_19 : decode cX0_areAgainstEachOther 19 = .ok (.iload_n 1, 1) := by decide +kernel
theorem dX0_areAgainstEachOther_20 : decode cX0_areAgainstEachOther 20 = .ok (.invokevirtual 171, 3) := by decide +kernel
theorem dX0_areAgainstEachOther_23 : decode cX0_areAgainstEachOther 23 = .ok (.if_icmp .ne 7, 3) := by decide +kernel
theorem dX0_areAgainstEachOther_26 : decode cX0_areAgainstEachOther 26 = .ok (.iconst 1, 1) := by decide +kernel
theorem dX0_areAgainstEachOther_27 : decode cX0_areAgainstEachOther 27 = .ok (.goto 4, 3) := by decide +kernel
theorem dX0_areAgainstEachOther_30 : decode cX0_areAgainstEachOther 30 = .ok (.iconst 0, 1) := by decide +kernel
theorem dX0_areAgainstEachOther_31 : decode cX0_areAgainstEachOther 31 = .ok (.ireturn, 1) := by decide +kernel
theorem dX0_weightBetween_0 : decode cX0_weightBetween 0 = .ok (.iconst 0, 1) := by decide +kernel
theorem dX0_weightBetween_1 : decode cX0_weightBetween 1 = .ok (.istore_n 3, 1) := by decide +kernel
theorem dX0_weightBetween_2 : decode cX0_weightBetween 2 = .ok (.iconst 0, 1) := by decide +kernel
theorem dX0_weightBetween_3 : decode cX0_weightBetween 3 = .ok (.istore 4, 2) := by decide +kernel
theorem dX0_weightBetween_5 : decode cX0_weightBetween 5 = .ok (.iload 4, 2) := by decide +kernel
theorem dX0_weightBetween_7 : decode cX0_weightBetween 7 = .ok (.aload_n 0, 1) := by decide +kernel
theorem dX0_weightBetween_8 : decode cX0_weightBetween 8 = .ok (.getfield 60, 3) := by decide +kernel
theorem dX0_weightBetween_11 : decode cX0_weightBetween 11 = .ok (.if_icmp .ge 51, 3) := by decide +kernel
theorem dX0_weightBetween_14 : decode cX0_weightBetween 14 = .ok (.aload_n 0, 1) := by decide +kernel
theorem dX0_weightBetween_15 : decode cX0_weightBetween 15 = .ok (.getfield 26, 3) := by decide +kernel
theorem dX0_weightBetween_18 : decode cX0_weightBetween 18 = .ok (.iload 4, 2) := by decide +kernel
theorem dX0_weightBetween_20 : decode cX0_weightBetween 20 = .ok (.iaload, 1) := by decide +kernel
theorem dX0_weightBetween_21 : decode cX0_weightBetween 21 = .ok (.ifCond .ne 35, 3) := by decide +kernel
theorem dX0_weightBetween_24 : decode cX0_weightBetween 24 = .ok (.aload_n 0, 1) := by decide +kernel
theorem dX0_weightBetween_25 : decode cX0_weightBetween 25 = .ok (.getfield 17, 3) := by decide +kernel
theorem dX0_weightBetween_28 : decode cX0_weightBetween 28 = .ok (.iload 4, 2) := by decide +kernel
theorem dX0_weightBetween_30 : decode cX0_weightBetween 30 = .ok (.iaload, 1) := by decide +kernel
theorem dX0_weightBetween_31 : decode cX0_weightBetween 31 = .ok (.iload_n 1, 1) := by decide +kernel
theorem dX0_weightBetween_32 : decode cX0_weightBetween 32 = .ok (.if_icmp .ne 24, 3) := by decide +kernel
theorem dX0_weightBetween_35 : decode cX0_weightBetween 35 = .ok (.aload_n 0, 1) := by decide +kernel
theorem dX0_weightBetween_36 : decode cX0_weightBetween 36 = .ok (.getfield 20, 3) := by decide +kernel
theorem dX0_weightBetween_39 : decode cX0_weightBetween 39 = .ok (.iload 4, 2) := by decide +kernel
theorem dX0_weightBetween_41 : decode cX0_weightBetween 41 = .ok (.iaload, 1) := by decide +kernel
theorem dX0_weightBetween_42 : decode cX0_weightBetween 42 = .ok (.iload_n 2, 1) := by decide +kernel
theorem dX0_weightBetween_43 : decode cX0_weightBetween 43 = .ok (.if_icmp .ne 13, 3) := by decide +kernel
theorem dX0_weightBetween_46 : decode cX0_weightBetween 46 = .ok (.iload_n 3, 1) := by decide +kernel
theorem dX0_weightBetween_47 : decode cX0_weightBetween 47 = .ok (.aload_n 0, 1) := by decide +kernel
theorem dX0_weightBetween_48 : decode cX0_weightBetween 48 = .ok (.getfield 23, 3) := by decide +kernel
theorem dX0_weightBetween_51 : decode cX0_weightBetween 51 = .ok (.iload 4, 2) := by decide +kernel
theorem dX0_weightBetween_53 : decode cX0_weightBetween 53 = .ok (.iaload, 1) := by decide +kernel
theorem dX0_weightBetween_54 : decode cX0_weightBetween 54 = .ok (.iadd, 1) := by decide +kernel
theorem dX0_weightBetween_55 : decode cX0_weightBetween 55 = .ok (.istore_n 3, 1) := by decide +kernel
theorem dX0_weightBetween_56 : decode cX0_weightBetween 56 = .ok (.iinc 4 1, 3) := by decide +kernel
theorem dX0_weightBetween_59 : decode cX0_weightBetween 59 = .ok (.goto (-54), 3) := by decide +kernel
theorem dX0_weightBetween_62 : decode cX0_weightBetween 62 = .ok (.iload_n 3, 1) := by decide +kernel
theorem dX0_weightBetween_63 : decode cX0_weightBetween 63 = .ok (.ireturn, 1) := by decide +kernel
theorem dX0_digestWith_0 : decode cX0_digestWith 0 = .ok (.lload_n 0, 1) := by decide +kernel
theorem dX0_digestWith_1 : decode cX0_digestWith 1 = .ok (.ldc2_w 183, 3) := by decide +kernel
theorem dX0_digestWith_4 : decode cX0_digestWith 4 = .ok (.lmul, 1) := by decide +kernel
theorem dX0_digestWith_5 : decode cX0_digestWith 5 = .ok (.lload_n 2, 1) := by decide +kernel
theorem dX0_digestWith_6 : decode cX0_digestWith 6 = .ok (.ladd, 1) := by decide +kernel
theorem dX0_digestWith_7 : decode cX0_digestWith 7 = .ok (.lreturn, 1) := by decide +kernel
set_option maxRecDepth 20000 in
theorem ggX0_digestOfTheWhole_X0_day : GoodIn wsX0_digestOfTheWhole wsX0_day := goodIn_r _ [5, 6, 79, 80, 81, 82, 83, 84, 85, 86, 87, 88, 89, 90] (by decide +kernel) (by decide +kernel)
set_option maxRecDepth 20000 in
theorem gX0_digestOfTheWhole_X0_day : GoodIn wsX0_digestOfTheWhole (wsV RX0 185 RX0 yX0_day wsX0_day) := goodIn_app (goodIn_of _ (by decide +kernel)) ggX0_digestOfTheWhole_X0_day
set_option maxRecDepth 20000 in
theorem ggX0_digestOfTheWhole_X0_digestWith : GoodIn wsX0_digestOfTheWhole wsX0_digestWith := goodIn_r _ [9, 10] (by decide +kernel) (by decide +kernel)
set_option maxRecDepth 20000 in
theorem gX0_digestOfTheWhole_X0_digestWith : GoodIn wsX0_digestOfTheWhole (va_wsS RX0 188 yX0_digestWith wsX0_digestWith) := goodIn_app (goodIn_of _ (by decide +kernel)) ggX0_digestOfTheWhole_X0_digestWith
set_option maxRecDepth 20000 in
theorem ggX0_digestOfTheWhole_X0_persons : GoodIn wsX0_digestOfTheWhole wsX0_persons := goodIn_r _ [14, 15, 79, 80, 81, 82, 83, 84, 85, 86, 87, 88, 89, 90] (by decide +kernel) (by decide +kernel)
set_option maxRecDepth 20000 in
theorem gX0_digestOfTheWhole_X0_persons : GoodIn wsX0_digestOfTheWhole (wsV RX0 192 RX0 yX0_persons wsX0_persons) := goodIn_app (goodIn_of _ (by decide +kernel)) ggX0_digestOfTheWhole_X0_persons
set_option maxRecDepth 20000 in
theorem ggX0_digestOfTheWhole_X0_slights : GoodIn wsX0_digestOfTheWhole wsX0_slights := goodIn_r _ [19, 20, 79, 80, 81, 82, 83, 84, 85, 86, 87, 88, 89, 90] (by decide +kernel) (by decide +kernel)
set_option maxRecDepth 20000 in
theorem gX0_digestOfTheWhole_X0_slights : GoodIn wsX0_digestOfTheWhole (wsV RX0 195 RX0 yX0_slights wsX0_slights) := goodIn_app (goodIn_of _ (by decide +kernel)) ggX0_digestOfTheWhole_X0_slights
set_option maxRecDepth 20000 in
theorem ggX0_digestOfTheWhole_X0_inHall : GoodIn wsX0_digestOfTheWhole wsX0_inHall := goodIn_r _ [24, 15, 25, 79, 80, 81, 82, 83, 84, 85, 86, 87, 88, 89, 90] (by decide +kernel) (by decide +kernel)
set_option maxRecDepth 20000 in
theorem gX0_digestOfTheWhole_X0_inHall : GoodIn wsX0_digestOfTheWhole (wsV RX0 198 RX0 yX0_inHall wsX0_inHall) := goodIn_app (goodIn_of _ (by decide +kernel)) ggX0_digestOfTheWhole_X0_inHall
set_option maxRecDepth 20000 in
theorem ggX0_digestOfTheWhole_X0_scorned : GoodIn wsX0_digestOfTheWhole wsX0_scorned := goodIn_r _ [29, 30, 79, 80, 81, 82, 83, 84, 85, 86, 87, 88, 89, 90] (by decide +kernel) (by decide +kernel)
set_option maxRecDepth 20000 in
theorem gX0_digestOfTheWhole_X0_scorned : GoodIn wsX0_digestOfTheWhole (wsV RX0 201 RX0 yX0_scorned wsX0_scorned) := goodIn_app (goodIn_of _ (by decide +kernel)) ggX0_digestOfTheWhole_X0_scorned
set_option maxRecDepth 20000 in
theorem ggX0_digestOfTheWhole_X0_sorest : GoodIn wsX0_digestOfTheWhole wsX0_sorest := goodIn_ca (goodIn_r _ [34, 15, 35, 36, 37, 4, 38, 20, 39, 40, 41, 42, 43, 44, 45, 46, 47, 79, 80, 81, 82, 83, 84, 85, 86, 87, 88, 89, 90] (by decide +kernel) (by decide +kernel)) (goodIn_sub (fun _ h => List.mem_cons_of_mem _ (List.mem_append_left _ (List.mem_append_right _ h))) (by decide +kernel))
set_option maxRecDepth 20000 in
theorem gX0_digestOfTheWhole_X0_sorest : GoodIn wsX0_digestOfTheWhole (wsV RX0 204 RX0 yX0_sorest wsX0_sorest) := goodIn_app (goodIn_of _ (by decide +kernel)) ggX0_digestOfTheWhole_X0_sorest
set_option maxRecDepth 20000 in
theorem ggX0_digestOfTheWhole_X0_inState : GoodIn wsX0_digestOfTheWhole wsX0_inState := goodIn_ca (goodIn_r _ [51, 52, 53, 20, 39, 79, 80, 81, 82, 83, 84, 85, 86, 87, 88, 89, 90] (by decide +kernel) (by decide +kernel)) (goodIn_sub (fun _ h => List.mem_cons_of_mem _ (List.mem_append_right _ h)) (by decide +kernel))
set_option maxRecDepth 20000 in
theorem gX0_digestOfTheWhole_X0_inState : GoodIn wsX0_digestOfTheWhole (wsV RX0 207 RX0 yX0_inState wsX0_inState) := goodIn_app (goodIn_of _ (by decide +kernel)) ggX0_digestOfTheWhole_X0_inState
set_option maxRecDepth 20000 in
theorem ggX0_digestOfTheWhole_X0_heaviest : GoodIn wsX0_digestOfTheWhole wsX0_heaviest := goodIn_r _ [57, 20, 39, 41, 79, 80, 81, 82, 83, 84, 85, 86, 87, 88, 89, 90] (by decide +kernel) (by decide +kernel)
set_option maxRecDepth 20000 in
theorem gX0_digestOfTheWhole_X0_heaviest : GoodIn wsX0_digestOfTheWhole (wsV RX0 210 RX0 yX0_heaviest wsX0_heaviest) := goodIn_app (goodIn_of _ (by decide +kernel)) ggX0_digestOfTheWhole_X0_heaviest
set_option maxRecDepth 20000 in
theorem ggX0_digestOfTheWhole_X0_pairsToSetOff : GoodIn wsX0_digestOfTheWhole wsX0_pairsToSetOff := goodIn_ca (goodIn_r _ [61, 20, 39, 62, 63, 64, 4, 65, 66, 67, 68, 69, 70, 71, 72, 73, 74, 46, 47, 75, 76, 77, 78, 40, 79, 80, 81, 82, 83, 84, 85, 86, 87, 88, 89, 90] (by decide +kernel) (by decide +kernel)) (goodIn_sub (fun _ h => List.mem_cons_of_mem _ (List.mem_append_left _ (List.mem_append_right _ h))) (by decide +kernel))
set_option maxRecDepth 20000 in
theorem gX0_digestOfTheWhole_X0_pairsToSetOff : GoodIn wsX0_digestOfTheWhole (wsV RX0 213 RX0 yX0_pairsToSetOff wsX0_pairsToSetOff) := goodIn_app (goodIn_of _ (by decide +kernel)) ggX0_digestOfTheWhole_X0_pairsToSetOff
theorem dX0_digestOfTheWhole_0 : decode cX0_digestOfTheWhole 0 = .ok (.lload_n 1, 1) := by decide +kernel
theorem dX0_digestOfTheWhole_1 : decode cX0_digestOfTheWhole 1 = .ok (.aload_n 0, 1) := by decide +kernel
theorem dX0_digestOfTheWhole_2 : decode cX0_digestOfTheWhole 2 = .ok (.invokevirtual 185, 3) := by decide +kernel
theorem dX0_digestOfTheWhole_5 : decode cX0_digestOfTheWhole 5 = .ok (.i2l, 1) := by decide +kernel
theorem dX0_digestOfTheWhole_6 : decode cX0_digestOfTheWhole 6 = .ok (.invokestatic 188, 3) := by decide +kernel
theorem dX0_digestOfTheWhole_9 : decode cX0_digestOfTheWhole 9 = .ok (.lstore_n 3, 1) := by decide +kernel
theorem dX0_digestOfTheWhole_10 : decode cX0_digestOfTheWhole 10 = .ok (.lload_n 3, 1) := by decide +kernel
theorem dX0_digestOfTheWhole_11 : decode cX0_digestOfTheWhole 11 = .ok (.aload_n 0, 1) := by decide +kernel
theorem dX0_digestOfTheWhole_12 : decode cX0_digestOfTheWhole 12 = .ok (.invokevirtual 192, 3) := by decide +kernel
theorem dX0_digestOfTheWhole_15 : decode cX0_digestOfTheWhole 15 = .ok (.i2l, 1) := by decide +kernel
theorem dX0_digestOfTheWhole_16 : decode cX0_digestOfTheWhole 16 = .ok (.invokestatic 188, 3) := by decide +kernel
theorem dX0_digestOfTheWhole_19 : decode cX0_digestOfTheWhole 19 = .ok (.lstore_n 3, 1) := by decide +kernel
theorem dX0_digestOfTheWhole_20 : decode cX0_digestOfTheWhole 20 = .ok (.lload_n 3, 1) := by decide +kernel
theorem dX0_digestOfTheWhole_21 : decode cX0_digestOfTheWhole 21 = .ok (.aload_n 0, 1) := by decide +kernel
theorem dX0_digestOfTheWhole_22 : decode cX0_digestOfTheWhole 22 = .ok (.invokevirtual 195, 3) := by decide +kernel
theorem dX0_digestOfTheWhole_25 : decode cX0_digestOfTheWhole 25 = .ok (.i2l, 1) := by decide +kernel
theorem dX0_digestOfTheWhole_26 : decode cX0_digestOfTheWhole 26 = .ok (.invokestatic 188, 3) := by decide +kernel
theorem dX0_digestOfTheWhole_29 : decode cX0_digestOfTheWhole 29 = .ok (.lstore_n 3, 1) := by decide +kernel
theorem dX0_digestOfTheWhole_30 : decode cX0_digestOfTheWhole 30 = .ok (.lload_n 3, 1) := by decide +kernel
theorem dX0_digestOfTheWhole_31 : decode cX0_digestOfTheWhole 31 = .ok (.aload_n 0, 1) := by decide +kernel
theorem dX0_digestOfTheWhole_32 : decode cX0_digestOfTheWhole 32 = .ok (.invokevirtual 198, 3) := by decide +kernel
theorem dX0_digestOfTheWhole_35 : decode cX0_digestOfTheWhole 35 = .ok (.i2l, 1) := by decide +kernel
theorem dX0_digestOfTheWhole_36 : decode cX0_digestOfTheWhole 36 = .ok (.invokestatic 188, 3) := by decide +kernel
theorem dX0_digestOfTheWhole_39 : decode cX0_digestOfTheWhole 39 = .ok (.lstore_n 3, 1) := by decide +kernel
theorem dX0_digestOfTheWhole_40 : decode cX0_digestOfTheWhole 40 = .ok (.lload_n 3, 1) := by decide +kernel
theorem dX0_digestOfTheWhole_41 : decode cX0_digestOfTheWhole 41 = .ok (.aload_n 0, 1) := by decide +kernel
theorem dX0_digestOfTheWhole_42 : decode cX0_digestOfTheWhole 42 = .ok (.invokevirtual 201, 3) := by decide +kernel
theorem dX0_digestOfTheWhole_45 : decode cX0_digestOfTheWhole 45 = .ok (.i2l, 1) := by decide +kernel
theorem dX0_digestOfTheWhole_46 : decode cX0_digestOfTheWhole 46 = .ok (.invokestatic 188, 3) := by decide +kernel
theorem dX0_digestOfTheWhole_49 : decode cX0_digestOfTheWhole 49 = .ok (.lstore_n 3, 1) := by decide +kernel
theorem dX0_digestOfTheWhole_50 : decode cX0_digestOfTheWhole 50 = .ok (.lload_n 3, 1) := by decide +kernel
theorem dX0_digestOfTheWhole_51 : decode cX0_digestOfTheWhole 51 = .ok (.aload_n 0, 1) := by decide +kernel
theorem dX0_digestOfTheWhole_52 : decode cX0_digestOfTheWhole 52 = .ok (.invokevirtual 204, 3) := by decide +kernel
theorem dX0_digestOfTheWhole_55 : decode cX0_digestOfTheWhole 55 = .ok (.i2l, 1) := by decide +kernel
theorem dX0_digestOfTheWhole_56 : decode cX0_digestOfTheWhole 56 = .ok (.invokestatic 188, 3) := by decide +kernel
theorem dX0_digestOfTheWhole_59 : decode cX0_digestOfTheWhole 59 = .ok (.lstore_n 3, 1) := by decide +kernel
theorem dX0_digestOfTheWhole_60 : decode cX0_digestOfTheWhole 60 = .ok (.iconst 0, 1) := by decide +kernel
theorem dX0_digestOfTheWhole_61 : decode cX0_digestOfTheWhole 61 = .ok (.istore 5, 2) := by decide +kernel
theorem dX0_digestOfTheWhole_63 : decode cX0_digestOfTheWhole 63 = .ok (.iload 5, 2) := by decide +kernel
theorem dX0_digestOfTheWhole_65 : decode cX0_digestOfTheWhole 65 = .ok (.iconst 3, 1) := by decide +kernel
theorem dX0_digestOfTheWhole_66 : decode cX0_digestOfTheWhole 66 = .ok (.if_icmp .gt 21, 3) := by decide +kernel
theorem dX0_digestOfTheWhole_69 : decode cX0_digestOfTheWhole 69 = .ok (.lload_n 3, 1) := by decide +kernel
theorem dX0_digestOfTheWhole_70 : decode cX0_digestOfTheWhole 70 = .ok (.aload_n 0, 1) := by decide +kernel
theorem dX0_digestOfTheWhole_71 : decode cX0_digestOfTheWhole 71 = .ok (.iload 5, 2) := by decide +kernel
theorem dX0_digestOfTheWhole_73 : decode cX0_digestOfTheWhole 73 = .ok (.invokevirtual 207, 3) := by decide +kernel
theorem dX0_digestOfTheWhole_76 : decode cX0_digestOfTheWhole 76 = .ok (.i2l, 1) := by decide +kernel
theorem dX0_digestOfTheWhole_77 : decode cX0_digestOfTheWhole 77 = .ok (.invokestatic 188, 3) := by decide +kernel
theorem dX0_digestOfTheWhole_80 : decode cX0_digestOfTheWhole 80 = .ok (.lstore_n 3, 1) := by decide +kernel
theorem dX0_digestOfTheWhole_81 : decode cX0_digestOfTheWhole 81 = .ok (.iinc 5 1, 3) := by decide +kernel
theorem dX0_digestOfTheWhole_84 : decode cX0_digestOfTheWhole 84 = .ok (.goto (-21), 3) := by decide +kernel
theorem dX0_digestOfTheWhole_87 : decode cX0_digestOfTheWhole 87 = .ok (.lload_n 3, 1) := by decide +kernel
theorem dX0_digestOfTheWhole_88 : decode cX0_digestOfTheWhole 88 = .ok (.aload_n 0, 1) := by decide +kernel
theorem dX0_digestOfTheWhole_89 : decode cX0_digestOfTheWhole 89 = .ok (.invokevirtual 210, 3) := by decide +kernel
theorem dX0_digestOfTheWhole_92 : decode cX0_digestOfTheWhole 92 = .ok (.i2l, 1) := by decide +kernel
theorem dX0_digestOfTheWhole_93 : decode cX0_digestOfTheWhole 93 = .ok (.invokestatic 188, 3) := by decide +kernel
theorem dX0_digestOfTheWhole_96 : decode cX0_digestOfTheWhole 96 = .ok (.lstore_n 3, 1) := by decide +kernel
theorem dX0_digestOfTheWhole_97 : decode cX0_digestOfTheWhole 97 = .ok (.lload_n 3, 1) := by decide +kernel
theorem dX0_digestOfTheWhole_98 : decode cX0_digestOfTheWhole 98 = .ok (.aload_n 0, 1) := by decide +kernel
theorem dX0_digestOfTheWhole_99 : decode cX0_digestOfTheWhole 99 = .ok (.invokevirtual 213, 3) := by decide +kernel
theorem dX0_digestOfTheWhole_102 : decode cX0_digestOfTheWhole 102 = .ok (.i2l, 1) := by decide +kernel
theorem dX0_digestOfTheWhole_103 : decode cX0_digestOfTheWhole 103 = .ok (.invokestatic 188, 3) := by decide +kernel
theorem dX0_digestOfTheWhole_106 : decode cX0_digestOfTheWhole 106 = .ok (.lreturn, 1) := by decide +kernel
set_option maxRecDepth 20000 in
theorem ggX0_digestOfPerson_X0_isInHall : GoodIn wsX0_digestOfPerson wsX0_isInHall := goodIn_ca (goodIn_r _ [5, 6, 7, 8, 9, 4, 10, 11, 12, 13, 69, 70, 71, 72, 73, 74, 75, 76, 77, 78, 79, 80] (by decide +kernel) (by decide +kernel)) (goodIn_sub (fun _ h => List.mem_cons_of_mem _ (List.mem_append_left _ (List.mem_append_right _ h))) (by decide +kernel))
set_option maxRecDepth 20000 in
theorem gX0_digestOfPerson_X0_isInHall : GoodIn wsX0_digestOfPerson (wsV RX0 216 RX0 yX0_isInHall wsX0_isInHall) := goodIn_app (goodIn_of _ (by decide +kernel)) ggX0_digestOfPerson_X0_isInHall
set_option maxRecDepth 20000 in
theorem ggX0_digestOfPerson_X0_digestWith : GoodIn wsX0_digestOfPerson wsX0_digestWith := goodIn_r _ [16, 17] (by decide +kernel) (by decide +kernel)
set_option maxRecDepth 20000 in
theorem gX0_digestOfPerson_X0_digestWith : GoodIn wsX0_digestOfPerson (va_wsS RX0 188 yX0_digestWith wsX0_digestWith) := goodIn_app (goodIn_of _ (by decide +kernel)) ggX0_digestOfPerson_X0_digestWith
set_option maxRecDepth 20000 in
theorem ggX0_digestOfPerson_X0_prideOf : GoodIn wsX0_digestOfPerson wsX0_prideOf := goodIn_ca (goodIn_r _ [21, 22, 7, 8, 9, 4, 10, 11, 12, 13, 69, 70, 71, 72, 73, 74, 75, 76, 77, 78, 79, 80] (by decide +kernel) (by decide +kernel)) (goodIn_sub (fun _ h => List.mem_cons_of_mem _ (List.mem_append_left _ (List.mem_append_right _ h))) (by decide +kernel))
set_option maxRecDepth 20000 in
theorem gX0_digestOfPerson_X0_prideOf : GoodIn wsX0_digestOfPerson (wsV RX0 174 RX0 yX0_prideOf wsX0_prideOf) := goodIn_app (goodIn_of _ (by decide +kernel)) ggX0_digestOfPerson_X0_prideOf
set_option maxRecDepth 20000 in
theorem ggX0_digestOfPerson_X0_borneBy : GoodIn wsX0_digestOfPerson wsX0_borneBy := goodIn_ca (goodIn_r _ [26, 27, 28, 29, 30, 7, 8, 9, 4, 10, 11, 12, 13, 69, 70, 71, 72, 73, 74, 75, 76, 77, 78, 79, 80] (by decide +kernel) (by decide +kernel)) (goodIn_sub (fun _ h => List.mem_cons_of_mem _ (List.mem_append_left _ (List.mem_append_right _ h))) (by decide +kernel))
set_option maxRecDepth 20000 in
theorem gX0_digestOfPerson_X0_borneBy : GoodIn wsX0_digestOfPerson (wsV RX0 116 RX0 yX0_borneBy wsX0_borneBy) := goodIn_app (goodIn_of _ (by decide +kernel)) ggX0_digestOfPerson_X0_borneBy
set_option maxRecDepth 20000 in
theorem ggX0_digestOfPerson_X0_owedBy : GoodIn wsX0_digestOfPerson wsX0_owedBy := goodIn_ca (goodIn_r _ [34, 27, 28, 35, 30, 7, 8, 9, 4, 10, 11, 12, 13, 69, 70, 71, 72, 73, 74, 75, 76, 77, 78, 79, 80] (by decide +kernel) (by decide +kernel)) (goodIn_sub (fun _ h => List.mem_cons_of_mem _ (List.mem_append_left _ (List.mem_append_right _ h))) (by decide +kernel))
set_option maxRecDepth 20000 in
theorem gX0_digestOfPerson_X0_owedBy : GoodIn wsX0_digestOfPerson (wsV RX0 220 RX0 yX0_owedBy wsX0_owedBy) := goodIn_app (goodIn_of _ (by decide +kernel)) ggX0_digestOfPerson_X0_owedBy
set_option maxRecDepth 20000 in
theorem ggX0_digestOfPerson_X0_borneIn : GoodIn wsX0_digestOfPerson wsX0_borneIn := goodIn_ca (goodIn_ca (goodIn_r _ [39, 27, 29, 7, 8, 9, 4, 10, 11, 12, 13, 40, 41, 42, 43, 44, 45, 46, 47, 48, 28, 49, 30, 50, 51, 52, 53, 54, 55, 56, 57, 58, 59, 60, 61, 62, 63, 64, 69, 70, 71, 72, 73, 74, 75, 76, 77, 78, 79, 80] (by decide +kernel) (by decide +kernel)) (goodIn_sub (fun _ h => List.mem_cons_of_mem _ (List.mem_append_left _ (List.mem_append_right _ h))) (by decide +kernel))) (goodIn_sub (fun _ h => List.mem_cons_of_mem _ (List.mem_append_right _ h)) (by decide +kernel))
set_option maxRecDepth 20000 in
theorem gX0_digestOfPerson_X0_borneIn : GoodIn wsX0_digestOfPerson (wsV RX0 223 RX0 yX0_borneIn wsX0_borneIn) := goodIn_app (goodIn_of _ (by decide +kernel)) ggX0_digestOfPerson_X0_borneIn
set_option maxRecDepth 20000 in
theorem ggX0_digestOfPerson_X0_worstToKeep : GoodIn wsX0_digestOfPerson wsX0_worstToKeep := goodIn_ca (goodIn_ca (goodIn_r _ [68, 27, 28, 35, 30, 7, 8, 9, 4, 10, 11, 12, 13, 45, 46, 47, 48, 49, 50, 51, 52, 53, 54, 40, 41, 42, 43, 44, 55, 56, 57, 58, 59, 60, 61, 62, 63, 64, 69, 70, 71, 72, 73, 74, 75, 76, 77, 78, 79, 80] (by decide +kernel) (by decide +kernel)) (goodIn_sub (fun _ h => List.mem_cons_of_mem _ (List.mem_append_left _ (List.mem_append_right _ h))) (by decide +kernel))) (goodIn_sub (fun _ h => List.mem_cons_of_mem _ (List.mem_append_right _ h)) (by decide +kernel))
set_option maxRecDepth 20000 in
theorem gX0_digestOfPerson_X0_worstToKeep : GoodIn wsX0_digestOfPerson (wsV RX0 226 RX0 yX0_worstToKeep wsX0_worstToKeep) := goodIn_app (goodIn_of _ (by decide +kernel)) ggX0_digestOfPerson_X0_worstToKeep
theorem dX0_digestOfPerson_0 : decode cX0_digestOfPerson 0 = .ok (.lload_n 1, 1) := by decide +kernel
theorem dX0_digestOfPerson_1 : decode cX0_digestOfPerson 1 = .ok (.aload_n 0, 1) := by decide +kernel
theorem dX0_digestOfPerson_2 : decode cX0_digestOfPerson 2 = .ok (.iload_n 3, 1) := by decide +kernel
theorem dX0_digestOfPerson_3 : decode cX0_digestOfPerson 3 = .ok (.invokevirtual 216, 3) := by decide +kernel
theorem dX0_digestOfPerson_6 : decode cX0_digestOfPerson 6 = .ok (.ifCond .eq 7, 3) := by decide +kernel
theorem dX0_digestOfPerson_9 : decode cX0_digestOfPerson 9 = .ok (.lconst 1, 1) := by decide +kernel
theorem dX0_digestOfPerson_10 : decode cX0_digestOfPerson 10 = .ok (.goto 4, 3) := by decide +kernel
theorem dX0_digestOfPerson_13 : decode cX0_digestOfPerson 13 = .ok (.lconst 0, 1) := by decide +kernel
theorem dX0_digestOfPerson_14 : decode cX0_digestOfPerson 14 = .ok (.invokestatic 188, 3) := by decide +kernel
theorem dX0_digestOfPerson_17 : decode cX0_digestOfPerson 17 = .ok (.lstore 4, 2) := by decide +kernel
theorem dX0_digestOfPerson_19 : decode cX0_digestOfPerson 19 = .ok (.lload 4, 2) := by decide +kernel
theorem dX0_digestOfPerson_21 : decode cX0_digestOfPerson 21 = .ok (.aload_n 0, 1) := by decide +kernel
theorem dX0_digestOfPerson_22 : decode cX0_digestOfPerson 22 = .ok (.iload_n 3, 1) := by decide +kernel
theorem dX0_digestOfPerson_23 : decode cX0_digestOfPerson 23 = .ok (.invokevirtual 174, 3) := by decide +kernel
theorem dX0_digestOfPerson_26 : decode cX0_digestOfPerson 26 = .ok (.i2l, 1) := by decide +kernel
theorem dX0_digestOfPerson_27 : decode cX0_digestOfPerson 27 = .ok (.invokestatic 188, 3) := by decide +kernel
theorem dX0_digestOfPerson_30 : decode cX0_digestOfPerson 30 = .ok (.lstore 4, 2) := by decide +kernel
theorem dX0_digestOfPerson_32 : decode cX0_digestOfPerson 32 = .ok (.lload 4, 2) := by decide +kernel
theorem dX0_digestOfPerson_34 : decode cX0_digestOfPerson 34 = .ok (.aload_n 0, 1) := by decide +kernel
theorem dX0_digestOfPerson_35 : decode cX0_digestOfPerson 35 = .ok (.iload_n 3, 1) := by decide +kernel
theorem dX0_digestOfPerson_36 : decode cX0_digestOfPerson 36 = .ok (.invokevirtual 116, 3) := by decide +kernel
theorem dX0_digestOfPerson_39 : decode cX0_digestOfPerson 39 = .ok (.i2l, 1) := by decide +kernel
theorem dX0_digestOfPerson_40 : decode cX0_digestOfPerson 40 = .ok (.invokestatic 188, 3) := by decide +kernel
theorem dX0_digestOfPerson_43 : decode cX0_digestOfPerson 43 = .ok (.lstore 4, 2) := by decide +kernel
theorem dX0_digestOfPerson_45 : decode cX0_digestOfPerson 45 = .ok (.lload 4, 2) := by decide +kernel
theorem dX0_digestOfPerson_47 : decode cX0_digestOfPerson 47 = .ok (.aload_n 0, 1) := by decide +kernel
theorem dX0_digestOfPerson_48 : decode cX0_digestOfPerson 48 = .ok (.iload_n 3, 1) := by decide +kernel
theorem dX0_digestOfPerson_49 : decode cX0_digestOfPerson 49 = .ok (.invokevirtual 220, 3) := by decide +kernel
theorem dX0_digestOfPerson_52 : decode cX0_digestOfPerson 52 = .ok (.i2l, 1) := by decide +kernel
theorem dX0_digestOfPerson_53 : decode cX0_digestOfPerson 53 = .ok (.invokestatic 188, 3) := by decide +kernel
theorem dX0_digestOfPerson_56 : decode cX0_digestOfPerson 56 = .ok (.lstore 4, 2) := by decide +kernel
theorem dX0_digestOfPerson_58 : decode cX0_digestOfPerson 58 = .ok (.lload 4, 2) := by decide +kernel
theorem dX0_digestOfPerson_60 : decode cX0_digestOfPerson 60 = .ok (.aload_n 0, 1) := by decide +kernel
theorem dX0_digestOfPerson_61 : decode cX0_digestOfPerson 61 = .ok (.iload_n 3, 1) := by decide +kernel
theorem dX0_digestOfPerson_62 : decode cX0_digestOfPerson 62 = .ok (.bipush 10, 2) := by decide +kernel
theorem dX0_digestOfPerson_64 : decode cX0_digestOfPerson 64 = .ok (.invokevirtual 223, 3) := by decide +kernel
theorem dX0_digestOfPerson_67 : decode cX0_digestOfPerson 67 = .ok (.i2l, 1) := by decide +kernel
theorem dX0_digestOfPerson_68 : decode cX0_digestOfPerson 68 = .ok (.invokestatic 188, 3) := by decide +kernel
theorem dX0_digestOfPerson_71 : decode cX0_digestOfPerson 71 = .ok (.lstore 4, 2) := by decide +kernel
theorem dX0_digestOfPerson_73 : decode cX0_digestOfPerson 73 = .ok (.lload 4, 2) := by decide +kernel
theorem dX0_digestOfPerson_75 : decode cX0_digestOfPerson 75 = .ok (.aload_n 0, 1) := by decide +kernel
theorem dX0_digestOfPerson_76 : decode cX0_digestOfPerson 76 = .ok (.iload_n 3, 1) := by decide +kernel
theorem dX0_digestOfPerson_77 : decode cX0_digestOfPerson 77 = .ok (.invokevirtual 226, 3) := by decide +kernel
theorem dX0_digestOfPerson_80 : decode cX0_digestOfPerson 80 = .ok (.i2l, 1) := by decide +kernel
theorem dX0_digestOfPerson_81 : decode cX0_digestOfPerson 81 = .ok (.invokestatic 188, 3) := by decide +kernel
theorem dX0_digestOfPerson_84 : decode cX0_digestOfPerson 84 = .ok (.lreturn, 1) := by decide +kernel
set_option maxRecDepth 20000 in
theorem ggX0_digestOfSlight_X0_weightOf : GoodIn wsX0_digestOfSlight wsX0_weightOf := goodIn_ca (goodIn_r _ [5, 6, 7, 8, 9, 4, 10, 11, 12, 13, 89, 90, 91, 92, 93, 94, 95, 96, 97, 98, 99, 100] (by decide +kernel) (by decide +kernel)) (goodIn_sub (fun _ h => List.mem_cons_of_mem _ (List.mem_append_left _ (List.mem_append_right _ h))) (by decide +kernel))
set_option maxRecDepth 20000 in
theorem gX0_digestOfSlight_X0_weightOf : GoodIn wsX0_digestOfSlight (wsV RX0 177 RX0 yX0_weightOf wsX0_weightOf) := goodIn_app (goodIn_of _ (by decide +kernel)) ggX0_digestOfSlight_X0_weightOf
set_option maxRecDepth 20000 in
theorem ggX0_digestOfSlight_X0_digestWith : GoodIn wsX0_digestOfSlight wsX0_digestWith := goodIn_r _ [16, 17] (by decide +kernel) (by decide +kernel)
set_option maxRecDepth 20000 in
theorem gX0_digestOfSlight_X0_digestWith : GoodIn wsX0_digestOfSlight (va_wsS RX0 188 yX0_digestWith wsX0_digestWith) := goodIn_app (goodIn_of _ (by decide +kernel)) ggX0_digestOfSlight_X0_digestWith
set_option maxRecDepth 20000 in
theorem ggX0_digestOfSlight_X0_stateOf : GoodIn wsX0_digestOfSlight wsX0_stateOf := goodIn_ca (goodIn_r _ [21, 22, 7, 8, 9, 4, 10, 11, 12, 13, 89, 90, 91, 92, 93, 94, 95, 96, 97, 98, 99, 100] (by decide +kernel) (by decide +kernel)) (goodIn_sub (fun _ h => List.mem_cons_of_mem _ (List.mem_append_left _ (List.mem_append_right _ h))) (by decide +kernel))
set_option maxRecDepth 20000 in
theorem gX0_digestOfSlight_X0_stateOf : GoodIn wsX0_digestOfSlight (wsV RX0 150 RX0 yX0_stateOf wsX0_stateOf) := goodIn_app (goodIn_of _ (by decide +kernel)) ggX0_digestOfSlight_X0_stateOf
set_option maxRecDepth 20000 in
theorem ggX0_digestOfSlight_X0_borneFor : GoodIn wsX0_digestOfSlight wsX0_borneFor := goodIn_ca (goodIn_r _ [26, 27, 7, 8, 9, 4, 10, 11, 12, 13, 89, 90, 91, 92, 93, 94, 95, 96, 97, 98, 99, 100] (by decide +kernel) (by decide +kernel)) (goodIn_sub (fun _ h => List.mem_cons_of_mem _ (List.mem_append_left _ (List.mem_append_right _ h))) (by decide +kernel))
set_option maxRecDepth 20000 in
theorem gX0_digestOfSlight_X0_borneFor : GoodIn wsX0_digestOfSlight (wsV RX0 229 RX0 yX0_borneFor wsX0_borneFor) := goodIn_app (goodIn_of _ (by decide +kernel)) ggX0_digestOfSlight_X0_borneFor
set_option maxRecDepth 20000 in
theorem ggX0_digestOfSlight_X0_quietFor : GoodIn wsX0_digestOfSlight wsX0_quietFor := goodIn_ca (goodIn_r _ [31, 32, 7, 8, 9, 4, 10, 11, 12, 13, 89, 90, 91, 92, 93, 94, 95, 96, 97, 98, 99, 100] (by decide +kernel) (by decide +kernel)) (goodIn_sub (fun _ h => List.mem_cons_of_mem _ (List.mem_append_left _ (List.mem_append_right _ h))) (by decide +kernel))
set_option maxRecDepth 20000 in
theorem gX0_digestOfSlight_X0_quietFor : GoodIn wsX0_digestOfSlight (wsV RX0 232 RX0 yX0_quietFor wsX0_quietFor) := goodIn_app (goodIn_of _ (by decide +kernel)) ggX0_digestOfSlight_X0_quietFor
set_option maxRecDepth 20000 in
theorem ggX0_digestOfSlight_X0_witnessesFor : GoodIn wsX0_digestOfSlight wsX0_witnessesFor := goodIn_ca (goodIn_r _ [36, 37, 38, 39, 40, 7, 8, 9, 4, 10, 11, 12, 13, 89, 90, 91, 92, 93, 94, 95, 96, 97, 98, 99, 100] (by decide +kernel) (by decide +kernel)) (goodIn_sub (fun _ h => List.mem_cons_of_mem _ (List.mem_append_left _ (List.mem_append_right _ h))) (by decide +kernel))
set_option maxRecDepth 20000 in
theorem gX0_digestOfSlight_X0_witnessesFor : GoodIn wsX0_digestOfSlight (wsV RX0 168 RX0 yX0_witnessesFor wsX0_witnessesFor) := goodIn_app (goodIn_of _ (by decide +kernel)) ggX0_digestOfSlight_X0_witnessesFor
set_option maxRecDepth 20000 in
theorem ggX0_digestOfSlight_X0_wordsWanted : GoodIn wsX0_digestOfSlight wsX0_wordsWanted := goodIn_ca (goodIn_r _ [44, 22, 6, 45, 46, 47, 48, 7, 8, 9, 4, 10, 11, 12, 13, 49, 50, 51, 52, 53, 54, 55, 56, 40, 57, 58, 59, 60, 61, 62, 63, 64, 65, 37, 1, 2, 3, 5, 66, 67, 68, 69, 33, 34, 35, 36, 38, 39, 89, 90, 91, 92, 93, 94, 95, 96, 97, 98, 99, 100] (by decide +kernel) (by decide +kernel)) (goodIn_sub (fun _ h => List.mem_cons_of_mem _ (List.mem_append_left _ (List.mem_append_right _ h))) (by decide +kernel))
set_option maxRecDepth 20000 in
theorem gX0_digestOfSlight_X0_wordsWanted : GoodIn wsX0_digestOfSlight (wsV RX0 235 RX0 yX0_wordsWanted wsX0_wordsWanted) := goodIn_app (goodIn_of _ (by decide +kernel)) ggX0_digestOfSlight_X0_wordsWanted
set_option maxRecDepth 20000 in
theorem ggX0_digestOfSlight_X0_weightIn : GoodIn wsX0_digestOfSlight wsX0_weightIn := goodIn_ca (goodIn_ca (goodIn_r _ [73, 22, 32, 6, 27, 7, 8, 9, 4, 10, 11, 12, 13, 74, 75, 76, 77, 78, 79, 80, 81, 45, 46, 47, 48, 82, 83, 84, 89, 90, 91, 92, 93, 94, 95, 96, 97, 98, 99, 100] (by decide +kernel) (by decide +kernel)) (goodIn_sub (fun _ h => List.mem_cons_of_mem _ (List.mem_append_left _ (List.mem_append_right _ h))) (by decide +kernel))) (goodIn_sub (fun _ h => List.mem_cons_of_mem _ (List.mem_append_right _ h)) (by decide +kernel))
set_option maxRecDepth 20000 in
theorem gX0_digestOfSlight_X0_weightIn : GoodIn wsX0_digestOfSlight (wsV RX0 127 RX0 yX0_weightIn wsX0_weightIn) := goodIn_app (goodIn_of _ (by decide +kernel)) ggX0_digestOfSlight_X0_weightIn
set_option maxRecDepth 20000 in
theorem ggX0_digestOfSlight_X0_daysUntilForgotten : GoodIn wsX0_digestOfSlight wsX0_daysUntilForgotten := goodIn_ca (goodIn_r _ [88, 22, 32, 7, 8, 9, 4, 10, 11, 12, 13, 89, 90, 91, 92, 93, 94, 95, 96, 97, 98, 99, 100] (by decide +kernel) (by decide +kernel)) (goodIn_sub (fun _ h => List.mem_cons_of_mem _ (List.mem_append_left _ (List.mem_append_right _ h))) (by decide +kernel))
set_option maxRecDepth 20000 in
theorem gX0_digestOfSlight_X0_daysUntilForgotten : GoodIn wsX0_digestOfSlight (wsV RX0 238 RX0 yX0_daysUntilForgotten wsX0_daysUntilForgotten) := goodIn_app (goodIn_of _ (by decide +kernel)) ggX0_digestOfSlight_X0_daysUntilForgotten
theorem dX0_digestOfSlight_0 : decode cX0_digestOfSlight 0 = .ok (.lload_n 1, 1) := by decide +kernel
theorem dX0_digestOfSlight_1 : decode cX0_digestOfSlight 1 = .ok (.aload_n 0, 1) := by decide +kernel
theorem dX0_digestOfSlight_2 : decode cX0_digestOfSlight 2 = .ok (.iload_n 3, 1) := by decide +kernel
theorem dX0_digestOfSlight_3 : decode cX0_digestOfSlight 3 = .ok (.invokevirtual 177, 3) := by decide +kernel
theorem dX0_digestOfSlight_6 : decode cX0_digestOfSlight 6 = .ok (.i2l, 1) := by decide +kernel
theorem dX0_digestOfSlight_7 : decode cX0_digestOfSlight 7 = .ok (.invokestatic 188, 3) := by decide +kernel
theorem dX0_digestOfSlight_10 : decode cX0_digestOfSlight 10 = .ok (.lstore 4, 2) := by decide +kernel
theorem dX0_digestOfSlight_12 : decode cX0_digestOfSlight 12 = .ok (.lload 4, 2) := by decide +kernel
theorem dX0_digestOfSlight_14 : decode cX0_digestOfSlight 14 = .ok (.aload_n 0, 1) := by decide +kernel
theorem dX0_digestOfSlight_15 : decode cX0_digestOfSlight 15 = .ok (.iload_n 3, 1) := by decide +kernel
theorem dX0_digestOfSlight_16 : decode cX0_digestOfSlight 16 = .ok (.invokevirtual 150, 3) := by decide +kernel
theorem dX0_digestOfSlight_19 : decode cX0_digestOfSlight 19 = .ok (.i2l, 1) := by decide +kernel
theorem dX0_digestOfSlight_20 : decode cX0_digestOfSlight 20 = .ok (.invokestatic 188, 3) := by decide +kernel
theorem dX0_digestOfSlight_23 : decode cX0_digestOfSlight 23 = .ok (.lstore 4, 2) := by decide +kernel
theorem dX0_digestOfSlight_25 : decode cX0_digestOfSlight 25 = .ok (.lload 4, 2) := by decide +kernel
theorem dX0_digestOfSlight_27 : decode cX0_digestOfSlight 27 = .ok (.aload_n 0, 1) := by decide +kernel
theorem dX0_digestOfSlight_28 : decode cX0_digestOfSlight 28 = .ok (.iload_n 3, 1) := by decide +kernel
theorem dX0_digestOfSlight_29 : decode cX0_digestOfSlight 29 = .ok (.invokevirtual 229, 3) := by decide +kernel
theorem dX0_digestOfSlight_32 : decode cX0_digestOfSlight 32 = .ok (.i2l, 1) := by decide +kernel
theorem dX0_digestOfSlight_33 : decode cX0_digestOfSlight 33 = .ok (.invokestatic 188, 3) := by decide +kernel
theorem dX0_digestOfSlight_36 : decode cX0_digestOfSlight 36 = .ok (.lstore 4, 2) := by decide +kernel
theorem dX0_digestOfSlight_38 : decode cX0_digestOfSlight 38 = .ok (.lload 4, 2) := by decide +kernel
theorem dX0_digestOfSlight_40 : decode cX0_digestOfSlight 40 = .ok (.aload_n 0, 1) := by decide +kernel
theorem dX0_digestOfSlight_41 : decode cX0_digestOfSlight 41 = .ok (.iload_n 3, 1) := by decide +kernel
theorem dX0_digestOfSlight_42 : decode cX0_digestOfSlight 42 = .ok (.invokevirtual 232, 3) := by decide +kernel
theorem dX0_digestOfSlight_45 : decode cX0_digestOfSlight 45 = .ok (.i2l, 1) := by decide +kernel
theorem dX0_digestOfSlight_46 : decode cX0_digestOfSlight 46 = .ok (.invokestatic 188, 3) := by decide +kernel
theorem dX0_digestOfSlight_49 : decode cX0_digestOfSlight 49 = .ok (.lstore 4, 2) := by decide +kernel
theorem dX0_digestOfSlight_51 : decode cX0_digestOfSlight 51 = .ok (.lload 4, 2) := by decide +kernel
theorem dX0_digestOfSlight_53 : decode cX0_digestOfSlight 53 = .ok (.aload_n 0, 1) := by decide +kernel
theorem dX0_digestOfSlight_54 : decode cX0_digestOfSlight 54 = .ok (.iload_n 3, 1) := by decide +kernel
theorem dX0_digestOfSlight_55 : decode cX0_digestOfSlight 55 = .ok (.invokevirtual 168, 3) := by decide +kernel
theorem dX0_digestOfSlight_58 : decode cX0_digestOfSlight 58 = .ok (.i2l, 1) := by decide +kernel
theorem dX0_digestOfSlight_59 : decode cX0_digestOfSlight 59 = .ok (.invokestatic 188, 3) := by decide +kernel
theorem dX0_digestOfSlight_62 : decode cX0_digestOfSlight 62 = .ok (.lstore 4, 2) := by decide +kernel
theorem dX0_digestOfSlight_64 : decode cX0_digestOfSlight 64 = .ok (.lload 4, 2) := by decide +kernel
theorem dX0_digestOfSlight_66 : decode cX0_digestOfSlight 66 = .ok (.aload_n 0, 1) := by decide +kernel
theorem dX0_digestOfSlight_67 : decode cX0_digestOfSlight 67 = .ok (.iload_n 3, 1) := by decide +kernel
theorem dX0_digestOfSlight_68 : decode cX0_digestOfSlight 68 = .ok (.invokevirtual 235, 3) := by decide +kernel
theorem dX0_digestOfSlight_71 : decode cX0_digestOfSlight 71 = .ok (.i2l, 1) := by decide +kernel
theorem dX0_digestOfSlight_72 : decode cX0_digestOfSlight 72 = .ok (.invokestatic 188, 3) := by decide +kernel
theorem dX0_digestOfSlight_75 : decode cX0_digestOfSlight 75 = .ok (.lstore 4, 2) := by decide +kernel
theorem dX0_digestOfSlight_77 : decode cX0_digestOfSlight 77 = .ok (.lload 4, 2) := by decide +kernel
theorem dX0_digestOfSlight_79 : decode cX0_digestOfSlight 79 = .ok (.aload_n 0, 1) := by decide +kernel
theorem dX0_digestOfSlight_80 : decode cX0_digestOfSlight 80 = .ok (.iload_n 3, 1) := by decide +kernel
theorem dX0_digestOfSlight_81 : decode cX0_digestOfSlight 81 = .ok (.bipush 7, 2) := by decide +kernel
theorem dX0_digestOfSlight_83 : decode cX0_digestOfSlight 83 = .ok (.invokevirtual 127, 3) := by decide +kernel
theorem dX0_digestOfSlight_86 : decode cX0_digestOfSlight 86 = .ok (.i2l, 1) := by decide +kernel
theorem dX0_digestOfSlight_87 : decode cX0_digestOfSlight 87 = .ok (.invokestatic 188, 3) := by decide +kernel
theorem dX0_digestOfSlight_90 : decode cX0_digestOfSlight 90 = .ok (.lstore 4, 2) := by decide +kernel
theorem dX0_digestOfSlight_92 : decode cX0_digestOfSlight 92 = .ok (.lload 4, 2) := by decide +kernel
theorem dX0_digestOfSlight_94 : decode cX0_digestOfSlight 94 = .ok (.aload_n 0, 1) := by decide +kernel
theorem dX0_digestOfSlight_95 : decode cX0_digestOfSlight 95 = .ok (.iload_n 3, 1) := by decide +kernel
theorem dX0_digestOfSlight_96 : decode cX0_digestOfSlight 96 = .ok (.invokevirtual 238, 3) := by decide +kernel
theorem dX0_digestOfSlight_99 : decode cX0_digestOfSlight 99 = .ok (.i2l, 1) := by decide +kernel
theorem dX0_digestOfSlight_100 : decode cX0_digestOfSlight 100 = .ok (.invokestatic 188, 3) := by decide +kernel
theorem dX0_digestOfSlight_103 : decode cX0_digestOfSlight 103 = .ok (.lreturn, 1) := by decide +kernel
end
section
theorem zz_last : True := trivial
end
