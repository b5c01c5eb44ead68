/-! WHAT HOLDS OF EVERY LEDGER that the law makes; a person more, a slight more. -/
def zJ (B : Nat) (σ : zS) : Prop := zI B σ ∧ (∀ p, σ.1 0 ≤ p → σ.2 1 p = 0) ∧ (∀ k, σ.2 7 k ≤ σ.2 6 k)
theorem zJ_mk {B B' : Nat} {σ σ' : zS} (hJ : zJ B σ) (hI : zI B' σ') (h0 : σ.1 0 ≤ σ'.1 0) (h1 : ∀ p, σ'.1 0 ≤ p → σ'.2 1 p = σ.2 1 p) (h67 : ∀ k, σ'.2 7 k ≤ σ'.2 6 k) : zJ B' σ' :=
  ⟨hI, fun p hp => by rw [h1 p hp]; exact hJ.2.1 p (Nat.le_trans h0 hp), h67⟩
theorem mono_zJ {B B' : Nat} {σ : zS} (h : zJ B σ) (h1 : B ≤ B') (h2 : B' ≤ 100000) : zJ B' σ := ⟨mono_zI h.1 h1 h2, h.2⟩
theorem adp_zJ {B : Nat} {σ : zS} {z : Int} (h : zJ B σ) (hz : 0 ≤ z ∧ z ≤ 9) (hf : σ.1 0 < 6) : zJ B (adp σ z) :=
  zJ_mk h (adp_zI h.1 hz hf) (by show σ.1 0 ≤ σ.1 0 + 1; omega) (fun p _ => by simp [adp, stS, stA]) (fun k => by have := h.2.2 k; simpa [adp, stS, stA] using this)
theorem ent_zJ {B : Nat} {σ : zS} {k : Nat} (h : zJ B σ) (hk : k < σ.1 0) : zJ B (ent σ k) :=
  zJ_mk h (ent_zI h.1) (Nat.le_refl _) (fun p hp => by
    have hp : σ.1 0 ≤ p := hp
    have hne : p ≠ k := by omega
    simp [ent, stA, hne]) (fun k => by have := h.2.2 k; simpa [ent, stA] using this)
theorem pri_zJ {B : Nat} {σ : zS} {p : Nat} {z : Int} (h : zJ B σ) (hz : 0 ≤ z ∧ z ≤ 9) : zJ B (stA σ 0 p z) :=
  zJ_mk h (row_zI h.1 (Or.inl ⟨rfl, hz.1, hz.2⟩)) (Nat.le_refl _) (fun q _ => by simp [stA]) (fun k => by have := h.2.2 k; simpa [stA] using this)
theorem sli_zJ {B : Nat} {σ : zS} {i o : Nat} {w : Int} (h : zJ B σ) (hi : i < σ.1 0) (ho : o < σ.1 0) (hne : i ≠ o) (hw : 1 ≤ w ∧ w ≤ 20) (hf : σ.1 1 < 20) : zJ B (sli σ i o w) :=
  zJ_mk h (sli_zI h.1 hi ho hne hw hf) (Nat.le_refl _) (fun q _ => by simp [sli, stS, stA]) (fun k => by have := h.2.2 k; simpa [sli, stS, stA] using this)
theorem spk_67 {B : Nat} {σ : zS} (h : zJ B σ) (k q : Nat) : (spk σ k).2 7 q ≤ (spk σ k).2 6 q := by
  have h6 := h.1.r6 q
  have h7 := h.2.2 q
  by_cases hq : q = k
  · subst hq; simp [spk, stA]; omega
  · simp [spk, stA, hq]; exact h7
theorem spk_zJ {B : Nat} {σ : zS} {k : Nat} (h : zJ B σ) (hk : k < σ.1 1) (hs : σ.2 5 k = 0) : zJ B (spk σ k) :=
  zJ_mk h (spk0_zI h.1 hk hs) (Nat.le_refl _) (fun q _ => by simp [spk, stA]) (fun q => spk_67 h k q)
theorem lit_zJ {B : Nat} {σ : zS} {k : Nat} {v q : Int} (h : zJ B σ) (hk : k < σ.1 1) (hv : 0 ≤ v) (hq : 1 ≤ q ∧ q ≤ 3) : zJ B (lit σ k v q) :=
  zJ_mk h (lit_zI h.1 hk hv hq) (by rw [lit_n]; exact Nat.le_refl _) (fun p _ => lit_o (by decide) (by decide)) (fun k2 => by rw [lit_o (by decide) (by decide), lit_o (by decide) (by decide)]; exact h.2.2 k2)
theorem apo_1 {σ : zS} {k : Nat} {w : Int} {i : Nat} (h : i ≠ 3) : (apo σ k w).1 i = σ.1 i := by
  unfold apo
  split
  · show (if i = 3 then _ else σ.1 i) = _
    rw [if_neg h]
  · rw [lit_n]
theorem sof_1 {σ : zS} {i o : Nat} : (sof σ i o).1 = σ.1 := by unfold sof; rw [lit_n, lit_n]
theorem apo_zJ {B : Nat} {σ : zS} {k : Nat} {w : Int} (h : zJ B σ) (hk : k < σ.1 1) (hs : σ.2 5 k = 0) (hw : 1 ≤ w ∧ w ≤ 20) (hB : B + 1 ≤ 100000) : zJ (B + 1) (apo σ k w) := by
  have hw0 := wit_0 σ k
  refine zJ_mk h (apo_zI h.1 hk hs hw hB) (by rw [apo_1 (by decide)]; exact Nat.le_refl _) (fun p _ => ?_) (fun q => ?_)
  · unfold apo; split
    · simp [spk, stS, stA]
    · exact lit_o (by decide) (by decide)
  · unfold apo; split
    · have h6 := h.1.r6 q
      have h7 := h.2.2 q
      by_cases hq : q = k
      · subst hq; simp [spk, stA, stS]; omega
      · simp [spk, stA, stS, hq]; exact h7
    · rw [lit_o (by decide) (by decide), lit_o (by decide) (by decide)]; exact h.2.2 q
theorem sof_zJ {B : Nat} {σ : zS} {i o : Nat} (h : zJ B σ) (hi : i < σ.1 1) (ho : o < σ.1 1) : zJ B (sof σ i o) := by
  have g := h.1.r4 i
  have g' := h.1.r4 o
  unfold sof
  exact lit_zJ (lit_zJ h hi (by omega) ⟨by decide, by decide⟩) (by rw [lit_n]; exact ho) (by omega) ⟨by decide, by decide⟩
theorem day1_zJ {B : Nat} {σ : zS} (h : zJ B σ) (hB : B + 1 ≤ 100000) : zJ (B + 1) (day1 σ).1 := by
  refine zJ_mk h (day1_zI h.1 hB) (by rw [day1_1]; exact Nat.le_refl _) (fun p _ => ?_) (fun k => ?_)
  · rw [day1_2]; split
    · exact bea_lo 1 (by decide)
    · rfl
  · have h7 := h.2.2 k
    rw [day1_2, day1_2]; split
    · rw [bea_6, bea_7]; omega
    · exact h7
theorem dyn_zJ {B : Nat} {σ : zS} (h : zJ B σ) : ∀ j : Nat, B + j ≤ 100000 → zJ (B + j) (dyn σ j).1
  | 0, _ => h
  | j + 1, hB => day1_zJ (dyn_zJ h j (by omega)) (by omega)
theorem σ0_zJ : zJ 0 σ0 := by
  refine ⟨?_, fun _ _ => rfl, fun _ => Int.le_refl _⟩
  unfold zI
  simp [σ0]
/-! growth -/
def uX (G : zG) (y P S : Nat) (rp rs : Nat → Nat) (σ : zS) (f : List Value) : va_W := (y, .inr (1, f)) :: oR G P (σ.1 0) rp :: oR G S (σ.1 1) rs :: uRows G rp rs σ
theorem uX_same {G : zG} {y P S : Nat} {rp rs : Nat → Nat} {σ : zS} {f f' : List Value} {k : Nat} (h : k ≠ 0) : (uX G y P S rp rs σ f)[k]? = (uX G y P S rp rs σ f')[k]? := by
  match k, h with
  | k + 1, _ => rfl
theorem uX_put {G : zG} {x : Nat} {a : Nat → Nat} {σ τ : zS} {y P S : Nat} {rp rs : Nat → Nat} {es : va_W} {f f' : List Value} : (xW G x a σ ++ uX G y P S rp rs τ f ++ es).set 9 (y, .inr (1, f')) = xW G x a σ ++ uX G y P S rp rs τ f' ++ es := by
  have h := set_mid (xW G x a σ) (uX G y P S rp rs τ f) es 0 (y, .inr (1, f')) (by show 0 < _ + 1; omega)
  exact h
theorem uX_p {G : zG} {y P S : Nat} {rp rs : Nat → Nat} {σ : zS} {f : List Value} {p : Nat} (h : p < σ.1 0) : (uX G y P S rp rs σ f)[3 + p]? = some (pR G rp σ p) := by
  rw [uX_same (f' := uF P S σ) (by omega)]; exact uW_p h
theorem uX_s {G : zG} {y P S : Nat} {rp rs : Nat → Nat} {σ : zS} {f : List Value} {k : Nat} (h : k < σ.1 1) : (uX G y P S rp rs σ f)[3 + σ.1 0 + k]? = some (sR G rs σ k) := by
  rw [uX_same (f' := uF P S σ) (by omega)]; exact uW_s h
theorem uX_len (G : zG) (y P S : Nat) (rp rs : Nat → Nat) (σ : zS) (f : List Value) : (uX G y P S rp rs σ f).length = 3 + σ.1 0 + σ.1 1 := uW_len G y P S rp rs σ
theorem grow_P {A : Nat → Prop} {G : zG} {x : Nat} {a : Nat → Nat} {σ τ τ' : zS} {y P S : Nat} {rp rs : Nat → Nat} {H : Heap} {q ra : Nat} {f : Nat → Int32}
    (h0 : τ'.1 0 = τ.1 0 + 1) (h1 : τ'.1 1 = τ.1 1) (h2 : τ'.1 2 = τ.1 2) (h3 : τ'.1 3 = τ.1 3) (hp : ∀ p, p < τ.1 0 → pf τ' p = pf τ p) (hf : pf τ' (τ.1 0) = f) (hs : ∀ k, sf τ' k = sf τ k)
    (hP : va_P G.1 vwCl (xW G x a σ ++ uX G y P S rp rs τ ((uF P S τ).set 0 (.ref ra)) ++ [(q, .inl (G.2.1, 2, .inl f)), oR G ra (τ.1 0 + 1) (sn rp (τ.1 0) q)]) H)
    (hD : va_D A (xW G x a σ ++ uX G y P S rp rs τ ((uF P S τ).set 0 (.ref ra)) ++ [(q, .inl (G.2.1, 2, .inl f)), oR G ra (τ.1 0 + 1) (sn rp (τ.1 0) q)])) :
    va_P G.1 vwCl (xW G x a σ ++ uW G y ra S (sn rp (τ.1 0) q) rs τ' ++ []) H ∧ va_D A (xW G x a σ ++ uW G y ra S (sn rp (τ.1 0) q) rs τ' ++ []) := by
  rw [List.append_nil]
  obtain ⟨g, hgd⟩ : ∃ g : Nat → Nat, g = fun i => if i = 10 then 12 + τ.1 0 + τ.1 1 + 1 else if i < 12 + τ.1 0 then i else if i = 12 + τ.1 0 then 12 + τ.1 0 + τ.1 1 else i - 1 := ⟨_, rfl⟩
  have gi : ∀ i, (i = 10 ∧ g i = 12 + τ.1 0 + τ.1 1 + 1) ∨ (i ≠ 10 ∧ i < 12 + τ.1 0 ∧ g i = i) ∨ (i = 12 + τ.1 0 ∧ g i = 12 + τ.1 0 + τ.1 1) ∨ (i ≠ 10 ∧ 12 + τ.1 0 < i ∧ g i = i - 1) := fun i => by
    rw [hgd]
    dsimp only
    by_cases c1 : i = 10
    · rw [if_pos c1]; omega
    · rw [if_neg c1]
      by_cases c2 : i < 12 + τ.1 0
      · rw [if_pos c2]; omega
      · rw [if_neg c2]
        by_cases c3 : i = 12 + τ.1 0
        · rw [if_pos c3]; omega
        · rw [if_neg c3]; omega
  have hg : ∀ (i : Nat) (e : Nat × va_E), (xW G x a σ ++ uW G y ra S (sn rp (τ.1 0) q) rs τ')[i]? = some e → (xW G x a σ ++ uX G y P S rp rs τ ((uF P S τ).set 0 (.ref ra)) ++ [(q, .inl (G.2.1, 2, .inl f)), oR G ra (τ.1 0 + 1) (sn rp (τ.1 0) q)])[g i]? = some e := by
    intro i e he
    have hl9 : (xW G x a σ).length = 9 := rfl
    by_cases c : i < 9
    · rw [List.getElem?_append_left (by omega)] at he
      have hgi : g i = i := by have := gi i; omega
      rw [hgi]; exact app_fst he
    · rw [List.getElem?_append_right (by omega), hl9] at he
      have hmid : ∀ (k : Nat) (e : Nat × va_E), (uX G y P S rp rs τ ((uF P S τ).set 0 (.ref ra)))[k]? = some e → (xW G x a σ ++ uX G y P S rp rs τ ((uF P S τ).set 0 (.ref ra)) ++ [(q, .inl (G.2.1, 2, .inl f)), oR G ra (τ.1 0 + 1) (sn rp (τ.1 0) q)])[9 + k]? = some e := fun k e h => app_mid h
      have hlst : ∀ (k : Nat) (e : Nat × va_E), [(q, (.inl (G.2.1, 2, .inl f) : va_E)), oR G ra (τ.1 0 + 1) (sn rp (τ.1 0) q)][k]? = some e → (xW G x a σ ++ uX G y P S rp rs τ ((uF P S τ).set 0 (.ref ra)) ++ [(q, .inl (G.2.1, 2, .inl f)), oR G ra (τ.1 0 + 1) (sn rp (τ.1 0) q)])[12 + τ.1 0 + τ.1 1 + k]? = some e := fun k e h => by
        have h9 := app_lst (w1 := xW G x a σ) (w2 := uX G y P S rp rs τ ((uF P S τ).set 0 (.ref ra))) h
        rw [List.length_append, uX_len, hl9, show 9 + (3 + τ.1 0 + τ.1 1) + k = 12 + τ.1 0 + τ.1 1 + k from by omega] at h9
        exact h9
      rcases uW_all he with ⟨e1, e2⟩ | ⟨e1, e2⟩ | ⟨e1, e2⟩ | ⟨p, hpp, e1, e2⟩ | ⟨k, hkk, e1, e2⟩
      · have hgi : g i = 9 + 0 := by have := gi i; omega
        rw [hgi, e2]
        refine hmid 0 _ ?_
        unfold uF; rw [h2, h3]; rfl
      · have hgi : g i = 12 + τ.1 0 + τ.1 1 + 1 := by have := gi i; omega
        rw [hgi, e2, h0]
        exact hlst 1 _ rfl
      · have hgi : g i = 9 + 2 := by have := gi i; omega
        rw [hgi, e2, h1]
        exact hmid 2 _ rfl
      · rw [h0] at hpp
        by_cases c2 : p < τ.1 0
        · have hgi : g i = 9 + (3 + p) := by have := gi i; omega
          rw [hgi, e2]
          refine hmid (3 + p) _ ?_
          rw [uX_p c2]
          unfold pR
          rw [sn_lt c2, hp p c2]
        · have hpe : p = τ.1 0 := by omega
          subst hpe
          have hgi : g i = 12 + τ.1 0 + τ.1 1 + 0 := by have := gi i; omega
          rw [hgi, e2]
          refine hlst 0 _ ?_
          unfold pR
          rw [sn_eq, hf]; rfl
      · rw [h1] at hkk
        rw [h0] at e1
        have hgi : g i = 9 + (3 + τ.1 0 + k) := by have := gi i; omega
        rw [hgi, e2]
        refine hmid (3 + τ.1 0 + k) _ ?_
        rw [uX_s hkk]
        unfold sR
        rw [hs k]
  have hlen : (xW G x a σ ++ uW G y ra S (sn rp (τ.1 0) q) rs τ').length = 9 + (3 + (τ.1 0 + 1) + τ.1 1) := by
    rw [List.length_append, uW_len, h0, h1]; rfl
  exact ⟨hP.by g hg, hD.by g hg (fun i j hi hj hij => by
    rw [hlen] at hi hj
    have a1 := gi i
    have a2 := gi j
    omega)⟩
theorem grow_S {A : Nat → Prop} {G : zG} {x : Nat} {a : Nat → Nat} {σ τ τ' : zS} {y P S : Nat} {rp rs : Nat → Nat} {H : Heap} {q ra : Nat} {f : Nat → Int32}
    (h0 : τ'.1 0 = τ.1 0) (h1 : τ'.1 1 = τ.1 1 + 1) (h2 : τ'.1 2 = τ.1 2) (h3 : τ'.1 3 = τ.1 3) (hp : ∀ p, pf τ' p = pf τ p) (hf : sf τ' (τ.1 1) = f) (hs : ∀ k, k < τ.1 1 → sf τ' k = sf τ k)
    (hP : va_P G.1 vwCl (xW G x a σ ++ uX G y P S rp rs τ ((uF P S τ).set 1 (.ref ra)) ++ [(q, .inl (G.2.1, 6, .inl f)), oR G ra (τ.1 1 + 1) (sn rs (τ.1 1) q)]) H)
    (hD : va_D A (xW G x a σ ++ uX G y P S rp rs τ ((uF P S τ).set 1 (.ref ra)) ++ [(q, .inl (G.2.1, 6, .inl f)), oR G ra (τ.1 1 + 1) (sn rs (τ.1 1) q)])) :
    va_P G.1 vwCl (xW G x a σ ++ uW G y P ra rp (sn rs (τ.1 1) q) τ' ++ []) H ∧ va_D A (xW G x a σ ++ uW G y P ra rp (sn rs (τ.1 1) q) τ' ++ []) := by
  rw [List.append_nil]
  obtain ⟨g, hgd⟩ : ∃ g : Nat → Nat, g = fun i => if i = 11 then 12 + τ.1 0 + τ.1 1 + 1 else i := ⟨_, rfl⟩
  have gi : ∀ i, (i = 11 ∧ g i = 12 + τ.1 0 + τ.1 1 + 1) ∨ (i ≠ 11 ∧ g i = i) := fun i => by
    rw [hgd]
    dsimp only
    by_cases c1 : i = 11
    · rw [if_pos c1]; omega
    · rw [if_neg c1]; omega
  have hg : ∀ (i : Nat) (e : Nat × va_E), (xW G x a σ ++ uW G y P ra rp (sn rs (τ.1 1) q) τ')[i]? = some e → (xW G x a σ ++ uX G y P S rp rs τ ((uF P S τ).set 1 (.ref ra)) ++ [(q, .inl (G.2.1, 6, .inl f)), oR G ra (τ.1 1 + 1) (sn rs (τ.1 1) q)])[g i]? = some e := by
    intro i e he
    have hl9 : (xW G x a σ).length = 9 := rfl
    by_cases c : i < 9
    · rw [List.getElem?_append_left (by omega)] at he
      have hgi : g i = i := by have := gi i; omega
      rw [hgi]; exact app_fst he
    · rw [List.getElem?_append_right (by omega), hl9] at he
      have hmid : ∀ (k : Nat) (e : Nat × va_E), (uX G y P S rp rs τ ((uF P S τ).set 1 (.ref ra)))[k]? = some e → (xW G x a σ ++ uX G y P S rp rs τ ((uF P S τ).set 1 (.ref ra)) ++ [(q, .inl (G.2.1, 6, .inl f)), oR G ra (τ.1 1 + 1) (sn rs (τ.1 1) q)])[9 + k]? = some e := fun k e h => app_mid h
      have hlst : ∀ (k : Nat) (e : Nat × va_E), [(q, (.inl (G.2.1, 6, .inl f) : va_E)), oR G ra (τ.1 1 + 1) (sn rs (τ.1 1) q)][k]? = some e → (xW G x a σ ++ uX G y P S rp rs τ ((uF P S τ).set 1 (.ref ra)) ++ [(q, .inl (G.2.1, 6, .inl f)), oR G ra (τ.1 1 + 1) (sn rs (τ.1 1) q)])[12 + τ.1 0 + τ.1 1 + k]? = some e := fun k e h => by
        have h9 := app_lst (w1 := xW G x a σ) (w2 := uX G y P S rp rs τ ((uF P S τ).set 1 (.ref ra))) h
        rw [List.length_append, uX_len, hl9, show 9 + (3 + τ.1 0 + τ.1 1) + k = 12 + τ.1 0 + τ.1 1 + k from by omega] at h9
        exact h9
      rcases uW_all he with ⟨e1, e2⟩ | ⟨e1, e2⟩ | ⟨e1, e2⟩ | ⟨p, hpp, e1, e2⟩ | ⟨k, hkk, e1, e2⟩
      · have hgi : g i = 9 + 0 := by have := gi i; omega
        rw [hgi, e2]
        refine hmid 0 _ ?_
        unfold uF; rw [h2, h3]; rfl
      · have hgi : g i = 9 + 1 := by have := gi i; omega
        rw [hgi, e2, h0]
        exact hmid 1 _ rfl
      · have hgi : g i = 12 + τ.1 0 + τ.1 1 + 1 := by have := gi i; omega
        rw [hgi, e2, h1]
        exact hlst 1 _ rfl
      · rw [h0] at hpp
        have hgi : g i = 9 + (3 + p) := by have := gi i; omega
        rw [hgi, e2]
        refine hmid (3 + p) _ ?_
        rw [uX_p hpp]
        unfold pR
        rw [hp p]
      · rw [h1] at hkk
        rw [h0] at e1
        by_cases c2 : k < τ.1 1
        · have hgi : g i = 9 + (3 + τ.1 0 + k) := by have := gi i; omega
          rw [hgi, e2]
          refine hmid (3 + τ.1 0 + k) _ ?_
          rw [uX_s c2]
          unfold sR
          rw [sn_lt c2, hs k c2]
        · have hke : k = τ.1 1 := by omega
          subst hke
          have hgi : g i = 12 + τ.1 0 + τ.1 1 + 0 := by have := gi i; omega
          rw [hgi, e2]
          refine hlst 0 _ ?_
          unfold sR
          rw [sn_eq, hf]; rfl
  have hlen : (xW G x a σ ++ uW G y P ra rp (sn rs (τ.1 1) q) τ').length = 9 + (3 + τ.1 0 + (τ.1 1 + 1)) := by
    rw [List.length_append, uW_len, h0, h1]; rfl
  exact ⟨hP.by g hg, hD.by g hg (fun i j hi hj hij => by
    rw [hlen] at hi hj
    have a1 := gi i
    have a2 := gi j
    omega)⟩
theorem j_addq {A : Nat → Prop} {ws : va_W} {e : Nat × va_E} (hD : va_D A ws) (hne : ∀ (k : Nat) (q : Nat × va_E), ws[k]? = some q → q.1 ≠ e.1) (hA : A e.1) : va_D A (ws ++ [e]) := by
  refine hD.app ⟨fun i j p q hi hj _ => ?_, fun k q hk => ?_⟩ (fun i j p q hi hj => ?_)
  · have h1 := (List.getElem?_eq_some_iff.mp hi).1
    have h2 := (List.getElem?_eq_some_iff.mp hj).1
    simp at h1 h2; omega
  · have h1 := List.mem_of_getElem? hk
    rw [List.mem_singleton] at h1; rw [h1]; exact hA
  · have h1 := List.mem_of_getElem? hj
    rw [List.mem_singleton] at h1; rw [h1]; exact hne i p hi
theorem adp_pf {σ : zS} {z : Int} {p : Nat} (h : p < σ.1 0) : pf (adp σ z) p = pf σ p := by
  have hne : p ≠ σ.1 0 := by omega
  unfold pf; simp [adp, stS, stA, hne]
theorem adp_pfn {B : Nat} {σ : zS} {z : Int} (hJ : zJ B σ) : pf (adp σ z) (σ.1 0) = upd (upd (fun _ => 0) 0 (iI z)) 1 (iI 0) := by
  have h1 := hJ.2.1 (σ.1 0) (Nat.le_refl _)
  funext i
  by_cases c0 : i = 0
  · subst c0; simp [pf, adp, stS, stA, upd]
  · by_cases c1 : i = 1
    · subst c1; simp [pf, adp, stS, stA, upd, h1]
    · simp [pf, upd, c0, c1]
theorem adp_sf {σ : zS} {z : Int} (k : Nat) : sf (adp σ z) k = sf σ k := by
  funext i
  simp [sf, adp, stS, stA]
theorem sli_pf {σ : zS} {i o : Nat} {w : Int} (p : Nat) : pf (sli σ i o w) p = pf σ p := by
  unfold pf; simp [sli, stS, stA]
theorem sli_sf {σ : zS} {i o : Nat} {w : Int} {k : Nat} (h : k < σ.1 1) : sf (sli σ i o w) k = sf σ k := by
  have hne : k ≠ σ.1 1 := by omega
  funext j
  simp [sf, sli, stS, stA, hne]
theorem sli_sfn {B : Nat} {σ : zS} {i o : Nat} {w : Int} (hI : zI B σ) : sf (sli σ i o w) (σ.1 1) = upd (upd (upd (upd (upd (upd (fun _ => 0) 0 (iI (i : Int))) 1 (iI (o : Int))) 2 (iI w)) 3 (iI 0)) 4 (iI 0)) 5 (iI 0) := by
  have hw := hI.nw (Nat.le_refl (σ.1 1))
  funext j
  rcases (show j = 0 ∨ j = 1 ∨ j = 2 ∨ j = 3 ∨ j = 4 ∨ j = 5 ∨ 6 ≤ j by omega) with h | h | h | h | h | h | h
  · subst h; simp [sf, sli, stS, stA, upd]
  · subst h; simp [sf, sli, stS, stA, upd]
  · subst h; simp [sf, sli, stS, stA, upd]
  · subst h; simp [sf, sli, stS, stA, upd, hw.1]
  · subst h; simp [sf, sli, stS, stA, upd, hw.2.1]
  · subst h; simp [sf, sli, stS, stA, upd, hw.2.2]
  · have n0 : j ≠ 0 := by omega
    have n1 : j ≠ 1 := by omega
    have n2 : j ≠ 2 := by omega
    have n3 : j ≠ 3 := by omega
    have n4 : j ≠ 4 := by omega
    have n5 : j ≠ 5 := by omega
    have n6 : ¬ j < 6 := by omega
    simp [sf, upd, n0, n1, n2, n3, n4, n5, n6]
