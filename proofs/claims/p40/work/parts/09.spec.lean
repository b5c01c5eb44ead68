/-! THE LEDGER AS NUMBERS: what each call answers and does. -/
def zs (f : Nat → Int) : Nat → Int
  | 0 => 0
  | n + 1 => zs f n + f n
theorem zs_0 (f : Nat → Int) : zs f 0 = 0 := rfl
theorem zs_s (f : Nat → Int) (n : Nat) : zs f (n + 1) = zs f n + f n := rfl
theorem zs_cong {f g : Nat → Int} : ∀ {n : Nat}, (∀ k, k < n → f k = g k) → zs f n = zs g n
  | 0, _ => rfl
  | n + 1, h => by rw [zs_s, zs_s, zs_cong (fun k hk => h k (by omega)), h n (by omega)]
theorem zs_bd {f : Nat → Int} {c : Nat} : ∀ {n : Nat}, (∀ k, k < n → 0 ≤ f k ∧ f k ≤ c) → 0 ≤ zs f n ∧ zs f n ≤ n * c
  | 0, _ => by simp [zs]
  | n + 1, h => by
    have h1 := zs_bd (n := n) (fun k hk => h k (by omega))
    have h2 := h n (by omega)
    rw [zs_s, Int.natCast_add, Int.add_mul]
    omega
theorem zs_add (f g : Nat → Int) : ∀ n, zs (fun k => f k + g k) n = zs f n + zs g n
  | 0 => rfl
  | n + 1 => by rw [zs_s, zs_s, zs_s, zs_add f g n]; omega
def arg (P : Nat → Prop) [DecidablePred P] (f : Nat → Int) : Nat → Int
  | 0 => -1
  | n + 1 => if P n ∧ (arg P f n = -1 ∨ f (arg P f n).toNat < f n) then (n : Int) else arg P f n
theorem arg_s (P : Nat → Prop) [DecidablePred P] (f : Nat → Int) (n : Nat) : arg P f (n + 1) = if P n ∧ (arg P f n = -1 ∨ f (arg P f n).toNat < f n) then (n : Int) else arg P f n := rfl
theorem arg_bd (P : Nat → Prop) [DecidablePred P] (f : Nat → Int) : ∀ n : Nat, -1 ≤ arg P f n ∧ arg P f n < n
  | 0 => by simp [arg]
  | n + 1 => by
    have h := arg_bd P f n
    rw [arg_s]
    split <;> omega
theorem arg_P (P : Nat → Prop) [DecidablePred P] (f : Nat → Int) : ∀ n : Nat, arg P f n ≠ -1 → P (arg P f n).toNat
  | 0, h => absurd rfl h
  | n + 1, h => by
    rw [arg_s] at h ⊢
    split
    · rename_i h1
      exact h1.1
    · rename_i h1
      rw [if_neg h1] at h
      exact arg_P P f n h
def spk (σ : zS) (k : Nat) : zS := stA (stA σ 4 k (min (σ.2 4 k + 1) 99)) 7 k 0
def clo (σ : zS) (k : Nat) (st : Int) : zS := stA (stA σ 5 k st) 4 k 0
def lit (σ : zS) (k : Nat) (less st : Int) : zS := if less < σ.2 4 k then stA σ 4 k (σ.2 4 k - less) else clo σ k st
def wit (σ : zS) (k : Nat) : Int := zs (fun p => if σ.2 1 p = 1 ∧ (p : Int) ≠ σ.2 2 k ∧ (p : Int) ≠ σ.2 3 k then 1 else 0) (σ.1 0)
def lea (σ : zS) (k : Nat) : Int := max (σ.2 0 (σ.2 3 k).toNat) (σ.2 4 k / 4)
def apo (σ : zS) (k : Nat) (w : Int) : zS := if w + 2 * wit σ k < lea σ k then spk (stS σ 3 (σ.1 3 + 1)) k else lit σ k (w + 2 * wit σ k) 1
def sof (σ : zS) (i j : Nat) : zS := lit (lit σ i (min (σ.2 4 i) (σ.2 4 j)) 3) j (min (σ.2 4 i) (σ.2 4 j)) 3
def adp (σ : zS) (z : Int) : zS := stS (stA σ 0 (σ.1 0) z) 0 (σ.1 0 + 1)
def ent (σ : zS) (k : Nat) : zS := stA σ 1 k (1 - σ.2 1 k)
def sli (σ : zS) (i j : Nat) (w : Int) : zS := stS (stA (stA (stA σ 2 (σ.1 1) i) 3 (σ.1 1) j) 4 (σ.1 1) w) 1 (σ.1 1 + 1)
def wwb (w d : Int) : Int := if d % 5 = 0 then min (w + max 1 (w / 10)) 99 else w
def gro (w : Int) : Int := min 99 (w + max 1 (w / 10))
def itg : Nat → Int → Int
  | 0, w => w
  | n + 1, w => gro (itg n w)
def bea (σ : zS) (k : Nat) : zS :=
  if 30 ≤ σ.2 7 k + 1 then clo (stA (stA (stA σ 6 k (σ.2 6 k + 1)) 7 k (σ.2 7 k + 1)) 4 k (wwb (σ.2 4 k) (σ.2 6 k + 1))) k 2
  else stA (stA (stA σ 6 k (σ.2 6 k + 1)) 7 k (σ.2 7 k + 1)) 4 k (wwb (σ.2 4 k) (σ.2 6 k + 1))
def dyf (σ : zS) : Nat → zS × Int
  | 0 => (σ, 0)
  | k + 1 => if (dyf σ k).1.2 5 k = 0 then (bea (dyf σ k).1 k, (dyf σ k).2 + if (bea (dyf σ k).1 k).2 5 k = 2 then 1 else 0) else dyf σ k
def day1 (σ : zS) : zS × Int := (stS (dyf σ (σ.1 1)).1 2 ((dyf σ (σ.1 1)).1.1 2 + 1), (dyf σ (σ.1 1)).2)
def dyn (σ : zS) : Nat → zS × Int
  | 0 => (σ, 0)
  | d + 1 => ((day1 (dyn σ d).1).1, (dyn σ d).2 + (day1 (dyn σ d).1).2)
def lat (σ : zS) (k : Nat) (d : Int) : Int := if σ.2 5 k = 0 ∧ σ.2 7 k + d < 30 then itg ((σ.2 6 k + d) / 5 - σ.2 6 k / 5).toNat (σ.2 4 k) else 0
def inh (σ : zS) : Int := zs (fun p => if σ.2 1 p = 1 then 1 else 0) (σ.1 0)
def bor (σ : zS) (p : Int) : Int := zs (fun k => if σ.2 5 k = 0 ∧ σ.2 3 k = p then σ.2 4 k else 0) (σ.1 1)
def owe (σ : zS) (p : Int) : Int := zs (fun k => if σ.2 5 k = 0 ∧ σ.2 2 k = p then σ.2 4 k else 0) (σ.1 1)
def btw (σ : zS) (i j : Int) : Int := zs (fun k => if σ.2 5 k = 0 ∧ σ.2 2 k = i ∧ σ.2 3 k = j then σ.2 4 k else 0) (σ.1 1)
def tot (σ : zS) : Int := zs (fun k => if σ.2 5 k = 0 then σ.2 4 k else 0) (σ.1 1)
def cnt (σ : zS) (st : Int) : Int := zs (fun k => if σ.2 5 k = st then 1 else 0) (σ.1 1)
def sor (σ : zS) : Int := arg (fun _ => True) (fun p => bor σ p) (σ.1 0)
def hea (σ : zS) : Int := arg (fun k => σ.2 5 k = 0) (fun k => σ.2 4 k) (σ.1 1)
def wor (σ : zS) (p : Int) : Int := arg (fun k => σ.2 5 k = 0 ∧ σ.2 2 k = p) (fun k => lat σ k 20 - σ.2 4 k) (σ.1 1)
def pq (σ : zS) (i j : Nat) : Int := if σ.2 5 i = 0 ∧ σ.2 5 j = 0 ∧ σ.2 2 i = σ.2 3 j ∧ σ.2 2 j = σ.2 3 i then 1 else 0
def pai (σ : zS) : Int := zs (fun k => zs (fun o => pq σ k o) k) (σ.1 1)
def wan (σ : zS) (k : Nat) : Int := if σ.2 5 k = 0 then (if 20 < max 1 (max (σ.2 4 k) (σ.2 0 (σ.2 3 k).toNat) - 2 * wit σ k) then -1 else max 1 (max (σ.2 4 k) (σ.2 0 (σ.2 3 k).toNat) - 2 * wit σ k)) else -1
def wbs (σ : zS) (k : Nat) (w : Int) : Int := if σ.2 5 k = 0 ∧ w + 2 * wit σ k < lea σ k then 1 else 0
def unt (σ : zS) (k : Nat) : Int := if σ.2 5 k = 0 then 30 - σ.2 7 k else -1
def bth (σ : zS) (p : Int) (d : Int) : Int := zs (fun k => if σ.2 3 k = p then lat σ k d else 0) (σ.1 1)
def mea (σ : zS) : UInt64 := if cnt σ 0 = 0 then FP.dconst0 else FP.ddiv (FP.i2d (iI (tot σ))) (FP.i2d (iI (cnt σ 0)))
def dg (d : Int64) (z : Int) : Int64 := d * 31 + (iI z).toInt64
def dgl (d : Int64) : List Int → Int64
  | [] => d
  | z :: l => dgl (dg d z) l
def dgW (σ : zS) : List Int := [(σ.1 2 : Int), (σ.1 0 : Int), (σ.1 1 : Int), inh σ, (σ.1 3 : Int), sor σ, cnt σ 0, cnt σ 1, cnt σ 2, cnt σ 3, hea σ, pai σ]
def dgP (σ : zS) (p : Nat) : List Int := [σ.2 1 p, σ.2 0 p, bor σ p, owe σ p, bth σ p 10, wor σ p]
def dgS (σ : zS) (k : Nat) : List Int := [σ.2 4 k, σ.2 5 k, σ.2 6 k, σ.2 7 k, wit σ k, wan σ k, lat σ k 7, unt σ k]
def dgp (σ : zS) (d : Int64) : Nat → Int64
  | 0 => d
  | p + 1 => dgl (dgp σ d p) (dgP σ p)
def dgs (σ : zS) (d : Int64) : Nat → Int64
  | 0 => d
  | k + 1 => dgl (dgs σ d k) (dgS σ k)
def dig (σ : zS) : Int64 := dgs σ (dgp σ (dgl 2027 (dgW σ)) (σ.1 0)) (σ.1 1)
/-- what holds of every ledger that a run makes; B: how far the days have come, at most -/
def zI (B : Nat) (σ : zS) : Prop :=
  (σ.1 0 ≤ 6 ∧ σ.1 1 ≤ 20) ∧ (σ.1 2 ≤ B ∧ σ.1 3 ≤ B ∧ B ≤ 100000) ∧ (∀ k, 0 ≤ σ.2 0 k ∧ σ.2 0 k ≤ 9) ∧ (∀ k, 0 ≤ σ.2 1 k ∧ σ.2 1 k ≤ 1) ∧
  (∀ k, k < σ.1 1 → (0 ≤ σ.2 2 k ∧ σ.2 2 k < σ.1 0) ∧ (0 ≤ σ.2 3 k ∧ σ.2 3 k < σ.1 0) ∧ σ.2 2 k ≠ σ.2 3 k) ∧
  (∀ k, (0 ≤ σ.2 4 k ∧ σ.2 4 k ≤ 99) ∧ (0 ≤ σ.2 5 k ∧ σ.2 5 k ≤ 3) ∧ (0 ≤ σ.2 6 k ∧ σ.2 6 k ≤ B) ∧ (0 ≤ σ.2 7 k ∧ σ.2 7 k ≤ 30) ∧ (σ.2 5 k ≠ 0 → σ.2 4 k = 0) ∧ (σ.2 5 k = 0 → σ.2 7 k < 30)) ∧
  (∀ k, k < σ.1 1 → σ.2 5 k = 0 → 1 ≤ σ.2 4 k) ∧
  (∀ k, σ.1 1 ≤ k → σ.2 5 k = 0 ∧ σ.2 6 k = 0 ∧ σ.2 7 k = 0)
theorem zI.n {B : Nat} {σ : zS} (h : zI B σ) : σ.1 0 ≤ 6 ∧ σ.1 1 ≤ 20 := h.1
theorem zI.b {B : Nat} {σ : zS} (h : zI B σ) : σ.1 2 ≤ B ∧ σ.1 3 ≤ B ∧ B ≤ 100000 := h.2.1
theorem zI.r0 {B : Nat} {σ : zS} (h : zI B σ) (k : Nat) : 0 ≤ σ.2 0 k ∧ σ.2 0 k ≤ 9 := h.2.2.1 k
theorem zI.r1 {B : Nat} {σ : zS} (h : zI B σ) (k : Nat) : 0 ≤ σ.2 1 k ∧ σ.2 1 k ≤ 1 := h.2.2.2.1 k
theorem zI.r2 {B : Nat} {σ : zS} (h : zI B σ) {k : Nat} (hk : k < σ.1 1) : 0 ≤ σ.2 2 k ∧ σ.2 2 k < σ.1 0 := (h.2.2.2.2.1 k hk).1
theorem zI.r3 {B : Nat} {σ : zS} (h : zI B σ) {k : Nat} (hk : k < σ.1 1) : 0 ≤ σ.2 3 k ∧ σ.2 3 k < σ.1 0 := (h.2.2.2.2.1 k hk).2.1
theorem zI.r23 {B : Nat} {σ : zS} (h : zI B σ) {k : Nat} (hk : k < σ.1 1) : σ.2 2 k ≠ σ.2 3 k := (h.2.2.2.2.1 k hk).2.2
theorem zI.r4 {B : Nat} {σ : zS} (h : zI B σ) (k : Nat) : 0 ≤ σ.2 4 k ∧ σ.2 4 k ≤ 99 := (h.2.2.2.2.2.1 k).1
theorem zI.r5 {B : Nat} {σ : zS} (h : zI B σ) (k : Nat) : 0 ≤ σ.2 5 k ∧ σ.2 5 k ≤ 3 := (h.2.2.2.2.2.1 k).2.1
theorem zI.r6 {B : Nat} {σ : zS} (h : zI B σ) (k : Nat) : 0 ≤ σ.2 6 k ∧ σ.2 6 k ≤ B := (h.2.2.2.2.2.1 k).2.2.1
theorem zI.r7 {B : Nat} {σ : zS} (h : zI B σ) (k : Nat) : 0 ≤ σ.2 7 k ∧ σ.2 7 k ≤ 30 := (h.2.2.2.2.2.1 k).2.2.2.1
theorem zI.c4 {B : Nat} {σ : zS} (h : zI B σ) (k : Nat) : σ.2 5 k ≠ 0 → σ.2 4 k = 0 := (h.2.2.2.2.2.1 k).2.2.2.2.1
theorem zI.o7 {B : Nat} {σ : zS} (h : zI B σ) (k : Nat) : σ.2 5 k = 0 → σ.2 7 k < 30 := (h.2.2.2.2.2.1 k).2.2.2.2.2
theorem zI.o4 {B : Nat} {σ : zS} (h : zI B σ) {k : Nat} (hk : k < σ.1 1) : σ.2 5 k = 0 → 1 ≤ σ.2 4 k := h.2.2.2.2.2.2.1 k hk
theorem zI.nw {B : Nat} {σ : zS} (h : zI B σ) {k : Nat} (hk : σ.1 1 ≤ k) : σ.2 5 k = 0 ∧ σ.2 6 k = 0 ∧ σ.2 7 k = 0 := h.2.2.2.2.2.2.2 k hk
theorem inh_bd {B : Nat} {σ : zS} (hI : zI B σ) : 0 ≤ inh σ ∧ inh σ ≤ 6 := by
  have h := zs_bd (f := fun p => if σ.2 1 p = 1 then 1 else 0) (c := 1) (n := σ.1 0) (fun p _ => by (try dsimp only); split <;> omega)
  have hn := hI.n
  unfold inh; omega
theorem bor_bd {B : Nat} {σ : zS} (hI : zI B σ) (p : Int) : 0 ≤ bor σ p ∧ bor σ p ≤ 1980 := by
  have h := zs_bd (f := fun k => if σ.2 5 k = 0 ∧ σ.2 3 k = p then σ.2 4 k else 0) (c := 99) (n := σ.1 1) (fun k _ => by have := hI.r4 k; (try dsimp only); split <;> omega)
  have hn := hI.n
  unfold bor; omega
theorem owe_bd {B : Nat} {σ : zS} (hI : zI B σ) (p : Int) : 0 ≤ owe σ p ∧ owe σ p ≤ 1980 := by
  have h := zs_bd (f := fun k => if σ.2 5 k = 0 ∧ σ.2 2 k = p then σ.2 4 k else 0) (c := 99) (n := σ.1 1) (fun k _ => by have := hI.r4 k; (try dsimp only); split <;> omega)
  have hn := hI.n
  unfold owe; omega
theorem btw_bd {B : Nat} {σ : zS} (hI : zI B σ) (i j : Int) : 0 ≤ btw σ i j ∧ btw σ i j ≤ 1980 := by
  have h := zs_bd (f := fun k => if σ.2 5 k = 0 ∧ σ.2 2 k = i ∧ σ.2 3 k = j then σ.2 4 k else 0) (c := 99) (n := σ.1 1) (fun k _ => by have := hI.r4 k; (try dsimp only); split <;> omega)
  have hn := hI.n
  unfold btw; omega
theorem wit_bd {B : Nat} {σ : zS} (hI : zI B σ) (k : Nat) : 0 ≤ wit σ k ∧ wit σ k ≤ 6 := by
  have h := zs_bd (f := fun p => if σ.2 1 p = 1 ∧ (p : Int) ≠ σ.2 2 k ∧ (p : Int) ≠ σ.2 3 k then 1 else 0) (c := 1) (n := σ.1 0) (fun p _ => by (try dsimp only); split <;> omega)
  have hn := hI.n
  unfold wit; omega
theorem cnt_bd {B : Nat} {σ : zS} (hI : zI B σ) (z : Int) : 0 ≤ cnt σ z ∧ cnt σ z ≤ 20 := by
  have h := zs_bd (f := fun k => if σ.2 5 k = z then 1 else 0) (c := 1) (n := σ.1 1) (fun p _ => by (try dsimp only); split <;> omega)
  have hn := hI.n
  unfold cnt; omega
theorem cnt_bj (σ : zS) (j : Nat) : 0 ≤ zs (fun k => if σ.2 5 k = 0 then 1 else 0) j ∧ zs (fun k => if σ.2 5 k = 0 then 1 else 0) j ≤ j := by
  have h := zs_bd (f := fun k => if σ.2 5 k = 0 then 1 else 0) (c := 1) (n := j) (fun p _ => by (try dsimp only); split <;> omega)
  omega
theorem tot_bj {B : Nat} {σ : zS} (hI : zI B σ) {j : Nat} (hj : j ≤ σ.1 1) : 0 ≤ zs (fun k => if σ.2 5 k = 0 then σ.2 4 k else 0) j ∧ zs (fun k => if σ.2 5 k = 0 then σ.2 4 k else 0) j ≤ 1980 := by
  have h := zs_bd (f := fun k => if σ.2 5 k = 0 then σ.2 4 k else 0) (c := 99) (n := j) (fun k _ => by have := hI.r4 k; (try dsimp only); split <;> omega)
  have hn := hI.n
  omega
theorem wwb_bd (w d : Int) (h : 0 ≤ w ∧ w ≤ 99) : 0 ≤ wwb w d ∧ wwb w d ≤ 99 := by unfold wwb; split <;> omega
theorem itg_bd (n : Nat) {w : Int} (h : 0 ≤ w ∧ w ≤ 99) : 0 ≤ itg n w ∧ itg n w ≤ 99 := by
  induction n with
  | zero => exact h
  | succ n ih => show 0 ≤ gro (itg n w) ∧ gro (itg n w) ≤ 99; unfold gro; omega
theorem itg_step (w b : Int) (j : Nat) (hb : 0 ≤ b) : wwb (itg ((b + j) / 5 - b / 5).toNat w) (b + ((j : Int) + 1)) = itg ((b + ((j + 1 : Nat) : Int)) / 5 - b / 5).toNat w := by
  by_cases h : (b + ((j : Int) + 1)) % 5 = 0
  · rw [show ((b + ((j + 1 : Nat) : Int)) / 5 - b / 5).toNat = ((b + j) / 5 - b / 5).toNat + 1 from by omega, wwb, if_pos h]
    show _ = gro _
    unfold gro; omega
  · rw [show ((b + ((j + 1 : Nat) : Int)) / 5 - b / 5).toNat = ((b + j) / 5 - b / 5).toNat from by omega, wwb, if_neg h]
theorem lat_bd {B : Nat} {σ : zS} (hI : zI B σ) (k : Nat) (d : Int) : 0 ≤ lat σ k d ∧ lat σ k d ≤ 99 := by
  have h := itg_bd ((σ.2 6 k + d) / 5 - σ.2 6 k / 5).toNat (hI.r4 k)
  unfold lat; split <;> omega
theorem unt_bd {B : Nat} {σ : zS} (hI : zI B σ) (k : Nat) : -1 ≤ unt σ k ∧ unt σ k ≤ 30 := by
  have := hI.r7 k
  unfold unt; split <;> omega
theorem lea_bd {B : Nat} {σ : zS} (hI : zI B σ) (k : Nat) : 0 ≤ lea σ k ∧ lea σ k ≤ 24 := by
  have h1 := hI.r4 k
  have h2 := hI.r0 (σ.2 3 k).toNat
  unfold lea; omega
theorem wan_bd (σ : zS) (k : Nat) : -1 ≤ wan σ k ∧ wan σ k ≤ 20 := by
  unfold wan; split
  · split <;> omega
  · omega
theorem bth_bd {B : Nat} {σ : zS} (hI : zI B σ) (p d : Int) : 0 ≤ bth σ p d ∧ bth σ p d ≤ 1980 := by
  have h := zs_bd (f := fun k => if σ.2 3 k = p then lat σ k d else 0) (c := 99) (n := σ.1 1) (fun k _ => by have := lat_bd hI k d; (try dsimp only); split <;> omega)
  have hn := hI.n
  unfold bth; omega
theorem pq_sym (σ : zS) (i j : Nat) : pq σ i j = pq σ j i := by
  unfold pq; split <;> split <;> omega
theorem pai_xn (q : Nat → Nat → Int) : ∀ n : Nat, zs (fun j => zs (fun t => q j (j + 1 + t)) (n - 1 - j)) n = zs (fun k => zs (fun o => q o k) k) n
  | 0 => rfl
  | n + 1 => by
    have ih := pai_xn q n
    rw [zs_s, zs_s, ← ih]
    have h1 : zs (fun j => zs (fun t => q j (j + 1 + t)) (n + 1 - 1 - j)) n = zs (fun j => zs (fun t => q j (j + 1 + t)) (n - 1 - j) + q j n) n := zs_cong fun j hj => by
      rw [show n + 1 - 1 - j = (n - 1 - j) + 1 from by omega, zs_s, show j + 1 + (n - 1 - j) = n from by omega]
    rw [h1, zs_add, show n + 1 - 1 - n = 0 from by omega, zs_0]
    omega
theorem pai_x (σ : zS) : zs (fun j => zs (fun t => pq σ j (j + 1 + t)) (σ.1 1 - 1 - j)) (σ.1 1) = pai σ := by
  rw [pai_xn (pq σ) (σ.1 1), pai]
  exact zs_cong fun k _ => zs_cong fun o _ => pq_sym σ o k
def agn (σ : zS) (i o : Nat) : Int := if σ.2 2 i = σ.2 3 o ∧ σ.2 2 o = σ.2 3 i then 1 else 0
theorem agn_bd (σ : zS) (i o : Nat) : agn σ i o = 0 ∨ agn σ i o = 1 := by unfold agn; split <;> omega
theorem pq_agn (σ : zS) (i o : Nat) : pq σ i o = if σ.2 5 i = 0 ∧ σ.2 5 o = 0 then agn σ i o else 0 := by
  unfold pq agn; split <;> split <;> (try split) <;> omega
theorem agn_ne {B : Nat} {σ : zS} (hI : zI B σ) {i o : Nat} (hi : i < σ.1 1) (h : agn σ i o = 1) : o ≠ i := by
  intro e
  subst e
  have h1 := hI.r23 hi
  unfold agn at h
  split at h <;> omega
def dgc (σ : zS) (d : Int64) : Nat → Int64
  | 0 => d
  | j + 1 => dg (dgc σ d j) (cnt σ j)
