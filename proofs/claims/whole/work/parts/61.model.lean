/-! THE MODEL: what a day does to a town, by the text's rows S and a course C -/
abbrev MC : Type := (Int → Int) × Bool × Nat × (Int → Bool) × (Int → Bool) × (Int → Bool)
/-- how many below n -/
def cnt (f : Int → Bool) : Nat → Int
  | 0 => 0
  | n + 1 => cnt f n + (if f (n : Int) then 1 else 0)
theorem cnt_le (f : Int → Bool) (n : Nat) : 0 ≤ cnt f n ∧ cnt f n ≤ n := by
  induction n with
  | zero => exact ⟨Int.le_refl _, Int.le_refl _⟩
  | succ n ih =>
    unfold cnt
    split <;> omega
theorem cnt_congr {f g : Int → Bool} {n : Nat} (h : ∀ k : Int, 0 ≤ k → k < n → f k = g k) : cnt f n = cnt g n := by
  induction n with
  | zero => rfl
  | succ n ih =>
    unfold cnt
    rw [ih (fun k h0 h1 => h k h0 (by omega)), h n (by omega) (by omega)]
theorem cnt_more {f : Int → Bool} {n : Nat} (m : Nat) (h : ∀ k : Int, (n : Int) ≤ k → f k = false) : cnt f (n + m) = cnt f n := by
  induction m with
  | zero => rfl
  | succ m ih =>
    show cnt f (n + m) + (if f ((n + m : Nat) : Int) then 1 else 0) = cnt f n
    rw [ih, h _ (by omega)]
    simp
theorem popN_cnt (a n : Nat) : popN a n = cnt (fun k => a.testBit k.toNat) n := by
  induction n with
  | zero => rfl
  | succ n ih =>
    unfold popN cnt
    rw [ih, Int.toNat_natCast]
theorem popN_bset {f : Int → Bool} {n m : Nat} (h : n ≤ m) : popN (bset f n) m = cnt f n := by
  rw [popN_cnt]
  obtain ⟨j, rfl⟩ : ∃ j, m = n + j := ⟨m - n, by omega⟩
  rw [cnt_more j]
  · refine cnt_congr (fun k h0 h1 => ?_)
    rw [bset_bit]
    have e : ((k.toNat : Nat) : Int) = k := Int.toNat_of_nonneg h0
    rw [e]
    simp
    omega
  · intro k hk
    rw [bset_bit]
    simp
    omega
theorem bset_congr {f g : Int → Bool} {n : Nat} (h : ∀ k : Int, 0 ≤ k → k < n → f k = g k) : bset f n = bset g n := by
  induction n with
  | zero => rfl
  | succ n ih =>
    unfold bset
    rw [ih (fun k h0 h1 => h k h0 (by omega)), h n (by omega) (by omega)]
/-- a chain, from a person on -/
def chW (W : MW) (t : Int) : Nat → Nat → Int → Nat
  | 0, set, _ => set
  | n + 1, set, p => if set.testBit p.toNat then set else if W 5 p t = -1 ∨ W 7 p t = -2 then set ||| 2 ^ p.toNat else chW W t n (set ||| 2 ^ p.toNat) (W 7 p t)
def chain (W : MW) (p t : Int) : Nat := chW W t 8 0 p
def LG : Int := 1000000000000
/-- what a sign that joins two comes to, before its bounds -/
def op2 (s x y : Int) : Option Int :=
  if s = 43 then some (x + y) else if s = 45 then some (x - y)
  else if s = 42 then (if x ≠ 0 ∧ Int.tdiv LG (Int.natAbs x) < (Int.natAbs y : Int) then none else some (x * y))
  else if s = 47 then (if y = 0 then none else some (Int.tdiv x y))
  else if s = 60 then some (if x < y then 1 else 0) else if s = 62 then some (if x > y then 1 else 0) else if s = 61 then some (if x = y then 1 else 0)
  else if s = 256 then some (if x ≤ y then 1 else 0) else if s = 258 then some (if x ≥ y then 1 else 0) else if s = 257 then some (if x ≠ y then 1 else 0)
  else if s = 261 then some (if x ≠ 0 ∧ y ≠ 0 then 1 else 0) else some (if x ≠ 0 ∨ y ≠ 0 then 1 else 0)
def opB (v : Option Int) : Option Int := v.bind (fun z => if z ≤ LG ∧ -LG ≤ z then some z else none)
def opK (s : Int) (st : List Int) : Option (List Int) := match st with
  | [] => none
  | y :: r => if s = 260 then some ((if y = 0 then 1 else 0) :: r) else match r with
    | [] => none
    | x :: r => (opB (op2 s x y)).map (fun v => v :: r)
def evK (S : MS) (f : Int → Int) : Nat → Int → List Int → Option (List Int)
  | 0, _, st => some st
  | n + 1, k, st => if S 16 k = 2 then (opK (S 17 k) st).bind (fun st => evK S f n (k + 1) st) else evK S f n (k + 1) ((if S 16 k = 0 then S 17 k else f (S 17 k)) :: st)
def lawV (S : MS) (f : Int → Int) (r : Int) : Option Int := if S 14 r < S 15 r then (evK S f (S 15 r - S 14 r).toNat (S 14 r) []).bind (fun l => l.head?) else none
/-- a row of knots that comes to one value -/
def wfK (S : MS) : Nat → Int → Nat → Prop
  | 0, _, n => n = 1
  | m + 1, k, n => (S 16 k = 2 ∧ S 17 k = 260 ∧ 1 ≤ n ∧ wfK S m (k + 1) n) ∨ (S 16 k = 2 ∧ S 17 k ≠ 260 ∧ 2 ≤ n ∧ wfK S m (k + 1) (n - 1)) ∨ (((S 16 k = 0 ∧ 0 ≤ S 17 k ∧ S 17 k ≤ 9999) ∨ (S 16 k = 1 ∧ 0 ≤ S 17 k ∧ S 17 k < 7)) ∧ wfK S m (k + 1) (n + 1))
def men (S : MS) : Nat := (S 0 0).toNat
def manyF (S : MS) (W : MW) (t : Int) : Int := cnt (fun p => decide (W 5 p t ≠ -1)) (men S)
def toldF (S : MS) (W : MW) (t : Int) : Int := cnt (fun p => decide (W 8 p t ≠ -2)) (men S)
def factF (S : MS) (C : MC) (W : MW) (p t ap : Int) : Int → Int := fun i => if i = 0 then W 5 p t else if i = 1 then C.1 p else if i = 2 then W 0 0 0 - W 6 p t else if i = 3 then ap else if i = 4 then manyF S W t else if i = 5 then toldF S W t else W 0 0 0
def fitB (S : MS) (C : MC) (W : MW) (p t hats : Int) (ch : Nat) : Bool :=
  if chain W p t &&& ch ≠ 0 then false else if C.2.1 = false then true
  else match lawV S (factF S C W p t (Int.natAbs (W 5 p t - hats))) 1 with
    | none => decide (S 0 5 ≤ (Int.natAbs (W 5 p t - hats) : Int) ∧ (Int.natAbs (W 5 p t - hats) : Int) ≤ S 0 6)
    | some v => decide (v ≠ 0)
def ffit (S : MS) (C : MC) (W : MW) (p t : Int) : Nat → Int → Int
  | 0, _ => -1
  | n + 1, q => if W 8 q t ≠ -2 ∧ fitB S C W p t (W 8 q t) (W 9 q t).toNat = true then q else ffit S C W p t n (q + 1)
def chgF (S : MS) (C : MC) (W : MW) (p t : Int) : Int := match lawV S (factF S C W p t 0) 0 with
  | none => Int.tmod (W 5 p t + C.1 p) 100
  | some v => max 0 (min 99 v)
def hearW (S : MS) (C : MC) (W : MW) (man frm t : Int) : MW := wp (wp (wp W 5 man t (chgF S C W frm t)) 6 man t (W 0 0 0)) 7 man t frm
def fitOf (S : MS) (C : MC) (W : MW) (p t : Int) : Int := if W 4 0 t ≠ -2 then -1 else ffit S C W p t (men S) 0
def prtF (S : MS) (C : MC) (W : MW) (p t : Int) : Int := match lawV S (factF S C W p t (Int.natAbs (W 5 p t - W 8 (fitOf S C W p t) t))) 2 with
  | none => 1
  | some v => max 0 (min 999 v)
def newsW (S : MS) (C : MC) (W : MW) (p t : Int) : MW := if fitOf S C W p t = -1 then W else wp (wp W 4 0 t (W 0 0 0)) 2 0 0 (min 99999 (W 2 0 0 + prtF S C W p t))
def tellW (S : MS) (C : MC) (W : MW) (p t : Int) : MW := wp (wp (newsW S C W p t) 9 p t (chain W p t)) 8 p t (W 5 p t)
def nextN (z : Int) : Int := (z * 1103515245 + 12345) % 2147483648
def wayB (S : MS) (C : MC) (w : Int) (W : MW) (t : Int) : Bool := decide (C.2.2.2.1 (S 8 w) = false ∧ C.2.2.2.2.2 t = true ∧ W 5 (S 8 w) t ≠ -1 ∧ S 10 w ≤ W 0 0 0 - W 6 (S 8 w) t ∧ W 5 (S 9 w) t = -1)
def wayT (S : MS) (C : MC) (w : Int) (W : MW) (t : Int) : MW := if wayB S C w W t = false then W
  else if C.2.2.1 = 1 then hearW S C W (S 9 w) (S 8 w) t
  else if C.2.2.1 = 2 then W
  else if Int.tmod (nextN (W 1 0 0) / 65536) 100 < S 0 7 then hearW S C (wp W 1 0 0 (nextN (W 1 0 0))) (S 9 w) (S 8 w) t
  else wp W 1 0 0 (nextN (W 1 0 0))
def wayL (S : MS) (C : MC) (w : Int) : Nat → Int → MW → MW
  | 0, _, W => W
  | n + 1, t, W => wayL S C w n (t + 1) (wayT S C w W t)
def wayA (S : MS) (C : MC) : Nat → Int → MW → MW
  | 0, _, W => W
  | n + 1, w, W => wayA S C n (w + 1) (wayL S C w (S 0 1).toNat 0 W)
def telT (S : MS) (C : MC) (l : Int) (W : MW) : MW := if S 13 l = W 0 0 0 ∧ C.2.2.2.2.1 (S 11 l) = false ∧ C.2.2.2.2.2 (S 12 l) = true then (if W 5 (S 11 l) (S 12 l) = -1 ∨ W 8 (S 11 l) (S 12 l) ≠ -2 then wp W 3 0 0 (W 3 0 0 + 1) else tellW S C W (S 11 l) (S 12 l)) else W
def telA (S : MS) (C : MC) : Nat → Int → MW → MW
  | 0, _, W => W
  | n + 1, l, W => telA S C n (l + 1) (telT S C l W)
def seeB (S : MS) (p t : Int) : Nat → Int → Bool
  | 0, _ => false
  | n + 1, k => decide (S 6 k = p ∧ S 7 k = t) || seeB S p t n (k + 1)
abbrev seeC (S : MS) (C : MC) (W : MW) (p t : Int) : Prop := 0 ≤ p ∧ p < 7 ∧ 0 ≤ t ∧ t < S 0 1 ∧ C.2.2.2.2.2 t = true ∧ S 4 t = W 0 0 0 ∧ seeB S p t (S 0 2).toNat 0 = true ∧ W 5 p t = -1
def gain (W : MW) (p t h fr : Int) : MW := wp (wp (wp W 5 p t h) 6 p t (W 0 0 0)) 7 p t fr
def seeW (S : MS) (C : MC) (W : MW) : MW := fun a p t => if seeC S C W p t then gain W p t (S 5 t) (-2) a p t else W a p t
def dayW (S : MS) (C : MC) (W : MW) : MW := wp (telA S C (S 0 4).toNat 0 (wayA S C (S 0 3).toNat 0 (seeW S C W))) 0 0 0 (W 0 0 0 + 1)
/-- the text's bounds -/
def SI (S : MS) : Prop := (0 ≤ S 0 0 ∧ S 0 0 ≤ 7) ∧ (0 ≤ S 0 1 ∧ S 0 1 ≤ 6) ∧ (0 ≤ S 0 2 ∧ S 0 2 ≤ 10) ∧ (0 ≤ S 0 3 ∧ S 0 3 ≤ 12) ∧ (0 ≤ S 0 4 ∧ S 0 4 ≤ 12) ∧ (0 ≤ S 0 5 ∧ S 0 5 ≤ 99) ∧ (0 ≤ S 0 6 ∧ S 0 6 ≤ 99) ∧ (0 ≤ S 0 7 ∧ S 0 7 ≤ 100) ∧ (0 ≤ S 0 8 ∧ S 0 8 ≤ 99999) ∧ (0 ≤ S 0 9 ∧ S 0 9 ≤ 64)
  ∧ (∀ k, 0 ≤ k → k < S 0 0 → 0 ≤ S 2 k ∧ S 2 k ≤ 9)
  ∧ (∀ k, 0 ≤ k → k < S 0 1 → (0 ≤ S 4 k ∧ S 4 k ≤ 99) ∧ 0 ≤ S 5 k ∧ S 5 k ≤ 99)
  ∧ (∀ k, 0 ≤ k → k < S 0 2 → (0 ≤ S 6 k ∧ S 6 k < S 0 0) ∧ 0 ≤ S 7 k ∧ S 7 k < S 0 1)
  ∧ (∀ k, 0 ≤ k → k < S 0 3 → (0 ≤ S 8 k ∧ S 8 k < S 0 0) ∧ (0 ≤ S 9 k ∧ S 9 k < S 0 0) ∧ S 8 k ≠ S 9 k ∧ 1 ≤ S 10 k ∧ S 10 k ≤ 9)
  ∧ (∀ k, 0 ≤ k → k < S 0 4 → (0 ≤ S 11 k ∧ S 11 k < S 0 0) ∧ (0 ≤ S 12 k ∧ S 12 k < S 0 1) ∧ 0 ≤ S 13 k ∧ S 13 k ≤ 99)
  ∧ (∀ r, 0 ≤ r → r < 3 → 0 ≤ S 14 r ∧ S 14 r ≤ S 15 r ∧ S 15 r ≤ 64 ∧ (S 14 r < S 15 r → wfK S (S 15 r - S 14 r).toNat (S 14 r) 0))
/-- a town's bounds, at most D days old -/
def WI (S : MS) (D : Int) (W : MW) : Prop := (0 ≤ W 0 0 0 ∧ W 0 0 0 ≤ D) ∧ (0 ≤ W 1 0 0 ∧ W 1 0 0 < 2147483648) ∧ (0 ≤ W 2 0 0 ∧ W 2 0 0 ≤ 99999) ∧ (0 ≤ W 3 0 0 ∧ W 3 0 0 ≤ 12 * D)
  ∧ (∀ t, 0 ≤ t → t < 6 → (W 4 0 t = -2 ∨ 0 ≤ W 4 0 t) ∧ W 4 0 t ≤ D ∧ (S 0 1 ≤ t → W 4 0 t = -2))
  ∧ (∀ p t, 0 ≤ p → p < 7 → 0 ≤ t → t < 6 → (-1 ≤ W 5 p t ∧ W 5 p t ≤ 99) ∧ (0 ≤ W 6 p t ∧ W 6 p t ≤ D) ∧ (W 7 p t = -2 ∨ 0 ≤ W 7 p t ∧ W 7 p t < 7) ∧ ((W 8 p t = -2 ∨ 0 ≤ W 8 p t) ∧ W 8 p t ≤ 99) ∧ (0 ≤ W 9 p t ∧ W 9 p t < 128) ∧ (S 0 0 ≤ p ∨ S 0 1 ≤ t → W 5 p t = -1 ∧ W 8 p t = -2))
