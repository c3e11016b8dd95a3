/-! TEXT: the tokens, by bytes; the class's tokens -/
def ltr (z : Int) : Bool := decide (97 ≤ z ∧ z ≤ 122)
def dgt (z : Int) : Bool := decide (48 ≤ z ∧ z ≤ 57)
def blk (z : Int) : Bool := decide (z = 32 ∨ z = 10)
def rnF (P : Int → Bool) (b : Nat → Int) (n : Nat) : Nat → Nat → Nat
  | 0, i => i
  | k + 1, i => if i < n ∧ P (b i) = true then rnF P b n k (i + 1) else i
/-- up to where bytes of a kind go on -/
def rn (P : Int → Bool) (b : Nat → Int) (n i : Nat) : Nat := rnF P b n (n - i) i
section RN
variable {P : Int → Bool} {b : Nat → Int} {n i : Nat}
theorem rn_yes (h : i < n) (hp : P (b i) = true) : rn P b n i = rn P b n (i + 1) := by
  unfold rn
  obtain ⟨k, hk⟩ : ∃ k, n - i = k + 1 := ⟨n - i - 1, by omega⟩
  rw [hk, show n - (i + 1) = k by omega]
  show (if i < n ∧ P (b i) = true then rnF P b n k (i + 1) else i) = _
  rw [if_pos ⟨h, hp⟩]
theorem rn_no (h : ¬ (i < n ∧ P (b i) = true)) : rn P b n i = i := by
  unfold rn
  cases hk : n - i with
  | zero => rfl
  | succ k =>
    show (if i < n ∧ P (b i) = true then rnF P b n k (i + 1) else i) = _
    rw [if_neg h]
theorem rn_all : ∀ (k i : Nat), n - i = k → i ≤ rn P b n i ∧ (i ≤ n → rn P b n i ≤ n) ∧ (∀ j, i ≤ j → j < rn P b n i → P (b j) = true) ∧ (rn P b n i < n → P (b (rn P b n i)) = false) := by
  intro k
  induction k with
  | zero =>
    intro i hk
    rw [rn_no (by omega)]
    exact ⟨Nat.le_refl _, fun h => h, fun j h0 h1 => by omega, fun h => by omega⟩
  | succ k ih =>
    intro i hk
    by_cases h : P (b i) = true
    · rw [rn_yes (by omega) h]
      obtain ⟨a1, a2, a3, a4⟩ := ih (i + 1) (by omega)
      refine ⟨by omega, fun _ => a2 (by omega), fun j h0 h1 => ?_, a4⟩
      rcases Nat.lt_or_ge i j with q | q
      · exact a3 j (by omega) h1
      · rw [show j = i by omega]; exact h
    · rw [rn_no (fun e => h e.2)]
      exact ⟨Nat.le_refl _, fun h => h, fun j h0 h1 => by omega, fun _ => by simpa using h⟩
theorem rn_ge : i ≤ rn P b n i := (rn_all _ i rfl).1
theorem rn_le (h : i ≤ n) : rn P b n i ≤ n := (rn_all _ i rfl).2.1 h
theorem rn_in {j : Nat} (h0 : i ≤ j) (h1 : j < rn P b n i) : P (b j) = true := (rn_all _ i rfl).2.2.1 j h0 h1
theorem rn_end (h : rn P b n i < n) : P (b (rn P b n i)) = false := (rn_all _ i rfl).2.2.2 h
theorem rn_gt (h : i < n) (hp : P (b i) = true) : i < rn P b n i := by
  rw [rn_yes h hp]
  exact rn_ge (i := i + 1)
end RN
/-- a word's letters as numbers, none behind its end -/
def dg (b : Nat → Int) (p e j : Nat) : Int := if p + j < e then b (p + j) - 96 else 0
def cdP (b : Nat → Int) (p e : Nat) : Nat → Int
  | 0 => 0
  | k + 1 => cdP b p e k * 32 + dg b p e k
def wc (b : Nat → Int) (p e : Nat) : Int := cdP b p e 6
def nm (C : Int) (b : Nat → Int) (p : Nat) : Nat → Int
  | 0 => 0
  | k + 1 => if nm C b p k < C then nm C b p k * 10 + (b (p + k) - 48) else nm C b p k
def sgn (c : Int) : Int := if c = 40 then 25 else if c = 41 then 26 else if c = 59 then 27 else if c = 43 then 28 else if c = 45 then 29 else if c = 42 then 30 else if c = 47 then 31 else if c = 60 then 32 else if c = 61 then 34 else if c = 62 then 37 else 38
def wkd (z : Int) : Int := if fnd (fun i => lang.getD i 0) 0 z 23 0 < 0 then 23 else fnd (fun i => lang.getD i 0) 0 z 23 0
/-- a sign, and how long it is -/
def sg2 (b : Nat → Int) (n p : Nat) : Int × Nat := if b p = 60 ∧ p + 1 < n ∧ b (p + 1) = 61 then (33, 2) else if b p = 60 ∧ p + 1 < n ∧ b (p + 1) = 62 then (35, 2) else if b p = 62 ∧ p + 1 < n ∧ b (p + 1) = 61 then (36, 2) else (sgn (b p), 1)
/-- the token from a place on: its kind, its value, where it starts, where it ends -/
def tok (b : Nat → Int) (n a : Nat) : Int × Int × Nat × Nat :=
  if n ≤ rn blk b n a then (39, 0, rn blk b n a, rn blk b n a)
  else if ltr (b (rn blk b n a)) = true then (if 6 < rn ltr b n (rn blk b n a) - rn blk b n a then (38, 0, rn blk b n a, rn ltr b n (rn blk b n a)) else (wkd (wc b (rn blk b n a) (rn ltr b n (rn blk b n a))), wc b (rn blk b n a) (rn ltr b n (rn blk b n a)), rn blk b n a, rn ltr b n (rn blk b n a)))
  else if dgt (b (rn blk b n a)) = true then (24, nm 100000 b (rn blk b n a) (rn dgt b n (rn blk b n a) - rn blk b n a), rn blk b n a, rn dgt b n (rn blk b n a))
  else ((sg2 b n (rn blk b n a)).1, 0, rn blk b n a, rn blk b n a + (sg2 b n (rn blk b n a)).2)
theorem am_up2 {α : Type} {f : Nat → Nat → α} {p k : Nat} {v w : α} : am_up (am_up f p k v) p k w = am_up f p k w := by
  funext q j
  unfold am_up
  by_cases h : q = p ∧ j = k
  · rw [if_pos h, if_pos h]
  · rw [if_neg h, if_neg h, if_neg h]
theorem am_upi {α : Type} {f : Nat → Nat → α} {p k : Nat} {v : α} (h : f p k = v) : am_up f p k v = f := by
  funext q j
  unfold am_up
  by_cases e : q = p ∧ j = k
  · rw [if_pos e, e.1, e.2, h]
  · rw [if_neg e]
theorem cdP_bd {b : Nat → Int} {p e : Nat} (h : ∀ j, p ≤ j → j < e → ltr (b j) = true) : ∀ k : Nat, 0 ≤ cdP b p e k ∧ cdP b p e k < 32 ^ k := by
  intro k
  induction k with
  | zero => exact ⟨Int.le_refl _, by show (0 : Int) < 1; decide⟩
  | succ k ih =>
    have hd : 0 ≤ dg b p e k ∧ dg b p e k < 32 := by
      unfold dg
      by_cases c : p + k < e
      · rw [if_pos c]
        have := h (p + k) (by omega) c
        simp only [ltr, decide_eq_true_eq] at this
        omega
      · rw [if_neg c]; omega
    show 0 ≤ cdP b p e k * 32 + dg b p e k ∧ cdP b p e k * 32 + dg b p e k < 32 ^ (k + 1)
    rw [Int.pow_succ]
    omega
theorem sh5 {x y : Int} (h0 : 0 ≤ x) (h1 : x < 33554432) (y0 : 0 ≤ y) (y1 : y < 32) : am_or (am_shl x 5) y = x * 32 + y := by
  obtain ⟨a, rfl⟩ := Int.eq_ofNat_of_zero_le h0
  obtain ⟨c, rfl⟩ := Int.eq_ofNat_of_zero_le y0
  have e1 : a <<< 5 = a * 32 := Nat.shiftLeft_eq a 5
  have h2 := nb_shl (a := a) (k := 5) (by decide) (by rw [e1]; omega) (by omega)
  have h2 : am_shl (a : Int) 5 = ((a <<< 5 : Nat) : Int) := h2
  rw [h2, nb_or (by rw [e1]; omega) (by omega), Nat.or_comm]
  have e3 : c ||| a <<< 5 = a <<< 5 + c := by
    have := Nat.shiftLeft_add_eq_or_of_lt (b := c) (i := 5) (by omega) a
    rw [Nat.or_comm, ← this]
  rw [e3, e1]
  omega
theorem shw {x : Int} {k : Nat} (h0 : 0 ≤ x) (hk : k ≤ 6) (h1 : x < 32 ^ k) : am_shl x (5 * (6 - (k : Int))) = x * 32 ^ (6 - k) := by
  obtain ⟨a, rfl⟩ := Int.eq_ofNat_of_zero_le h0
  have hp : (32 : Int) ^ k = ((32 ^ k : Nat) : Int) := by simp
  have ha : a < 32 ^ k := by rw [hp] at h1; omega
  have ha6 : a < 32 ^ 6 := Nat.lt_of_lt_of_le ha (Nat.pow_le_pow_right (by decide) hk)
  have e0 : (5 * (6 - (k : Int))) = ((5 * (6 - k) : Nat) : Int) := by omega
  have e1 : a <<< (5 * (6 - k)) = a * 32 ^ (6 - k) := by
    rw [Nat.shiftLeft_eq, Nat.pow_mul]
  have e2 : a * 32 ^ (6 - k) < 32 ^ 6 := by
    have : 32 ^ k * 32 ^ (6 - k) = 32 ^ 6 := by rw [← Nat.pow_add]; congr 1; omega
    rw [← this]
    exact Nat.mul_lt_mul_of_pos_right ha (Nat.pow_pos (by decide))
  rw [e0, nb_shl (by omega) (by rw [e1]; exact Nat.lt_trans e2 (by decide)) (Nat.lt_trans ha6 (by decide)), e1]
  simp
theorem cdP_more {b : Nat → Int} {p e : Nat} : ∀ k : Nat, e ≤ p + k → ∀ j : Nat, cdP b p e (k + j) = cdP b p e k * 32 ^ j := by
  intro k hk j
  induction j with
  | zero => simp
  | succ j ih =>
    show cdP b p e (k + j) * 32 + dg b p e (k + j) = _
    rw [ih]
    unfold dg
    rw [if_neg (by omega), Int.pow_succ, Int.add_zero, Int.mul_assoc]
theorem nm_bd {C : Int} {b : Nat → Int} {p m : Nat} (hC0 : 0 ≤ C) (hC : C ≤ 1000000) (h : ∀ j, p ≤ j → j < p + m → dgt (b j) = true) : ∀ k : Nat, k ≤ m → 0 ≤ nm C b p k ∧ nm C b p k < 10000010 := by
  intro k
  induction k with
  | zero => intro _; exact ⟨Int.le_refl _, by show (0 : Int) < _; omega⟩
  | succ k ih =>
    intro hk
    have i2 := ih (by omega)
    have hd := h (p + k) (by omega) (by omega)
    simp only [dgt, decide_eq_true_eq] at hd
    show 0 ≤ (if nm C b p k < C then nm C b p k * 10 + (b (p + k) - 48) else nm C b p k) ∧ (if nm C b p k < C then nm C b p k * 10 + (b (p + k) - 48) else nm C b p k) < _
    by_cases c : nm C b p k < C
    · rw [if_pos c]; omega
    · rw [if_neg c]; omega
def NV (v v' : Int) : Prop := (v = v' ∧ v < 100000) ∨ (100000 ≤ v ∧ 100000 ≤ v')
theorem nm_nv {b : Nat → Int} {p m : Nat} (h : ∀ j, p ≤ j → j < p + m → dgt (b j) = true) : ∀ k : Nat, k ≤ m → NV (nm 1000000 b p k) (nm 100000 b p k) := by
  intro k
  induction k with
  | zero => intro _; exact Or.inl ⟨rfl, by show (0 : Int) < _; omega⟩
  | succ k ih =>
    intro hk
    have i2 := ih (by omega)
    have b2 := nm_bd (C := 1000000) (by omega) (by omega) h k (by omega)
    have hd := h (p + k) (by omega) (by omega)
    simp only [dgt, decide_eq_true_eq] at hd
    unfold NV at i2 ⊢
    show ((if nm 1000000 b p k < 1000000 then nm 1000000 b p k * 10 + (b (p + k) - 48) else nm 1000000 b p k) = (if nm 100000 b p k < 100000 then nm 100000 b p k * 10 + (b (p + k) - 48) else nm 100000 b p k) ∧ (if nm 1000000 b p k < 1000000 then nm 1000000 b p k * 10 + (b (p + k) - 48) else nm 1000000 b p k) < 100000) ∨ (100000 ≤ (if nm 1000000 b p k < 1000000 then nm 1000000 b p k * 10 + (b (p + k) - 48) else nm 1000000 b p k) ∧ 100000 ≤ (if nm 100000 b p k < 100000 then nm 100000 b p k * 10 + (b (p + k) - 48) else nm 100000 b p k))
    by_cases c : nm 1000000 b p k < 1000000
    · rw [if_pos c]
      by_cases c2 : nm 100000 b p k < 100000
      · rw [if_pos c2]; omega
      · rw [if_neg c2]; omega
    · rw [if_neg c]
      by_cases c2 : nm 100000 b p k < 100000
      · rw [if_pos c2]; omega
      · rw [if_neg c2]; omega
