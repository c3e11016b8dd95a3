/-! THE REFERENCE: slots, names, bits -/
section REF
variable {ρ : Nat → Nat → Nat} {μ : Nat → Nat → Int} {cs : Nat × Nat × Nat} {d : Nat} {sh : List (Nat × Nat)}
theorem M_isThing (hρ : RM ρ) (p : Int) : am_E d 186 0 [some (.inr (.inr 99)), some (.inl p)] [] (SH, ρ, μ, cs) = some (some (.inl (if 0 ≤ p ∧ p < μ 101 1 then 1 else 0)), (SH, ρ, μ, cs)) := by
  rw [e186_0, rm_number hρ, ks_99, ks_101, isk_t, i20_t (by decide) (by decide)]
  simp only [bif_t, bif_d]
  by_cases h1 : p < 0
  · rw [if_pos h1, if_neg (by omega)]
  · rw [if_neg h1]
    by_cases h2 : μ 101 1 ≤ p
    · rw [if_pos h2, if_neg (by omega)]
    · rw [if_neg h2, if_pos (by omega)]
/-- the place of a town's person and thing -/
def sl (s p t : Nat) : Nat := 42 * s + 6 * p + t
theorem sl_lt {s p t : Nat} (hs : s < 23) (hp : p < 7) (ht : t < 6) : sl s p t < 966 := by unfold sl; omega
theorem M_slot {s p t : Nat} (hs : s < 23) (hp : p < 7) (ht : t < 6) : am_E d 187 0 [some (.inl s), some (.inl p), some (.inl t)] [] (sh, ρ, μ, cs) = some (some (.inl (sl s p t : Int)), (sh, ρ, μ, cs)) := by
  rw [e187_0, w_t (z := 42 * (s : Int)) (by omega) (by omega), w_t (z := 6 * (p : Int)) (by omega) (by omega), w_t (z := 42 * (s : Int) + 6 * (p : Int)) (by omega) (by omega), w_t (by omega) (by omega)]
  unfold sl
  congr 4
theorem M_doesHave (hρ : RM ρ) {s p t : Nat} (hs : s < 23) (hp : p < 7) (ht : t < 6) : am_E (d + 1) 188 0 [some (.inr (.inr 99)), some (.inl s), some (.inl p), some (.inl t)] [] (SH, ρ, μ, cs) = some (some (.inl (if μ 125 (sl s p t) = -1 then 0 else 1)), (SH, ρ, μ, cs)) := by
  have hb := sl_lt hs hp ht
  rw [e188_0, ks_99, isk_t, bif_t, M_slot hs hp ht, rm_hatsOf hρ]
  show am_E (d + 1) 188 10 _ [.inl (sl s p t : Int), .inr (.inr 125)] (SH, ρ, μ, cs) = _
  rw [e188_10, ks_125, i20_t (by omega) (by omega), bif_t, bif_d, Int.toNat_natCast]
  by_cases h1 : μ 125 (sl s p t) = -1
  · rw [if_pos h1, if_pos h1]
  · rw [if_neg h1, if_neg h1]
theorem M_isPrinted (hρ : RM ρ) {s p t : Nat} (hs : s < 23) (hp : p < 7) (ht : t < 6) : am_E (d + 1) 189 0 [some (.inr (.inr 99)), some (.inl s), some (.inl p), some (.inl t)] [] (SH, ρ, μ, cs) = some (some (.inl (if μ 128 (sl s p t) = -2 then 0 else 1)), (SH, ρ, μ, cs)) := by
  have hb := sl_lt hs hp ht
  rw [e189_0, ks_99, isk_t, bif_t, M_slot hs hp ht, rm_printedHats hρ]
  show am_E (d + 1) 189 10 _ [.inl (sl s p t : Int), .inr (.inr 128)] (SH, ρ, μ, cs) = _
  rw [e189_10, ks_128, i20_t (by omega) (by omega), bif_t, bif_d, Int.toNat_natCast]
  by_cases h1 : μ 128 (sl s p t) = -2
  · rw [if_pos h1, if_pos h1]
  · rw [if_neg h1, if_neg h1]
/-- where a name stands in a row, from a place on -/
def fnd (f : Nat → Int) (b : Nat) (z : Int) : Nat → Nat → Int
  | 0, _ => -1
  | n + 1, k => if f (b + k) = z then (k : Int) else fnd f b z n (k + 1)
theorem M_found_loop {q len b many : Nat} {z : Int} (hk : am_ks sh cs.2.2 q = (20, len)) (hb : b + many ≤ len) (hl : len < 2147483000) : ∀ (n k : Nat), k + n = many → am_E d 154 3 [some (.inr (.inr q)), some (.inl b), some (.inl many), some (.inl z), some (.inl k)] [] (sh, ρ, μ, cs) = some (some (.inl (fnd (μ q) b z n k)), (sh, ρ, μ, cs)) := by
  intro n
  induction n with
  | zero =>
    intro k hkn
    rw [e154_3, bif_d, if_pos (by omega)]
    rfl
  | succ n ih =>
    intro k hkn
    rw [e154_3, bif_d, if_neg (by omega), w_t (z := (b : Int) + (k : Int)) (by omega) (by omega), hk, i20_t (by omega) (by omega), bif_t, bif_d, w_t (z := (k : Int) + 1) (by omega) (by omega)]
    have e1 : ((b : Int) + (k : Int)).toNat = b + k := by omega
    rw [e1]
    unfold fnd
    by_cases h1 : μ q (b + k) = z
    · rw [if_neg (fun g => g h1), if_pos h1]
    · rw [if_pos h1, if_neg h1]
      exact ih (k + 1) (by omega)
theorem M_found {q len b many : Nat} {z : Int} (hk : am_ks sh cs.2.2 q = (20, len)) (hb : b + many ≤ len) (hl : len < 2147483000) : am_E d 154 0 [some (.inr (.inr q)), some (.inl b), some (.inl many), some (.inl z), none] [] (sh, ρ, μ, cs) = some (some (.inl (fnd (μ q) b z many 0)), (sh, ρ, μ, cs)) := by
  rw [e154_0]
  exact M_found_loop hk hb hl many 0 (by omega)
/-- how many of the first ten bits are set -/
def pop10 (a : Nat) : Nat → Int
  | 0 => 0
  | n + 1 => pop10 a n + (if a.testBit n then 1 else 0)
theorem pop10_le (a n : Nat) : 0 ≤ pop10 a n ∧ pop10 a n ≤ n := by
  induction n with
  | zero => exact ⟨Int.le_refl _, Int.le_refl _⟩
  | succ n ih =>
    unfold pop10
    split <;> omega
theorem M_bitsOf_loop {a : Nat} (ha : a < 2147483648) : ∀ (n k : Nat), k + n = 10 → am_E d 192 4 [some (.inl a), some (.inl (pop10 a k)), some (.inl k)] [] (sh, ρ, μ, cs) = some (some (.inl (pop10 a 10)), (sh, ρ, μ, cs)) := by
  intro n
  induction n with
  | zero =>
    intro k hk
    have : k = 10 := by omega
    subst this
    rw [e192_4, bif_d, if_pos (by omega)]
  | succ n ih =>
    intro k hk
    have hp := pop10_le a k
    have hp2 := pop10_le a (k + 1)
    rw [e192_4, bif_d, if_neg (by omega), nb_bit ha (by omega), w_t (z := (k : Int) + 1) (by omega) (by omega)]
    have e1 : pop10 a k + (if a.testBit k then 1 else 0) = pop10 a (k + 1) := rfl
    rw [e1, w_t (by omega) (by omega)]
    exact ih (k + 1) (by omega)
theorem M_bitsOf {a : Nat} (ha : a < 2147483648) : am_E d 192 0 [some (.inl a), none, none] [] (sh, ρ, μ, cs) = some (some (.inl (pop10 a 10)), (sh, ρ, μ, cs)) := by
  rw [e192_0]
  exact M_bitsOf_loop ha 10 0 rfl
end REF
