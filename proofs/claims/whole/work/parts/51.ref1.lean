/-! THE REFERENCE, its small methods -/
section REF
variable {ρ : Nat → Nat → Nat} {μ : Nat → Nat → Int} {cs : Nat × Nat × Nat} {d : Nat}
theorem M_isMan (hρ : RM ρ) (p : Int) : am_E d 185 0 [some (.inr (.inr 99)), some (.inl p)] [] (SH, ρ, μ, cs) = some (some (.inl (if 0 ≤ p ∧ p < μ 101 0 then 1 else 0)), (SH, ρ, μ, cs)) := by
  rw [e185_0, rm_number hρ, ks_99, ks_101, isk_t, i20_t (by decide) (by decide)]
  simp only [bif_t, bif_d]
  by_cases h1 : p < 0
  · rw [if_pos h1, if_neg (by omega)]
  · rw [if_neg h1]
    by_cases h2 : μ 101 0 ≤ p
    · rw [if_pos h2, if_neg (by omega)]
    · rw [if_neg h2, if_pos (by omega)]
/-- bits: how many of the first ten are set -/
def bitsN (z : Int) : Nat → Int
  | 0 => 0
  | n + 1 => bitsN z n + am_and (am_shr z n) 1
end REF
