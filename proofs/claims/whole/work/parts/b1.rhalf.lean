/-! TEXT: the reference keeps what it read -/
section RHF
variable {ρ : Nat → Nat → Nat} {cs : Nat × Nat × Nat}
theorem R_halfL {q h : Nat} (hq : ∀ L, am_ks SH L q = (20, 2 * h)) (hh : h ≤ 64) : ∀ (m i : Nat) (μ : Nat → Nat → Int), i + m = h → ∃ μ', (∀ p k, ¬ (p = q ∧ i ≤ k ∧ k < h) → μ' p k = μ p k) ∧ (∀ k, i ≤ k → k < h → μ' q k = μ q (h + k)) ∧ ∀ d, am_E d 174 7 [some (.inr (.inr q)), some (.inl (h : Int)), some (.inl (i : Int))] [] (SH, ρ, μ, cs) = some (none, (SH, ρ, μ', cs)) := by
  intro m
  induction m with
  | zero =>
    intro i μ hi
    refine ⟨μ, fun _ _ _ => rfl, fun k h0 h1 => by omega, fun d => ?_⟩
    have e : (h : Int) ≤ (i : Int) := by omega
    rw [e174_7]; simp (disch := (first | omega | (simp (disch := omega) only [sr_up, wr_up_o]; omega))) only [ks_99, ite_self, Bool.false_eq_true, eq_self, isk_t, i20_t, w20_t, l23_t, b21_t, b22_t, w_t, bif_t, bif_f, bif_d, if_pos, if_neg, if_true, if_false, not_true_eq_false, not_false_eq_true, Option.bind_some, Option.toList_some, Option.toList_none, List.cons_append, List.nil_append, Int.toNat_natCast, Int.reduceToNat, up_eq, up_p, up_k, sN,  e ]
  | succ m ih =>
    intro i μ hi
    have e1 : ((h : Int) + (i : Int)).toNat = h + i := by omega
    obtain ⟨μ', f1, f2, f3⟩ := ih (i + 1) (am_up μ q i (μ q (h + i))) (by omega)
    refine ⟨μ', fun p k hk => ?_, fun k h0 h1 => ?_, fun d => ?_⟩
    · rw [f1 p k (by omega), am_up_no (by omega)]
    · by_cases e : k = i
      · subst e
        rw [f1 _ _ (by omega), up_eq]
      · rw [f2 k (by omega) h1, up_k (by omega)]
    · have e2 : ((i + 1 : Nat) : Int) = (i : Int) + 1 := by omega
      have f3 := f3 d
      rw [e2] at f3
      have e : ¬ (h : Int) ≤ (i : Int) := by omega
      rw [e174_7]; simp (disch := (first | omega | (simp (disch := omega) only [sr_up, wr_up_o]; omega))) only [ks_99, ite_self, Bool.false_eq_true, eq_self, isk_t, i20_t, w20_t, l23_t, b21_t, b22_t, w_t, bif_t, bif_f, bif_d, if_pos, if_neg, if_true, if_false, not_true_eq_false, not_false_eq_true, Option.bind_some, Option.toList_some, Option.toList_none, List.cons_append, List.nil_append, Int.toNat_natCast, Int.reduceToNat, up_eq, up_p, up_k, sN,  hq, e, e1, f3 ]
theorem R_half {q h : Nat} (hq : ∀ L, am_ks SH L q = (20, 2 * h)) (hh : h ≤ 64) (μ : Nat → Nat → Int) : ∃ μ', (∀ p k, ¬ (p = q ∧ k < h) → μ' p k = μ p k) ∧ (∀ k, k < h → μ' q k = μ q (h + k)) ∧ ∀ d, am_E d 174 0 [some (.inr (.inr q)), none, none] [] (SH, ρ, μ, cs) = some (none, (SH, ρ, μ', cs)) := by
  obtain ⟨μ', f1, f2, f3⟩ := R_halfL (ρ := ρ) (cs := cs) hq hh h 0 μ (by omega)
  refine ⟨μ', fun p k hk => f1 p k (by omega), fun k hk => f2 k (by omega) hk, fun d => ?_⟩
  have hl : am_lnk (20, 2 * h) = true := by simp [am_lnk]; omega
  have e1 : Int.tdiv ((2 * h : Nat) : Int) 2 = (h : Int) := by
    rw [Int.tdiv_eq_ediv_of_nonneg (by omega)]; omega
  have f3 : am_E d 174 7 [some (.inr (.inr q)), some (.inl (h : Int)), some (.inl 0)] [] (SH, ρ, μ, cs) = some (none, (SH, ρ, μ', cs)) := f3 d
  have e2 : decide ((2 : Int) ≠ 0) = true := by decide
  rw [e174_0]; simp (disch := (first | omega | (simp (disch := omega) only [sr_up, wr_up_o]; omega))) only [ks_99, ite_self, Bool.false_eq_true, eq_self, isk_t, i20_t, w20_t, l23_t, b21_t, b22_t, w_t, bif_t, bif_f, bif_d, if_pos, if_neg, if_true, if_false, not_true_eq_false, not_false_eq_true, Option.bind_some, Option.toList_some, Option.toList_none, List.cons_append, List.nil_append, Int.toNat_natCast, Int.reduceToNat, up_eq, up_p, up_k, sN,  hq, hl, e1, e2, f3 ]
/-- the first j rows are kept -/
def HS (j : Nat) (μ μ' : Nat → Nat → Int) : Prop := (∀ p k, ¬ (101 ≤ p ∧ p < 101 + j ∧ k < hfR (p - 101)) → μ' p k = μ p k) ∧ ∀ a, a < j → ∀ k, k < hfR a → μ' (101 + a) k = μ (101 + a) (hfR a + k)
theorem hs_0 (μ : Nat → Nat → Int) : HS 0 μ μ := ⟨fun _ _ _ => rfl, fun a ha => by omega⟩
theorem hs_s {j : Nat} {x y : Nat → Nat → Int} (h : HS j x y) (hq : ∀ L, am_ks SH L (101 + j) = (20, 2 * hfR j)) : ∃ z, HS (j + 1) x z ∧ ∀ d, am_E d 174 0 [some (.inr (.inr (101 + j))), none, none] [] (SH, ρ, y, cs) = some (none, (SH, ρ, z, cs)) := by
  have hh : hfR j ≤ 64 := by
    unfold hfR
    repeat' split
    all_goals omega
  obtain ⟨z, f1, f2, f3⟩ := R_half (ρ := ρ) (cs := cs) hq hh y
  refine ⟨z, ⟨fun p k hk => ?_, fun a ha k hk => ?_⟩, f3⟩
  · by_cases e : p = 101 + j
    · subst e
      rw [show 101 + j - 101 = j by omega] at hk
      rw [f1 _ _ (by omega), h.1 _ _ (by omega)]
    · rw [f1 _ _ (by omega), h.1 _ _ (by omega)]
  · by_cases e : a = j
    · subst e
      rw [f2 k hk, h.1 _ _ (by omega)]
    · rw [f1 _ _ (by omega)]
      exact h.2 a (by omega) k hk
end RHF
