/-! TEXT: the reference's text, whole -/
section RTW
variable {ρ : Nat → Nat → Nat} {cs : Nat × Nat × Nat} {d : Nat}
theorem R_textG {m : Nat → Nat → Int} {S : MS} {x1 x2 : Int} (hρ : RM ρ) (hS : SR m = S) : ∃ μ', FrW 0 (am_up (am_up (am_up (am_up m 99 58 0) 99 59 (-1)) 99 47 0) 99 48 0) μ' ∧ WR μ' 0 = startW S ∧ am_E (d + 3) 175 321 [some (.inr (.inr 99)), some (.inl x1), some (.inl x2)] [] (SH, ρ, m, cs) = some (some (.inl (m 99 22)), (SH, ρ, μ', cs)) := by
  have hS2 : SR (am_up (am_up (am_up (am_up m 99 58 0) 99 59 (-1)) 99 47 0) 99 48 0) = S := by
    rw [← hS]
    funext a k
    unfold SR
    by_cases c : a < 18
    · rw [if_pos c, if_pos c]
      simp (disch := omega) only [up_p]
    · rw [if_neg c, if_neg c]
  obtain ⟨μ', f1, f2, f3⟩ := R_starts (d := d + 1) (ρ := ρ) (cs := cs) (s := 0) hρ (by decide) (by decide) hS2
  have e22 : μ' 99 22 = m 99 22 := by
    rw [f1 _ _ (by omega) (by omega)]
    simp (disch := omega) only [up_k]
  refine ⟨μ', f1, f2, ?_⟩
  have e0 : (decide ((0 : Int) = 0 ∨ (0 : Int) = 1)) = true := by decide
  simp (disch := (first | omega | (simp (disch := omega) only [sr_up, wr_up_o]; omega))) only [e175_321, e175_326, e175_345, e183_0, e183_5, ks_99, ite_self, Bool.false_eq_true, eq_self, isk_t, i20_t, w20_t, l23_t, b21_t, b22_t, w_t, bif_t, bif_f, bif_d, if_pos, if_neg, if_true, if_false, not_true_eq_false, not_false_eq_true, Option.bind_some, Option.toList_some, Option.toList_none, List.cons_append, List.nil_append, Int.toNat_natCast, Int.reduceToNat, up_eq, up_p, up_k, sN,  e0, f3, e22, Bool.and_true ]
  all_goals rfl
def FQ (μ μ' : Nat → Nat → Int) : Prop := ∀ q k, ¬ ((q = 99 ∧ (k = 0 ∨ k = 2 ∨ (21 ≤ k ∧ k ≤ 33))) ∨ (101 ≤ q ∧ q ≤ 118 ∧ hfR (q - 101) ≤ k)) → μ' q k = μ q k
def FQ2 (μ μ' : Nat → Nat → Int) : Prop := ∀ q k, ¬ ((q = 99 ∧ (k = 0 ∨ k = 2 ∨ (21 ≤ k ∧ k ≤ 33) ∨ k = 36 ∨ k = 47 ∨ k = 48 ∨ k = 58 ∨ k = 59)) ∨ (101 ≤ q ∧ q ≤ 120) ∨ FrT 0 q k) → μ' q k = μ q k
theorem R_text {μ : Nat → Nat → Int} {n : Nat} {b : Nat → Int} (hρ : RM ρ) (hn : (n : Int) ≤ μ 99 2) (hn7 : n ≤ 700) (hb : ∀ i, i < n → μ 100 i = b i % 256 ∧ -128 ≤ b i ∧ b i ≤ 127) : ∃ μ', (μ' 99 0 = 0 ∧ μ' 99 2 = 0) ∧ match pSF b n (n + 1) (zt (SR2 μ)) 0 0 0 with
    | .inl q => FQ μ μ' ∧ μ' 99 30 = q.1 ∧ μ' 99 31 = (q.2 : Int) ∧ am_E (d + 203) 175 0 [some (.inr (.inr 99)), some (.inl (n : Int)), none] [] (SH, ρ, μ, cs) = some (some (.inl (-1)), (SH, ρ, μ', cs))
    | .inr z => FQ2 μ μ' ∧ μ' 99 30 = 0 ∧ μ' 99 31 = -1 ∧ (∀ a k, a < 18 → k < hfR a → μ' (101 + a) k = z.1 a (k : Int)) ∧ WR μ' 0 = startW (SR μ') ∧ (μ' 99 58 = 0 ∧ μ' 99 59 = -1 ∧ μ' 99 47 = 0 ∧ μ' 99 48 = 0) ∧ am_E (d + 203) 175 0 [some (.inr (.inr 99)), some (.inl (n : Int)), none] [] (SH, ρ, μ, cs) = some (some (.inl (z.2.2 : Int)), (SH, ρ, μ', cs)) := by
  obtain ⟨μ1, f1, f2, f3, f4, f5, f6, f7, f8, f9⟩ := R_textB (d := d + 2) (ρ := ρ) (cs := cs) hρ hn hn7 hb
  obtain ⟨μ2, g1, g2, g3⟩ := R_story (d := d + 2) (ρ := ρ) (cs := cs) (x1 := (n : Int)) (x2 := 6) hρ (n + 1) (zt (SR2 μ)) 0 0 0 μ1 (by omega) (by omega) (by omega) f3 f4 (zt_si _) (zt_lb _) f5 f6 (by rw [f7, zt_0 (by decide)]; rfl) f8
  have g2 : am_E (d + 203) 175 148 [some (.inr (.inr 99)), some (.inl (n : Int)), some (.inl 6)] [] (SH, ρ, μ1, cs) = am_E (d + 203) 175 148 [some (.inr (.inr 99)), some (.inl (n : Int)), some (.inl 6)] [] (SH, ρ, μ2, cs) := g2
  have l2 : ∀ k, k = 0 ∨ k = 2 → μ2 99 k = 0 := fun k hk => by
    rw [g1 _ _ (by omega)]
    rcases hk with rfl | rfl
    · exact f2.1
    · exact f2.2
  cases hp : pSF b n (n + 1) (zt (SR2 μ)) 0 0 0 with
  | inl q =>
    rw [hp] at g3
    have e := R_textF (d := d + 202) (ρ := ρ) (cs := cs) (x1 := (n : Int)) (x2 := 6) hρ g3
    refine ⟨am_up (am_up μ2 99 30 q.1) 99 31 q.2, ⟨by rw [up_k (by omega), up_k (by omega)]; exact l2 0 (by omega), by rw [up_k (by omega), up_k (by omega)]; exact l2 2 (by omega)⟩, fun p k hk => ?_, by rw [up_k (by omega), up_eq], up_eq, f9.trans (g2.trans e)⟩
    rw [am_up_no (by omega), am_up_no (by omega), g1 p k (by omega), f1 p k (by omega)]
  | inr z =>
    rw [hp] at g3
    obtain ⟨k1, k2, k3, k4, k5⟩ := g3
    obtain ⟨μ3, i1, i2⟩ := R_textE (d := d + 202) (ρ := ρ) (cs := cs) (x1 := (n : Int)) (x2 := 6) hρ k2 k3 k5
    obtain ⟨μ4, j1, j2, j3⟩ := R_textG (d := d + 200) (ρ := ρ) (cs := cs) (x1 := (n : Int)) (x2 := 6) hρ (rfl : SR μ3 = SR μ3)
    have hc : ∀ q k, q = 99 → ¬ (k = 30 ∨ k = 31) → μ3 q k = μ2 q k := fun q k hq hk => by
      rw [i1.1 _ _ (by omega), am_up_no (by omega), am_up_no (by omega)]
    have h22 : μ3 99 22 = (z.2.2 : Int) := by rw [hc _ _ rfl (by omega)]; exact k4
    rw [h22] at j3
    have hs : SR μ4 = SR μ3 := by
      rw [frw_SR j1]
      funext a k
      unfold SR
      by_cases c : a < 18
      · rw [if_pos c, if_pos c]
        simp (disch := omega) only [up_p]
      · rw [if_neg c, if_neg c]
    refine ⟨μ4, ⟨?_, ?_⟩, fun q k hk => ?_, ?_, ?_, fun a k ha hk => ?_, by rw [hs]; exact j2, ⟨?_, ?_, ?_, ?_⟩, f9.trans (g2.trans (i2.trans j3))⟩
    · rw [j1 _ _ (by omega) (by omega)]
      simp (disch := omega) only [up_k]
      rw [hc _ _ rfl (by omega)]; exact l2 0 (by omega)
    · rw [j1 _ _ (by omega) (by omega)]
      simp (disch := omega) only [up_k]
      rw [hc _ _ rfl (by omega)]; exact l2 2 (by omega)
    · rw [j1 _ _ (by omega) (by omega), am_up_no (by omega), am_up_no (by omega), am_up_no (by omega), am_up_no (by omega), i1.1 _ _ (by omega), am_up_no (by omega), am_up_no (by omega), g1 _ _ (by omega), f1 _ _ (by omega)]
    · rw [j1 _ _ (by omega) (by omega)]
      simp (disch := omega) only [up_k]
      rw [i1.1 _ _ (by omega), up_k (by omega), up_eq]
    · rw [j1 _ _ (by omega) (by omega)]
      simp (disch := omega) only [up_k]
      rw [i1.1 _ _ (by omega), up_eq]
    · rw [j1 _ _ (by omega) (by omega)]
      simp (disch := omega) only [up_p]
      rw [i1.2 a ha k hk, up_p (by omega), up_p (by omega), ← k1]
      unfold SR2
      rw [if_pos ha, Int.toNat_natCast]
    · rw [j1 _ _ (by omega) (by omega)]
      simp (disch := omega) only [up_k, up_eq]
    · rw [j1 _ _ (by omega) (by omega)]
      simp (disch := omega) only [up_k, up_eq]
    · rw [j1 _ _ (by omega) (by omega)]
      simp (disch := omega) only [up_k, up_eq]
    · rw [j1 _ _ (by omega) (by omega)]
      simp (disch := omega) only [up_k, up_eq]
end RTW
