/-! THE REFERENCE: a town begins, is copied; days go by aside -/
theorem wr_ext {μ μ' : Nat → Nat → Int} {s s' : Int} (h0 : 0 ≤ s) (h0' : 0 ≤ s') (h1 : ∀ a, a < 4 → μ' (121 + a) s.toNat = μ (121 + a) s'.toNat) (h2 : ∀ t : Nat, t < 6 → μ' 130 ((6 * s).toNat + t) = μ 130 ((6 * s').toNat + t)) (h3 : ∀ q, 125 ≤ q → q ≤ 129 → ∀ j, j < 42 → μ' q ((42 * s).toNat + j) = μ q ((42 * s').toNat + j)) : WR μ' s = WR μ s' := by
  funext a p t
  unfold WR
  by_cases q : okI a p t
  · rw [if_pos q, if_pos q]
    by_cases q1 : a < 4
    · rw [if_pos q1, if_pos q1]; exact h1 a q1
    · rw [if_neg q1, if_neg q1]
      by_cases q2 : a = 4
      · rw [if_pos q2, if_pos q2]
        have := h2 t.toNat (by omega)
        rw [show sJ s t = (6 * s).toNat + t.toNat by unfold sJ; omega, show sJ s' t = (6 * s').toNat + t.toNat by unfold sJ; omega]
        exact this
      · rw [if_neg q2, if_neg q2]
        have := h3 (120 + a) (by omega) (by omega) (6 * p + t).toNat (by omega)
        rw [show sI s p t = (42 * s).toNat + (6 * p + t).toNat by unfold sI; omega, show sI s' p t = (42 * s').toNat + (6 * p + t).toNat by unfold sI; omega]
        exact this
  · rw [if_neg q, if_neg q]
/-- the town at its beginning -/
def startW (S : MS) : MW := fun a p t => if okI a p t then (if a = 1 then S 0 8 else if a = 4 ∨ a = 7 ∨ a = 8 then -2 else if a = 5 then -1 else 0) else 0
theorem wr_start {μ : Nat → Nat → Int} {s : Int} {S : MS} (h0 : 0 ≤ s) (h1 : μ 121 s.toNat = 0) (h2 : μ 122 s.toNat = S 0 8) (h3 : μ 123 s.toNat = 0) (h4 : μ 124 s.toNat = 0) (h5 : ∀ t : Nat, t < 6 → μ 130 ((6 * s).toNat + t) = -2) (h6 : ∀ j : Nat, j < 42 → μ 125 ((42 * s).toNat + j) = -1 ∧ μ 126 ((42 * s).toNat + j) = 0 ∧ μ 127 ((42 * s).toNat + j) = -2 ∧ μ 128 ((42 * s).toNat + j) = -2 ∧ μ 129 ((42 * s).toNat + j) = 0) : WR μ s = startW S := by
  funext a p t
  unfold WR startW
  by_cases q : okI a p t
  · rw [if_pos q, if_pos q]
    by_cases q1 : a < 4
    · rw [if_pos q1]
      have : a = 0 ∨ a = 1 ∨ a = 2 ∨ a = 3 := by omega
      rcases this with rfl | rfl | rfl | rfl
      · exact h1
      · exact h2
      · exact h3
      · exact h4
    · rw [if_neg q1, if_neg (show ¬ a = 1 by omega)]
      by_cases q2 : a = 4
      · subst q2
        rw [if_pos rfl, if_pos (Or.inl rfl), show sJ s t = (6 * s).toNat + t.toNat by unfold sJ; omega]
        exact h5 t.toNat (by omega)
      · rw [if_neg q2]
        have := h6 (6 * p + t).toNat (by omega)
        rw [show (42 * s).toNat + (6 * p + t).toNat = sI s p t by unfold sI; omega] at this
        have h : a = 5 ∨ a = 6 ∨ a = 7 ∨ a = 8 ∨ a = 9 := by omega
        rcases h with rfl | rfl | rfl | rfl | rfl
        · exact this.1
        · exact this.2.1
        · exact this.2.2.1
        · exact this.2.2.2.1
        · exact this.2.2.2.2
  · rw [if_neg q, if_neg q]
theorem wi_start {S : MS} (hS : SI S) : WI S 0 (startW S) := by
  have b := hS.2.2.2.2.2.2.2.2.1
  refine ⟨⟨Int.le_refl _, Int.le_refl _⟩, ?_, ⟨Int.le_refl _, by show (0 : Int) ≤ 99999; decide⟩, ⟨Int.le_refl _, by show (0 : Int) ≤ 12 * 0; decide⟩, fun t h0 h1 => ?_, fun p t h0 h1 h2 h3 => ?_⟩
  · show 0 ≤ S 0 8 ∧ S 0 8 < 2147483648
    omega
  · have e : startW S 4 0 t = -2 := by unfold startW; rw [if_pos (by omega), if_neg (by omega), if_pos (by omega)]
    rw [e]; omega
  · have e : ∀ a, 5 ≤ a → a ≤ 9 → startW S a p t = if a = 4 ∨ a = 7 ∨ a = 8 then -2 else if a = 5 then -1 else 0 := fun a g0 g1 => by unfold startW; rw [if_pos (by omega), if_neg (by omega)]
    rw [e 5 (by omega) (by omega), e 6 (by omega) (by omega), e 7 (by omega) (by omega), e 8 (by omega) (by omega), e 9 (by omega) (by omega)]
    simp
/-- what a number of days does -/
def daysW (S : MS) (C : MC) : Nat → MW → MW
  | 0, W => W
  | n + 1, W => daysW S C n (dayW S C W)
theorem wi_daysW {S : MS} {C : MC} (hS : SI S) (hC : CI S C) : ∀ (n : Nat) {D : Int} {W : MW}, WI S D W → WI S (D + n) (daysW S C n W)
  | 0, D, W, h => by rw [show D + ((0 : Nat) : Int) = D by omega]; exact h
  | n + 1, D, W, h => by
    have := wi_daysW hS hC n (wi_dayW hS hC h)
    rw [show D + ((n + 1 : Nat) : Int) = D + 1 + n by omega]
    exact this
theorem daysW_0 {S : MS} {C : MC} : ∀ (n : Nat) {W : MW}, daysW S C n W 0 0 0 = W 0 0 0 + n
  | 0, W => by show W 0 0 0 = _; omega
  | n + 1, W => by
    show daysW S C n (dayW S C W) 0 0 0 = _
    rw [daysW_0 n, dayW_0]; omega
section REF
variable {ρ : Nat → Nat → Nat} {cs : Nat × Nat × Nat} {d : Nat}
theorem R_starts_news (hρ : RM ρ) {s : Int} (hs0 : 0 ≤ s) (hs : s < 23) : ∀ (j : Nat) (t : Nat) (μ : Nat → Nat → Int), t + j = 6 → ∃ μ1, (∀ q k, ¬ (q = 130 ∧ (6 * s).toNat + t ≤ k ∧ k < (6 * s).toNat + 6) → μ1 q k = μ q k) ∧ (∀ k, t ≤ k → k < 6 → μ1 130 ((6 * s).toNat + k) = -2) ∧ am_E d 182 112 [some (.inr (.inr 99)), some (.inl s), some (.inl (t : Int))] [] (SH, ρ, μ, cs) = some (none, (SH, ρ, μ1, cs)) := by
  intro j
  induction j with
  | zero =>
    intro t μ h
    refine ⟨μ, fun _ _ _ => rfl, fun k h1 h2 => by omega, ?_⟩
    rw [e182_112]; simp (disch := (first | omega | (simp (disch := omega) only [sr_up, wr_up_o]; omega))) only [ks_130, ks_99, rm_newsOn hρ, Bool.false_eq_true, eq_self, isk_t, i20_t, w20_t, l23_t, b21_t, b22_t, w_t, bif_t, bif_f, bif_d, if_pos, if_neg, if_true, if_false, not_true_eq_false, not_false_eq_true, Option.bind_some, Option.toList_some, Option.toList_none, List.cons_append, List.nil_append, Int.toNat_natCast, Int.reduceToNat, up_eq, up_p, up_k, sN]
  | succ j ih =>
    intro t μ h
    obtain ⟨μ1, g1, g2, g3⟩ := ih (t + 1) (am_up μ 130 ((6 * s).toNat + t) (-2)) (by omega)
    refine ⟨μ1, fun q k hq => ?_, fun k h1 h2 => ?_, ?_⟩
    · rw [g1 q k (by omega), am_up_no (by omega)]
    · by_cases c : k = t
      · subst c
        rw [g1 _ _ (by omega), up_eq]
      · exact g2 k (by omega) h2
    · have e : (6 * s + (t : Int)).toNat = (6 * s).toNat + t := by omega
      have e2 : ((t + 1 : Nat) : Int) = (t : Int) + 1 := by omega
      rw [e2] at g3
      rw [e182_112]; simp (disch := (first | omega | (simp (disch := omega) only [sr_up, wr_up_o]; omega))) only [e182_131, ks_130, ks_99, rm_newsOn hρ, Bool.false_eq_true, eq_self, isk_t, i20_t, w20_t, l23_t, b21_t, b22_t, w_t, bif_t, bif_f, bif_d, if_pos, if_neg, if_true, if_false, not_true_eq_false, not_false_eq_true, Option.bind_some, Option.toList_some, Option.toList_none, List.cons_append, List.nil_append, Int.toNat_natCast, Int.reduceToNat, up_eq, up_p, up_k, sN,  e, g3 ]
theorem R_starts_rows (hρ : RM ρ) {s : Int} (hs0 : 0 ≤ s) (hs : s < 23) : ∀ (j : Nat) (t : Nat) (μ : Nat → Nat → Int), t + j = 42 → ∃ μ1, (∀ q k, ¬ (125 ≤ q ∧ q ≤ 129 ∧ (42 * s).toNat + t ≤ k ∧ k < (42 * s).toNat + 42) → μ1 q k = μ q k) ∧ (∀ k : Nat, t ≤ k → k < 42 → μ1 125 ((42 * s).toNat + k) = -1 ∧ μ1 126 ((42 * s).toNat + k) = 0 ∧ μ1 127 ((42 * s).toNat + k) = -2 ∧ μ1 128 ((42 * s).toNat + k) = -2 ∧ μ1 129 ((42 * s).toNat + k) = 0) ∧ am_E d 182 36 [some (.inr (.inr 99)), some (.inl s), some (.inl (t : Int))] [] (SH, ρ, μ, cs) = am_E d 182 112 [some (.inr (.inr 99)), some (.inl s), some (.inl 0)] [] (SH, ρ, μ1, cs) := by
  intro j
  induction j with
  | zero =>
    intro t μ h
    refine ⟨μ, fun _ _ _ => rfl, fun k h1 h2 => by omega, ?_⟩
    rw [e182_36]; simp (disch := (first | omega | (simp (disch := omega) only [sr_up, wr_up_o]; omega))) only [ks_125, ks_99, rm_hatsOf hρ, Bool.false_eq_true, eq_self, isk_t, i20_t, w20_t, l23_t, b21_t, b22_t, w_t, bif_t, bif_f, bif_d, if_pos, if_neg, if_true, if_false, not_true_eq_false, not_false_eq_true, Option.bind_some, Option.toList_some, Option.toList_none, List.cons_append, List.nil_append, Int.toNat_natCast, Int.reduceToNat, up_eq, up_p, up_k, sN]
  | succ j ih =>
    intro t μ h
    obtain ⟨μ1, g1, g2, g3⟩ := ih (t + 1) (am_up (am_up (am_up (am_up (am_up μ 125 ((42 * s).toNat + t) (-1)) 126 ((42 * s).toNat + t) 0) 127 ((42 * s).toNat + t) (-2)) 128 ((42 * s).toNat + t) (-2)) 129 ((42 * s).toNat + t) 0) (by omega)
    refine ⟨μ1, fun q k hq => ?_, fun k h1 h2 => ?_, ?_⟩
    · rw [g1 q k (by omega), am_up_no (by omega), am_up_no (by omega), am_up_no (by omega), am_up_no (by omega), am_up_no (by omega)]
    · by_cases c : k = t
      · subst c
        rw [g1 _ _ (by omega), g1 _ _ (by omega), g1 _ _ (by omega), g1 _ _ (by omega), g1 _ _ (by omega)]
        refine ⟨?_, ?_, ?_, ?_, ?_⟩ <;> simp (disch := omega) only [up_eq, up_p]
      · exact g2 k (by omega) h2
    · have e : (42 * s + (t : Int)).toNat = (42 * s).toNat + t := by omega
      have e2 : ((t + 1 : Nat) : Int) = (t : Int) + 1 := by omega
      rw [e2] at g3
      rw [← g3]
      rw [e182_36]; simp (disch := (first | omega | (simp (disch := omega) only [sr_up, wr_up_o]; omega))) only [e182_54, ks_125, ks_126, ks_127, ks_128, ks_129, ks_99, rm_fromOf hρ, rm_hatsOf hρ, rm_printedChain hρ, rm_printedHats hρ, rm_sinceOf hρ, Bool.false_eq_true, eq_self, isk_t, i20_t, w20_t, l23_t, b21_t, b22_t, w_t, bif_t, bif_f, bif_d, if_pos, if_neg, if_true, if_false, not_true_eq_false, not_false_eq_true, Option.bind_some, Option.toList_some, Option.toList_none, List.cons_append, List.nil_append, Int.toNat_natCast, Int.reduceToNat, up_eq, up_p, up_k, sN,  e ]
theorem R_starts (hρ : RM ρ) {s : Int} {S : MS} {μ : Nat → Nat → Int} (hs0 : 0 ≤ s) (hs : s < 23) (h1 : SR μ = S) : ∃ μ1, FrW s μ μ1 ∧ WR μ1 s = startW S ∧ am_E d 182 0 [some (.inr (.inr 99)), some (.inl s), none] [] (SH, ρ, μ, cs) = some (none, (SH, ρ, μ1, cs)) := by
  have e8 : μ 101 8 = S 0 8 := by rw [← h1]; rfl
  obtain ⟨μ1, g1, g2, g3⟩ := R_starts_rows (ρ := ρ) (cs := cs) (d := d) hρ hs0 hs 42 0 (am_up (am_up (am_up (am_up μ 121 s.toNat 0) 122 s.toNat (S 0 8)) 123 s.toNat 0) 124 s.toNat 0) rfl
  obtain ⟨μ2, k1, k2, k3⟩ := R_starts_news (ρ := ρ) (cs := cs) (d := d) hρ hs0 hs 6 0 μ1 rfl
  refine ⟨μ2, fun q k hq hq2 => ?_, ?_, ?_⟩
  · rw [k1 q k (by omega), g1 q k (by omega), am_up_no (by omega), am_up_no (by omega), am_up_no (by omega), am_up_no (by omega)]
  · refine wr_start hs0 ?_ ?_ ?_ ?_ (fun t ht => k2 t (by omega) ht) (fun j hj => ?_)
    · rw [k1 _ _ (by omega), g1 _ _ (by omega)]; simp (disch := omega) only [up_eq, up_p]
    · rw [k1 _ _ (by omega), g1 _ _ (by omega)]; simp (disch := omega) only [up_eq, up_p]
    · rw [k1 _ _ (by omega), g1 _ _ (by omega)]; simp (disch := omega) only [up_eq, up_p]
    · rw [k1 _ _ (by omega), g1 _ _ (by omega)]; simp (disch := omega) only [up_eq, up_p]
    · rw [k1 _ _ (by omega), k1 _ _ (by omega), k1 _ _ (by omega), k1 _ _ (by omega), k1 _ _ (by omega)]
      exact g2 j (by omega) hj
  · simp (disch := (first | omega | (simp (disch := omega) only [sr_up, wr_up_o]; omega))) only [e182_0, ks_101, ks_121, ks_122, ks_123, ks_124, ks_99, rm_day hρ, rm_drawn hρ, rm_idle hρ, rm_number hρ, rm_space hρ, Bool.false_eq_true, eq_self, isk_t, i20_t, w20_t, l23_t, b21_t, b22_t, w_t, bif_t, bif_f, bif_d, if_pos, if_neg, if_true, if_false, not_true_eq_false, not_false_eq_true, Option.bind_some, Option.toList_some, Option.toList_none, List.cons_append, List.nil_append, Int.toNat_natCast, Int.reduceToNat, up_eq, up_p, up_k, sN,  e8 ]
    exact g3.trans k3
theorem R_copies_news (hρ : RM ρ) {s s' : Int} (hs0 : 0 ≤ s) (hs : s < 23) (hs0' : 0 ≤ s') (hs' : s' < 23) (hne : s ≠ s') : ∀ (j : Nat) (t : Nat) (μ : Nat → Nat → Int), t + j = 6 → ∃ μ1, (∀ q k, ¬ (q = 130 ∧ (6 * s).toNat + t ≤ k ∧ k < (6 * s).toNat + 6) → μ1 q k = μ q k) ∧ (∀ k, t ≤ k → k < 6 → μ1 130 ((6 * s).toNat + k) = μ 130 ((6 * s').toNat + k)) ∧ am_E d 184 174 [some (.inr (.inr 99)), some (.inl s), some (.inl s'), some (.inl (t : Int))] [] (SH, ρ, μ, cs) = some (none, (SH, ρ, μ1, cs)) := by
  intro j
  induction j with
  | zero =>
    intro t μ h
    refine ⟨μ, fun _ _ _ => rfl, fun k h1 h2 => by omega, ?_⟩
    rw [e184_174]; simp (disch := (first | omega | (simp (disch := omega) only [sr_up, wr_up_o]; omega))) only [ks_130, ks_99, rm_newsOn hρ, Bool.false_eq_true, eq_self, isk_t, i20_t, w20_t, l23_t, b21_t, b22_t, w_t, bif_t, bif_f, bif_d, if_pos, if_neg, if_true, if_false, not_true_eq_false, not_false_eq_true, Option.bind_some, Option.toList_some, Option.toList_none, List.cons_append, List.nil_append, Int.toNat_natCast, Int.reduceToNat, up_eq, up_p, up_k, sN]
  | succ j ih =>
    intro t μ h
    obtain ⟨μ1, g1, g2, g3⟩ := ih (t + 1) (am_up μ 130 ((6 * s).toNat + t) (μ 130 ((6 * s').toNat + t))) (by omega)
    refine ⟨μ1, fun q k hq => ?_, fun k h1 h2 => ?_, ?_⟩
    · rw [g1 q k (by omega), am_up_no (by omega)]
    · by_cases c : k = t
      · subst c
        rw [g1 _ _ (by omega), up_eq]
      · rw [g2 k (by omega) h2, am_up_no (by omega)]
    · have e : (6 * s + (t : Int)).toNat = (6 * s).toNat + t := by omega
      have e' : (6 * s' + (t : Int)).toNat = (6 * s').toNat + t := by omega
      have e2 : ((t + 1 : Nat) : Int) = (t : Int) + 1 := by omega
      rw [e2] at g3
      rw [e184_174]; simp (disch := (first | omega | (simp (disch := omega) only [sr_up, wr_up_o]; omega))) only [e184_202, ks_130, ks_99, rm_newsOn hρ, Bool.false_eq_true, eq_self, isk_t, i20_t, w20_t, l23_t, b21_t, b22_t, w_t, bif_t, bif_f, bif_d, if_pos, if_neg, if_true, if_false, not_true_eq_false, not_false_eq_true, Option.bind_some, Option.toList_some, Option.toList_none, List.cons_append, List.nil_append, Int.toNat_natCast, Int.reduceToNat, up_eq, up_p, up_k, sN,  e, e', g3 ]
theorem R_copies_rows (hρ : RM ρ) {s s' : Int} (hs0 : 0 ≤ s) (hs : s < 23) (hs0' : 0 ≤ s') (hs' : s' < 23) (hne : s ≠ s') : ∀ (j : Nat) (t : Nat) (μ : Nat → Nat → Int), t + j = 42 → ∃ μ1, (∀ q k, ¬ (125 ≤ q ∧ q ≤ 129 ∧ (42 * s).toNat + t ≤ k ∧ k < (42 * s).toNat + 42) → μ1 q k = μ q k) ∧ (∀ q, 125 ≤ q → q ≤ 129 → ∀ k : Nat, t ≤ k → k < 42 → μ1 q ((42 * s).toNat + k) = μ q ((42 * s').toNat + k)) ∧ am_E d 184 50 [some (.inr (.inr 99)), some (.inl s), some (.inl s'), some (.inl (t : Int))] [] (SH, ρ, μ, cs) = am_E d 184 174 [some (.inr (.inr 99)), some (.inl s), some (.inl s'), some (.inl 0)] [] (SH, ρ, μ1, cs) := by
  intro j
  induction j with
  | zero =>
    intro t μ h
    refine ⟨μ, fun _ _ _ => rfl, fun q _ _ k h1 h2 => by omega, ?_⟩
    rw [e184_50]; simp (disch := (first | omega | (simp (disch := omega) only [sr_up, wr_up_o]; omega))) only [ks_125, ks_99, rm_hatsOf hρ, Bool.false_eq_true, eq_self, isk_t, i20_t, w20_t, l23_t, b21_t, b22_t, w_t, bif_t, bif_f, bif_d, if_pos, if_neg, if_true, if_false, not_true_eq_false, not_false_eq_true, Option.bind_some, Option.toList_some, Option.toList_none, List.cons_append, List.nil_append, Int.toNat_natCast, Int.reduceToNat, up_eq, up_p, up_k, sN]
  | succ j ih =>
    intro t μ h
    obtain ⟨μ1, g1, g2, g3⟩ := ih (t + 1) (am_up (am_up (am_up (am_up (am_up μ 125 ((42 * s).toNat + t) (μ 125 ((42 * s').toNat + t))) 126 ((42 * s).toNat + t) (μ 126 ((42 * s').toNat + t))) 127 ((42 * s).toNat + t) (μ 127 ((42 * s').toNat + t))) 128 ((42 * s).toNat + t) (μ 128 ((42 * s').toNat + t))) 129 ((42 * s).toNat + t) (μ 129 ((42 * s').toNat + t))) (by omega)
    refine ⟨μ1, fun q k hq => ?_, fun q hq0 hq1 k h1 h2 => ?_, ?_⟩
    · rw [g1 q k (by omega), am_up_no (by omega), am_up_no (by omega), am_up_no (by omega), am_up_no (by omega), am_up_no (by omega)]
    · by_cases c : k = t
      · subst c
        rw [g1 _ _ (by omega)]
        have h : q = 125 ∨ q = 126 ∨ q = 127 ∨ q = 128 ∨ q = 129 := by omega
        rcases h with rfl | rfl | rfl | rfl | rfl <;> simp (disch := omega) only [up_eq, up_p]
      · rw [g2 q hq0 hq1 k (by omega) h2, am_up_no (by omega), am_up_no (by omega), am_up_no (by omega), am_up_no (by omega), am_up_no (by omega)]
    · have e : (42 * s + (t : Int)).toNat = (42 * s).toNat + t := by omega
      have e' : (42 * s' + (t : Int)).toNat = (42 * s').toNat + t := by omega
      have e2 : ((t + 1 : Nat) : Int) = (t : Int) + 1 := by omega
      rw [e2] at g3
      rw [← g3]
      rw [e184_50]; simp (disch := (first | omega | (simp (disch := omega) only [sr_up, wr_up_o]; omega))) only [e184_78, ks_125, ks_126, ks_127, ks_128, ks_129, ks_99, rm_fromOf hρ, rm_hatsOf hρ, rm_printedChain hρ, rm_printedHats hρ, rm_sinceOf hρ, Bool.false_eq_true, eq_self, isk_t, i20_t, w20_t, l23_t, b21_t, b22_t, w_t, bif_t, bif_f, bif_d, if_pos, if_neg, if_true, if_false, not_true_eq_false, not_false_eq_true, Option.bind_some, Option.toList_some, Option.toList_none, List.cons_append, List.nil_append, Int.toNat_natCast, Int.reduceToNat, up_eq, up_p, up_k, sN,  e, e' ]
theorem R_copies (hρ : RM ρ) {s s' : Int} {μ : Nat → Nat → Int} (hs0 : 0 ≤ s) (hs : s < 23) (hs0' : 0 ≤ s') (hs' : s' < 23) (hne : s ≠ s') : ∃ μ1, FrW s μ μ1 ∧ WR μ1 s = WR μ s' ∧ am_E d 184 0 [some (.inr (.inr 99)), some (.inl s), some (.inl s'), none] [] (SH, ρ, μ, cs) = some (none, (SH, ρ, μ1, cs)) := by
  obtain ⟨μ1, g1, g2, g3⟩ := R_copies_rows (ρ := ρ) (cs := cs) (d := d) hρ hs0 hs hs0' hs' hne 42 0 (am_up (am_up (am_up (am_up μ 121 s.toNat (μ 121 s'.toNat)) 122 s.toNat (μ 122 s'.toNat)) 123 s.toNat (μ 123 s'.toNat)) 124 s.toNat (μ 124 s'.toNat)) rfl
  obtain ⟨μ2, k1, k2, k3⟩ := R_copies_news (ρ := ρ) (cs := cs) (d := d) hρ hs0 hs hs0' hs' hne 6 0 μ1 rfl
  refine ⟨μ2, fun q k hq hq2 => ?_, ?_, ?_⟩
  · rw [k1 q k (by omega), g1 q k (by omega), am_up_no (by omega), am_up_no (by omega), am_up_no (by omega), am_up_no (by omega)]
  · refine wr_ext hs0 hs0' (fun a ha => ?_) (fun t ht => ?_) (fun q hq0 hq1 j hj => ?_)
    · rw [k1 _ _ (by omega), g1 _ _ (by omega)]
      have h : a = 0 ∨ a = 1 ∨ a = 2 ∨ a = 3 := by omega
      rcases h with rfl | rfl | rfl | rfl <;> simp (disch := omega) only [up_eq, up_p]
    · rw [k2 t (by omega) ht, g1 _ _ (by omega), up_p (by omega), up_p (by omega), up_p (by omega), up_p (by omega)]
    · rw [k1 _ _ (by omega), g2 q hq0 hq1 j (by omega) hj, up_p (by omega), up_p (by omega), up_p (by omega), up_p (by omega)]
  · simp (disch := (first | omega | (simp (disch := omega) only [sr_up, wr_up_o]; omega))) only [e184_0, ks_121, ks_122, ks_123, ks_124, ks_99, rm_day hρ, rm_drawn hρ, rm_idle hρ, rm_space hρ, Bool.false_eq_true, eq_self, isk_t, i20_t, w20_t, l23_t, b21_t, b22_t, w_t, bif_t, bif_f, bif_d, if_pos, if_neg, if_true, if_false, not_true_eq_false, not_false_eq_true, Option.bind_some, Option.toList_some, Option.toList_none, List.cons_append, List.nil_append, Int.toNat_natCast, Int.reduceToNat, up_eq, up_p, up_k, sN]
    exact g3.trans k3
theorem R_goesOn_loop (hρ : RM ρ) {N : Int} {S : MS} {C : MC} (hS : SI S) (hC : CI S C) (hA : ∀ t, C.2.2.2.2.2 t = true) (hN : N < 1000) : ∀ (j : Nat) (k D : Int) (W : MW) (μ : Nat → Nat → Int), WI S D W → D + j < 20000 → SR μ = S → CR μ 0 = C → WR μ 1 = W → 0 ≤ μ 99 53 → μ 99 53 < 128 → 0 ≤ k → k + j = N → ∃ μ1, FrW 1 μ μ1 ∧ WR μ1 1 = daysW S C j W ∧ am_E (d + 8) 207 2 [some (.inr (.inr 99)), some (.inl N), some (.inl k)] [] (SH, ρ, μ, cs) = some (none, (SH, ρ, μ1, cs)) := by
  intro j
  induction j with
  | zero =>
    intro k D W μ hW hD h1 h2 h3 hh0 hh hk0 hk
    refine ⟨μ, frw_rf 1 μ, h3, ?_⟩
    rw [e207_2]; simp (disch := (first | omega | (simp (disch := omega) only [sr_up, wr_up_o]; omega))) only [ks_99, Bool.false_eq_true, eq_self, isk_t, i20_t, w20_t, l23_t, b21_t, b22_t, w_t, bif_t, bif_f, bif_d, if_pos, if_neg, if_true, if_false, not_true_eq_false, not_false_eq_true, Option.bind_some, Option.toList_some, Option.toList_none, List.cons_append, List.nil_append, Int.toNat_natCast, Int.reduceToNat, up_eq, up_p, up_k, sN]
  | succ j ih =>
    intro k D W μ hW hD h1 h2 h3 hh0 hh hk0 hk
    obtain ⟨μ1, g1, g2, g3⟩ := R_passes (ρ := ρ) (cs := cs) (d := d) (b := 0) (s := 1) hρ (by omega) (by omega) hS hC (show D < 20000 by omega) hW hA h1 h2 h3 hh0 hh
    obtain ⟨μ2, k1, k2, k3⟩ := ih (k + 1) (D + 1) _ μ1 (wi_dayW hS hC hW) (by omega) ((frw_SR g1).trans h1) ((frw_CR g1 0).trans h2) g2 (by rw [g1 99 53 (by omega) (by omega)]; exact hh0) (by rw [g1 99 53 (by omega) (by omega)]; exact hh) (by omega) (by omega)
    refine ⟨μ2, frw_tr g1 k1, k2, ?_⟩
    rw [e207_2]; simp (disch := (first | omega | (simp (disch := omega) only [sr_up, wr_up_o]; omega))) only [e207_13, ks_99, Bool.false_eq_true, eq_self, isk_t, i20_t, w20_t, l23_t, b21_t, b22_t, w_t, bif_t, bif_f, bif_d, if_pos, if_neg, if_true, if_false, not_true_eq_false, not_false_eq_true, Option.bind_some, Option.toList_some, Option.toList_none, List.cons_append, List.nil_append, Int.toNat_natCast, Int.reduceToNat, up_eq, up_p, up_k, sN,  g3, k3 ]
theorem R_goesOn (hρ : RM ρ) {D : Int} {n : Nat} {S : MS} {C : MC} {W : MW} {μ : Nat → Nat → Int} (hS : SI S) (hC : CI S C) (hA : ∀ t, C.2.2.2.2.2 t = true) (hn : n < 1000) (hW : WI S D W) (hD : D + n < 20000) (h1 : SR μ = S) (h2 : CR μ 0 = C) (h3 : WR μ 1 = W) (hh0 : 0 ≤ μ 99 53) (hh : μ 99 53 < 128) : ∃ μ1, FrW 1 μ μ1 ∧ WR μ1 1 = daysW S C n W ∧ am_E (d + 8) 207 0 [some (.inr (.inr 99)), some (.inl (n : Int)), none] [] (SH, ρ, μ, cs) = some (none, (SH, ρ, μ1, cs)) := by
  rw [e207_0]
  exact R_goesOn_loop hρ hS hC hA (by omega) n 0 D W μ hW hD h1 h2 h3 hh0 hh (Int.le_refl _) (by omega)
theorem R_newsMany_loop (hρ : RM ρ) {s : Int} {μ : Nat → Nat → Int} (hs0 : 0 ≤ s) (hs : s < 23) (hn0 : 0 ≤ SR μ 0 1) (hn : SR μ 0 1 ≤ 6) : ∀ (j : Nat) (k : Nat), (k : Int) + j = SR μ 0 1 → am_E (d + 1) 208 4 [some (.inr (.inr 99)), some (.inl s), some (.inl (cnt (fun t => decide (WR μ s 4 0 t ≠ -2)) k)), some (.inl (k : Int))] [] (SH, ρ, μ, cs) = some (some (.inl (cnt (fun t => decide (WR μ s 4 0 t ≠ -2)) (SR μ 0 1).toNat)), (SH, ρ, μ, cs)) := by
  intro j
  have hN : μ 101 1 = SR μ 0 1 := rfl
  induction j with
  | zero =>
    intro k hk
    have e : (SR μ 0 1).toNat = k := by omega
    rw [e]
    rw [e208_4]; simp (disch := (first | omega | (simp (disch := omega) only [sr_up, wr_up_o]; omega))) only [ks_101, ks_99, rm_number hρ, Bool.false_eq_true, eq_self, isk_t, i20_t, w20_t, l23_t, b21_t, b22_t, w_t, bif_t, bif_f, bif_d, if_pos, if_neg, if_true, if_false, not_true_eq_false, not_false_eq_true, Option.bind_some, Option.toList_some, Option.toList_none, List.cons_append, List.nil_append, Int.toNat_natCast, Int.reduceToNat, up_eq, up_p, up_k, sN,  hN ]
  | succ j ih =>
    intro k hk
    have c := cnt_le (fun t => decide (WR μ s 4 0 t ≠ -2)) k
    have h2 := ih (k + 1) (by omega)
    have e2 : ((k + 1 : Nat) : Int) = (k : Int) + 1 := by omega
    have e3 : cnt (fun t => decide (WR μ s 4 0 t ≠ -2)) (k + 1) = cnt (fun t => decide (WR μ s 4 0 t ≠ -2)) k + if decide (WR μ s 4 0 k ≠ -2) = true then 1 else 0 := rfl
    rw [e2, e3] at h2
    by_cases q : WR μ s 4 0 k = -2
    · rw [if_neg (by simp [q])] at h2
      rw [e208_4]; simp (disch := (first | omega | (simp (disch := omega) only [sr_up, wr_up_o]; omega))) only [e208_21, ks_101, ks_99, rm_number hρ, Bool.false_eq_true, eq_self, isk_t, i20_t, w20_t, l23_t, b21_t, b22_t, w_t, bif_t, bif_f, bif_d, if_pos, if_neg, if_true, if_false, not_true_eq_false, not_false_eq_true, Option.bind_some, Option.toList_some, Option.toList_none, List.cons_append, List.nil_append, Int.toNat_natCast, Int.reduceToNat, up_eq, up_p, up_k, sN,  hN, R_isNews hρ, q, h2 ]
    · rw [if_pos (by simp [q])] at h2
      rw [e208_4]; simp (disch := (first | omega | (simp (disch := omega) only [sr_up, wr_up_o]; omega))) only [e208_21, ks_101, ks_99, rm_number hρ, Bool.false_eq_true, eq_self, isk_t, i20_t, w20_t, l23_t, b21_t, b22_t, w_t, bif_t, bif_f, bif_d, if_pos, if_neg, if_true, if_false, not_true_eq_false, not_false_eq_true, Option.bind_some, Option.toList_some, Option.toList_none, List.cons_append, List.nil_append, Int.toNat_natCast, Int.reduceToNat, up_eq, up_p, up_k, sN,  hN, R_isNews hρ, q, h2 ]
theorem R_newsMany (hρ : RM ρ) {s : Int} {μ : Nat → Nat → Int} (hs0 : 0 ≤ s) (hs : s < 23) (hn0 : 0 ≤ SR μ 0 1) (hn : SR μ 0 1 ≤ 6) : am_E (d + 1) 208 0 [some (.inr (.inr 99)), some (.inl s), none, none] [] (SH, ρ, μ, cs) = some (some (.inl (cnt (fun t => decide (WR μ s 4 0 t ≠ -2)) (SR μ 0 1).toNat)), (SH, ρ, μ, cs)) := by
  rw [e208_0]
  exact R_newsMany_loop hρ hs0 hs hn0 hn (SR μ 0 1).toNat 0 (by omega)
end REF
