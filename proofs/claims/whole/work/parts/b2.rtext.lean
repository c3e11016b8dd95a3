/-! TEXT: how the reference begins to read -/
def dfl (k : Nat) : Int := if k = 5 then 1 else if k = 6 then 9 else if k = 7 then 100 else 0
def zt (Z : MS) : MS := fun a k => if a = 0 ∧ k.toNat < 10 then dfl k.toNat else if (a = 14 ∨ a = 15) ∧ k.toNat < 3 then 0 else Z a k
theorem zt_0 {Z : MS} {k : Int} (h : k.toNat < 10) : zt Z 0 k = dfl k.toNat := by
  unfold zt
  rw [if_pos ⟨rfl, h⟩]
theorem zt_14 {Z : MS} {k : Int} (h : k.toNat < 3) : zt Z 14 k = 0 ∧ zt Z 15 k = 0 := by
  unfold zt
  exact ⟨by rw [if_neg (by omega), if_pos ⟨Or.inl rfl, h⟩], by rw [if_neg (by omega), if_pos ⟨Or.inr rfl, h⟩]⟩
theorem zt_lb (Z : MS) : LB (zt Z) := fun r h0 h1 => by
  rw [(zt_14 (by omega)).2, zt_0 (by decide)]
  decide
theorem zt_si (Z : MS) : SI (zt Z) := by
  have e : ∀ k : Nat, k < 10 → zt Z 0 (k : Int) = dfl k := fun k hk => by rw [zt_0 (by omega), Int.toNat_natCast]
  have e0 : zt Z 0 0 = 0 := e 0 (by omega)
  have e1 : zt Z 0 1 = 0 := e 1 (by omega)
  have e2 : zt Z 0 2 = 0 := e 2 (by omega)
  have e3 : zt Z 0 3 = 0 := e 3 (by omega)
  have e4 : zt Z 0 4 = 0 := e 4 (by omega)
  have e5 : zt Z 0 5 = 1 := e 5 (by omega)
  have e6 : zt Z 0 6 = 9 := e 6 (by omega)
  have e7 : zt Z 0 7 = 100 := e 7 (by omega)
  have e8 : zt Z 0 8 = 0 := e 8 (by omega)
  have e9 : zt Z 0 9 = 0 := e 9 (by omega)
  refine ⟨by omega, by omega, by omega, by omega, by omega, by omega, by omega, by omega, by omega, by omega, fun k h0 h1 => by omega, fun k h0 h1 => by omega, fun k h0 h1 => by omega, fun k h0 h1 => by omega, fun k h0 h1 => by omega, fun r h0 h1 => ?_⟩
  obtain ⟨g1, g2⟩ := zt_14 (Z := Z) (k := r) (by omega)
  exact ⟨by omega, by omega, by omega, fun h => by omega⟩
section RTX
variable {ρ : Nat → Nat → Nat} {cs : Nat × Nat × Nat} {d : Nat}
theorem R_dfl (hρ : RM ρ) {x1 : Int} : ∀ (m i : Nat) (μ : Nat → Nat → Int), i + m = 10 → ∃ μ', (∀ q k, ¬ (q = 101 ∧ 10 + i ≤ k ∧ k < 20) → μ' q k = μ q k) ∧ (∀ k, i ≤ k → k < 10 → μ' 101 (10 + k) = dfl k) ∧ am_E (d + 1) 175 47 [some (.inr (.inr 99)), some (.inl x1), some (.inl (i : Int))] [] (SH, ρ, μ, cs) = am_E (d + 1) 175 98 [some (.inr (.inr 99)), some (.inl x1), some (.inl 3)] [] (SH, ρ, μ', cs) := by
  intro m
  induction m with
  | zero =>
    intro i μ hi
    refine ⟨μ, fun _ _ _ => rfl, fun k h0 h1 => by omega, ?_⟩
    have e : (10 : Int) ≤ (i : Int) := by omega
    rw [e175_47]; simp (disch := (first | omega | (simp (disch := omega) only [sr_up, wr_up_o]; omega))) only [ks_99, ite_self, Bool.false_eq_true, eq_self, isk_t, i20_t, w20_t, l23_t, b21_t, b22_t, w_t, bif_t, bif_f, bif_d, if_pos, if_neg, if_true, if_false, not_true_eq_false, not_false_eq_true, Option.bind_some, Option.toList_some, Option.toList_none, List.cons_append, List.nil_append, Int.toNat_natCast, Int.reduceToNat, up_eq, up_p, up_k, sN,  e ]
  | succ m ih =>
    intro i μ hi
    have e1 : ((10 : Int) + (i : Int)).toNat = 10 + i := by omega
    obtain ⟨μ', f1, f2, f3⟩ := ih (i + 1) (am_up μ 101 (10 + i) (dfl i)) (by omega)
    refine ⟨μ', fun p k hk => ?_, fun k h0 h1 => ?_, ?_⟩
    · rw [f1 p k (by omega), am_up_no (by omega)]
    · by_cases e : k = i
      · subst e
        rw [f1 _ _ (by omega), up_eq]
      · exact f2 k (by omega) h1
    · have e2 : ((i + 1 : Nat) : Int) = (i : Int) + 1 := by omega
      rw [e2] at f3
      have e : ¬ (10 : Int) ≤ (i : Int) := by omega
      unfold dfl at f3
      by_cases c5 : i = 5
      · rw [if_pos c5] at f3
        rw [e175_47]; simp (disch := (first | omega | (simp (disch := omega) only [sr_up, wr_up_o]; omega))) only [e175_90, e157_0, ks_101, ks_99, rm_number hρ, ite_self, Bool.false_eq_true, eq_self, isk_t, i20_t, w20_t, l23_t, b21_t, b22_t, w_t, bif_t, bif_f, bif_d, if_pos, if_neg, if_true, if_false, not_true_eq_false, not_false_eq_true, Option.bind_some, Option.toList_some, Option.toList_none, List.cons_append, List.nil_append, Int.toNat_natCast, Int.reduceToNat, up_eq, up_p, up_k, sN,  e, e1, f3 ]
      · rw [if_neg c5] at f3
        by_cases c6 : i = 6
        · rw [if_pos c6] at f3
          rw [e175_47]; simp (disch := (first | omega | (simp (disch := omega) only [sr_up, wr_up_o]; omega))) only [e175_90, e157_0, ks_101, ks_99, rm_number hρ, ite_self, Bool.false_eq_true, eq_self, isk_t, i20_t, w20_t, l23_t, b21_t, b22_t, w_t, bif_t, bif_f, bif_d, if_pos, if_neg, if_true, if_false, not_true_eq_false, not_false_eq_true, Option.bind_some, Option.toList_some, Option.toList_none, List.cons_append, List.nil_append, Int.toNat_natCast, Int.reduceToNat, up_eq, up_p, up_k, sN,  e, e1, f3 ]
        · rw [if_neg c6] at f3
          by_cases c7 : i = 7
          · rw [if_pos c7] at f3
            rw [e175_47]; simp (disch := (first | omega | (simp (disch := omega) only [sr_up, wr_up_o]; omega))) only [e175_90, e157_0, ks_101, ks_99, rm_number hρ, ite_self, Bool.false_eq_true, eq_self, isk_t, i20_t, w20_t, l23_t, b21_t, b22_t, w_t, bif_t, bif_f, bif_d, if_pos, if_neg, if_true, if_false, not_true_eq_false, not_false_eq_true, Option.bind_some, Option.toList_some, Option.toList_none, List.cons_append, List.nil_append, Int.toNat_natCast, Int.reduceToNat, up_eq, up_p, up_k, sN,  e, e1, f3 ]
          · rw [if_neg c7] at f3
            rw [e175_47]; simp (disch := (first | omega | (simp (disch := omega) only [sr_up, wr_up_o]; omega))) only [e175_90, e157_0, ks_101, ks_99, rm_number hρ, ite_self, Bool.false_eq_true, eq_self, isk_t, i20_t, w20_t, l23_t, b21_t, b22_t, w_t, bif_t, bif_f, bif_d, if_pos, if_neg, if_true, if_false, not_true_eq_false, not_false_eq_true, Option.bind_some, Option.toList_some, Option.toList_none, List.cons_append, List.nil_append, Int.toNat_natCast, Int.reduceToNat, up_eq, up_p, up_k, sN,  e, e1, f3 ]
theorem R_lws (hρ : RM ρ) {x1 : Int} : ∀ (m i : Nat) (μ : Nat → Nat → Int), i + m = 6 → 3 ≤ i → ∃ μ', (∀ q k, ¬ ((q = 115 ∨ q = 116) ∧ i ≤ k ∧ k < 6) → μ' q k = μ q k) ∧ (∀ k, i ≤ k → k < 6 → μ' 115 k = 0 ∧ μ' 116 k = 0) ∧ am_E (d + 1) 175 98 [some (.inr (.inr 99)), some (.inl x1), some (.inl (i : Int))] [] (SH, ρ, μ, cs) = am_E (d + 1) 175 134 [some (.inr (.inr 99)), some (.inl x1), some (.inl 6)] [] (SH, ρ, am_up (am_up μ' 99 21 0) 99 22 0, cs) := by
  intro m
  induction m with
  | zero =>
    intro i μ hi h3
    refine ⟨μ, fun _ _ _ => rfl, fun k h0 h1 => by omega, ?_⟩
    have e : i = 6 := by omega
    subst e
    have e : (6 : Int) ≤ ((6 : Nat) : Int) := by omega
    rw [e175_98]; simp (disch := (first | omega | (simp (disch := omega) only [sr_up, wr_up_o]; omega))) only [ks_115, ks_116, ks_99, rm_sumFrom hρ, rm_sumTo hρ, ite_self, Bool.false_eq_true, eq_self, isk_t, i20_t, w20_t, l23_t, b21_t, b22_t, w_t, bif_t, bif_f, bif_d, if_pos, if_neg, if_true, if_false, not_true_eq_false, not_false_eq_true, Option.bind_some, Option.toList_some, Option.toList_none, List.cons_append, List.nil_append, Int.toNat_natCast, Int.reduceToNat, up_eq, up_p, up_k, sN,  e ]
    all_goals rfl
  | succ m ih =>
    intro i μ hi h3
    obtain ⟨μ', f1, f2, f3⟩ := ih (i + 1) (am_up (am_up μ 115 i 0) 116 i 0) (by omega) (by omega)
    refine ⟨μ', fun p k hk => ?_, fun k h0 h1 => ?_, ?_⟩
    · rw [f1 p k (by omega), am_up_no (by omega), am_up_no (by omega)]
    · by_cases e : k = i
      · subst e
        rw [f1 _ _ (by omega), f1 _ _ (by omega), up_p (by omega), up_eq, up_eq]
        exact ⟨rfl, rfl⟩
      · exact f2 k (by omega) h1
    · have e2 : ((i + 1 : Nat) : Int) = (i : Int) + 1 := by omega
      rw [e2] at f3
      have e : ¬ (6 : Int) ≤ (i : Int) := by omega
      rw [e175_98]; simp (disch := (first | omega | (simp (disch := omega) only [sr_up, wr_up_o]; omega))) only [ks_115, ks_116, ks_99, rm_sumFrom hρ, rm_sumTo hρ, ite_self, Bool.false_eq_true, eq_self, isk_t, i20_t, w20_t, l23_t, b21_t, b22_t, w_t, bif_t, bif_f, bif_d, if_pos, if_neg, if_true, if_false, not_true_eq_false, not_false_eq_true, Option.bind_some, Option.toList_some, Option.toList_none, List.cons_append, List.nil_append, Int.toNat_natCast, Int.reduceToNat, up_eq, up_p, up_k, sN,  e, ks_115, ks_116, f3 ]
def FB (μ μ' : Nat → Nat → Int) : Prop := ∀ q k, ¬ ((q = 99 ∧ (k = 0 ∨ k = 2 ∨ k = 23 ∨ k = 21 ∨ k = 22 ∨ (24 ≤ k ∧ k ≤ 29) ∨ k = 32 ∨ k = 33)) ∨ (101 ≤ q ∧ q ≤ 118 ∧ hfR (q - 101) ≤ k)) → μ' q k = μ q k
theorem R_textN {μ : Nat → Nat → Int} {x : Int} (hρ : RM ρ) (h : x < 0 ∨ μ 99 2 < x) : am_E (d + 1) 175 0 [some (.inr (.inr 99)), some (.inl x), none] [] (SH, ρ, μ, cs) = some (some (.inl (-2)), (SH, ρ, am_up μ 99 0 0, cs)) := by
  by_cases c : x < 0
  · simp (disch := (first | omega | (simp (disch := omega) only [sr_up, wr_up_o]; omega))) only [e175_0, ks_99, ite_self, Bool.false_eq_true, eq_self, isk_t, i20_t, w20_t, l23_t, b21_t, b22_t, w_t, bif_t, bif_f, bif_d, if_pos, if_neg, if_true, if_false, not_true_eq_false, not_false_eq_true, Option.bind_some, Option.toList_some, Option.toList_none, List.cons_append, List.nil_append, Int.toNat_natCast, Int.reduceToNat, up_eq, up_p, up_k, sN,  c ]
  · have c2 : ¬ x ≤ μ 99 2 := by omega
    simp (disch := (first | omega | (simp (disch := omega) only [sr_up, wr_up_o]; omega))) only [e175_0, ks_99, ite_self, Bool.false_eq_true, eq_self, isk_t, i20_t, w20_t, l23_t, b21_t, b22_t, w_t, bif_t, bif_f, bif_d, if_pos, if_neg, if_true, if_false, not_true_eq_false, not_false_eq_true, Option.bind_some, Option.toList_some, Option.toList_none, List.cons_append, List.nil_append, Int.toNat_natCast, Int.reduceToNat, up_eq, up_p, up_k, sN,  c, c2 ]
theorem R_textB {μ : Nat → Nat → Int} {n : Nat} {b : Nat → Int} (hρ : RM ρ) (hn : (n : Int) ≤ μ 99 2) (hn7 : n ≤ 700) (hb : ∀ i, i < n → μ 100 i = b i % 256 ∧ -128 ≤ b i ∧ b i ≤ 127) : ∃ μ', FB μ μ' ∧ (μ' 99 0 = 0 ∧ μ' 99 2 = 0) ∧ RH μ' b n 0 ∧ SR2 μ' = zt (SR2 μ) ∧ TD μ' 0 (zt (SR2 μ)) ∧ μ' 99 32 = 0 ∧ μ' 99 33 = 0 ∧ μ' 99 22 = 0 ∧ am_E (d + 201) 175 0 [some (.inr (.inr 99)), some (.inl (n : Int)), none] [] (SH, ρ, μ, cs) = am_E (d + 201) 175 148 [some (.inr (.inr 99)), some (.inl (n : Int)), some (.inl 6)] [] (SH, ρ, μ', cs) := by
  obtain ⟨μ1, f1, f2, f3⟩ := R_dfl (d := d + 200) (ρ := ρ) (cs := cs) (x1 := (n : Int)) hρ 10 0 (am_up (am_up (am_up (am_up (am_up (am_up μ 99 0 0) 99 23 n) 99 2 0) 99 24 0) 99 28 0) 99 29 (-1)) (by omega)
  have f3 : am_E (d + 201) 175 47 [some (.inr (.inr 99)), some (.inl (n : Int)), some (.inl 0)] [] (SH, ρ, am_up (am_up (am_up (am_up (am_up (am_up μ 99 0 0) 99 23 n) 99 2 0) 99 24 0) 99 28 0) 99 29 (-1), cs) = am_E (d + 201) 175 98 [some (.inr (.inr 99)), some (.inl (n : Int)), some (.inl 3)] [] (SH, ρ, μ1, cs) := f3
  obtain ⟨μ2, g1, g2, g3⟩ := R_lws (d := d + 200) (ρ := ρ) (cs := cs) (x1 := (n : Int)) hρ 3 3 μ1 (by omega) (by omega)
  have g3 : am_E (d + 201) 175 98 [some (.inr (.inr 99)), some (.inl (n : Int)), some (.inl 3)] [] (SH, ρ, μ1, cs) = am_E (d + 201) 175 134 [some (.inr (.inr 99)), some (.inl (n : Int)), some (.inl 6)] [] (SH, ρ, am_up (am_up μ2 99 21 0) 99 22 0, cs) := g3
  have hq : ∀ q k, q ≠ 101 → q ≠ 115 → q ≠ 116 → μ2 q k = (am_up (am_up (am_up (am_up (am_up (am_up μ 99 0 0) 99 23 n) 99 2 0) 99 24 0) 99 28 0) 99 29 (-1)) q k := fun q k q0 q1 q2 => by rw [g1 _ _ (by omega), f1 _ _ (by omega)]
  have hR : RTk (am_up (am_up (am_up (am_up μ2 99 21 0) 99 22 0) 99 32 0) 99 33 0) b n 0 := by
    refine ⟨hn7, by omega, ?_, ?_, fun i hi => ?_, ?_⟩
    · simp (disch := omega) only [up_k, up_eq, hq]
    · simp (disch := omega) only [up_k, up_eq, hq]; rfl
    · simp (disch := omega) only [up_p, hq]; exact hb i hi
    · simp (disch := omega) only [up_k, up_eq, hq]
  obtain ⟨μ3, k1, k2, k3⟩ := R_tokH (d := d + 194) (ρ := ρ) (cs := cs) hρ hR (by simp (disch := omega) only [up_k, up_eq, hq])
  have hz : SR2 μ3 = zt (SR2 μ) := by
    funext a k
    unfold SR2
    by_cases ha : a < 18
    · rw [if_pos ha, k1 _ _ (by omega), up_p (by omega), up_p (by omega), up_p (by omega), up_p (by omega)]
      by_cases a0 : a = 0
      · subst a0
        have e : hfR 0 = 10 := by decide
        rw [e]
        show μ2 101 (10 + k.toNat) = _
        rw [g1 _ _ (by omega)]
        by_cases c : k.toNat < 10
        · rw [zt_0 c, f2 _ (by omega) c]
        · rw [f1 _ _ (by omega)]
          unfold zt
          rw [if_neg (by omega), if_neg (by omega)]
          simp (disch := omega) only [up_p]
          rw [if_pos (by omega), e]
      · by_cases c : (a = 14 ∨ a = 15) ∧ k.toNat < 3
        · have g := g2 (3 + k.toNat) (by omega) (by omega)
          obtain ⟨z1, z2⟩ := zt_14 (Z := SR2 μ) (k := k) c.2
          rcases c.1 with rfl | rfl
          · exact g.1.trans z1.symm
          · exact g.2.trans z2.symm
        · unfold zt
          rw [if_neg (by omega), if_neg c]
          show _ = if a < 18 then μ (101 + a) (hfR a + k.toNat) else 0
          rw [if_pos ha]
          have e : (a = 14 ∨ a = 15) → hfR a = 3 := fun e => by rcases e with rfl | rfl <;> decide
          rw [g1 _ _ (by omega), f1 _ _ (by omega)]
          simp (disch := omega) only [up_p]
    · rw [if_neg ha]
      unfold zt
      rw [if_neg (by omega), if_neg (by omega)]
      show _ = if a < 18 then _ else (0 : Int)
      rw [if_neg ha]
  refine ⟨μ3, fun q k hk => ?_, ⟨?_, ?_⟩, k2, hz, ⟨0, ?_, by decide, fun s hs => by simp, fun k hk => ?_⟩, ?_, ?_, ?_, ?_⟩
  · have e1 : q = 101 → k < 10 := fun e => by
      subst e
      have : hfR (101 - 101) = 10 := by decide
      omega
    have e2 : q = 115 → k < 3 := fun e => by
      subst e
      have : hfR (115 - 101) = 3 := by decide
      omega
    have e3 : q = 116 → k < 3 := fun e => by
      subst e
      have : hfR (116 - 101) = 3 := by decide
      omega
    rw [k1 q k (by omega), am_up_no (by omega), am_up_no (by omega), am_up_no (by omega), am_up_no (by omega), g1 _ _ (by omega), f1 _ _ (by omega), am_up_no (by omega), am_up_no (by omega), am_up_no (by omega), am_up_no (by omega), am_up_no (by omega), am_up_no (by omega)]
  · rw [k1 _ _ (by omega)]; simp (disch := omega) only [up_k, up_eq, hq]
  · rw [k1 _ _ (by omega)]; simp (disch := omega) only [up_k, up_eq, hq]
  · rw [k1 _ _ (by omega)]; simp (disch := omega) only [up_k, up_eq, hq]; rfl
  · obtain ⟨z1, z2⟩ := zt_14 (Z := SR2 μ) (k := (k : Int)) (by omega)
    rw [z1, z2]; simp
  · rw [k1 _ _ (by omega)]; simp (disch := omega) only [up_k, up_eq, hq]
  · rw [k1 _ _ (by omega)]; simp (disch := omega) only [up_k, up_eq, hq]
  · rw [k1 _ _ (by omega)]; simp (disch := omega) only [up_k, up_eq, hq]
  · have e0 : ¬ (n : Int) < 0 := by omega
    simp (disch := (first | omega | (simp (disch := omega) only [sr_up, wr_up_o]; omega))) only [e175_0, e175_40, e175_134, ks_99, ite_self, Bool.false_eq_true, eq_self, isk_t, i20_t, w20_t, l23_t, b21_t, b22_t, w_t, bif_t, bif_f, bif_d, if_pos, if_neg, if_true, if_false, not_true_eq_false, not_false_eq_true, Option.bind_some, Option.toList_some, Option.toList_none, List.cons_append, List.nil_append, Int.toNat_natCast, Int.reduceToNat, up_eq, up_p, up_k, sN,  e0, hn, f3, g3, k3 ]
end RTX
