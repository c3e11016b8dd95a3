/-! TEXT: the reference's expressions: all ranks -/
section RLV
variable {ρ : Nat → Nat → Nat} {g : Nat → Nat → Int} {cs : Nat × Nat × Nat} {n B a : Nat} {b : Nat → Int}
theorem R_lvl (hρ : RM ρ) {l lpo : Int} {mo m dl : Nat} {lvo lv : am_L} (hl : 0 < l ∧ l ≠ 4 ∧ l ≠ 3) (hlp : l < lpo) (hl3 : dl + 1 < 3 ∨ 3 < l) (hdl : dl ≤ 5 ∧ dl ≠ 2) (L : Nat → (Nat → Nat → Int) → Option am_Res)
    (hO : ∀ a', a ≤ a' → SPC g ρ cs b n B (l + 1) lpo mo lvo (dl + 1) a')
    (hOF : ∀ (D : Nat) (μ : Nat → Nat → Int), μ 99 28 ≠ 0 → am_E (D + 7) mo 0 lvo [] (SH, ρ, μ, cs) = some (none, (SH, ρ, μ, cs)))
    (hF : ∀ (D : Nat) (μ : Nat → Nat → Int), μ 99 28 ≠ 0 → L (D + 7) μ = some (none, (SH, ρ, μ, cs)))
    (hstart : ∀ (D : Nat) (μ μ1 : Nat → Nat → Int), am_E (D + 7) mo 0 lvo [] (SH, ρ, μ, cs) = some (none, (SH, ρ, μ1, cs)) → am_E (D + 8) m 0 lv [] (SH, ρ, μ, cs) = L (D + 7) μ1)
    (hstop : ∀ (D : Nat) (μ : Nat → Nat → Int) (a : Nat), RH μ b n a → rnk (tok b n a).1 ≠ l → L (D + 7) μ = some (none, (SH, ρ, μ, cs)))
    (hgo : ∀ (D : Nat) (μ μ1 μ2 μ3 μ4 : Nat → Nat → Int) (a : Nat), RH μ b n a → rnk (tok b n a).1 = l → am_E (D + 7) 167 0 [some (.inr (.inr 99))] [] (SH, ρ, μ, cs) = some (none, (SH, ρ, μ1, cs)) → am_E (D + 7) 152 0 [some (.inr (.inr 99))] [] (SH, ρ, μ1, cs) = some (none, (SH, ρ, μ2, cs)) → am_E (D + 7) mo 0 lvo [] (SH, ρ, μ2, cs) = some (none, (SH, ρ, μ3, cs)) → am_E (D + 7) 166 0 [some (.inr (.inr 99)), some (.inl 2), some (.inl (ksg (tok b n a).1))] [] (SH, ρ, μ3, cs) = some (none, (SH, ρ, μ4, cs)) → ∀ res, L (D + 7) μ4 = some res → L (D + 7) μ = some res) : SPC g ρ cs b n B l l m lv dl a := by
  intro D st op kn o μ hD ha h hE hV hG ht h20
  have hD0 := hD
  unfold dN at hD0
  obtain ⟨d, rfl⟩ : ∃ d, D = d + 8 := ⟨D - 8, by omega⟩
  obtain ⟨μ1, f1, f2, f3⟩ := hO a (Nat.le_refl _) (d + 7) st op kn o μ (by omega) ha h hE hV hG (by omega) (fun e => by
    rcases hl3 with q | q
    · exact Or.inl q
    · rcases h20 e with z | z
      · by_cases c : dl + 1 < 3
        · exact Or.inl c
        · omega
      · exact Or.inr z)
  have hs := hstart d μ μ1 f3
  rcases f2 with ⟨q, z1, z2⟩ | ⟨a', τ, kn', o', z1, z2, z3, z4, z5, z6, z7, z8⟩
  · have hne : μ1 99 28 ≠ 0 := by rw [z1.1]; exact z1.2.2
    exact ⟨μ1, f1, Or.inl ⟨q, z1, z2⟩, hs.trans (hF d μ1 hne)⟩
  · obtain ⟨μ2, w1, w2, w3⟩ := R_bin (D := d + 7) hρ hl hlp hl3 (by omega) (L (d + 7)) a (fun a' ha' => hO a' (by omega)) (hOF d) (hF d) (hstop d) (hgo d) (sy b n a true (st, op, kn, o)) st op kn (by omega) hG ht n a' τ kn' o' μ1 (by omega) z1.1 z1.2 z2 z3 z4 (fun k hk => by have := z5 k hk; omega) z6 z7 z8
    exact ⟨μ2, fe_tr f1 w1, w2, hs.trans w3⟩
theorem rnk_6 {k : Int} : rnk k = 6 ↔ k = 30 ∨ k = 31 := by
  unfold rnk
  repeat' split
  all_goals omega
theorem rnk_5 {k : Int} : rnk k = 5 ↔ k = 28 ∨ k = 29 := by
  unfold rnk
  repeat' split
  all_goals omega
theorem rnk_4 {k : Int} : rnk k = 4 ↔ 32 ≤ k ∧ k ≤ 37 := by
  unfold rnk
  repeat' split
  all_goals omega
theorem rnk_2 {k : Int} : rnk k = 2 ↔ k = 21 := by
  unfold rnk
  repeat' split
  all_goals omega
theorem rnk_1 {k : Int} : rnk k = 1 ↔ k = 22 := by
  unfold rnk
  repeat' split
  all_goals omega
theorem R_prod (hρ : RM ρ) (hO : ∀ a', a ≤ a' → SPC g ρ cs b n B 7 7 173 [some (.inr (.inr 99)), none] 5 a') : SPC g ρ cs b n B 6 6 172 [some (.inr (.inr 99)), none] 4 a := by
  refine R_lvl (l := 6) (lpo := 7) hρ (by decide) (by decide) (Or.inr (by decide)) (by decide) (fun d μ => am_E (d + 1) 172 4 [some (.inr (.inr 99)), none] [] (SH, ρ, μ, cs)) hO (fun D μ h => R_primF (d := D + 6) h) (fun D μ h => R_prodF4 (d := D + 6) h) ?_ ?_ ?_
  · intro D μ μ1 h1
    simp (disch := (first | omega | (simp (disch := omega) only [sr_up, wr_up_o]; omega))) only [e172_0, ks_99, ite_self, Bool.false_eq_true, eq_self, isk_t, i20_t, w20_t, l23_t, b21_t, b22_t, w_t, bif_t, bif_f, bif_d, if_pos, if_neg, if_true, if_false, not_true_eq_false, not_false_eq_true, Option.bind_some, Option.toList_some, Option.toList_none, List.cons_append, List.nil_append, Int.toNat_natCast, Int.reduceToNat, up_eq, up_p, up_k, sN,  h1 ]
  · intro D μ a h c
    have i1 := fun d => R_isS (ρ := ρ) (cs := cs) (d := d) h (w := 42) (k := 30) s42 (by omega)
    have i2 := fun d => R_isS (ρ := ρ) (cs := cs) (d := d) h (w := 47) (k := 31) s47 (by omega)
    have hne : ¬ ((tok b n a).1 = 30 ∨ (tok b n a).1 = 31) := fun e => c (rnk_6.mpr e)
    rw [if_neg (by omega)] at i1 i2
    have i1 : ∀ d, am_E d 151 0 [some (.inr (.inr 99)), some (.inl 42)] [] (SH, ρ, μ, cs) = some (some (.inl 0), (SH, ρ, μ, cs)) := i1
    have i2 : ∀ d, am_E d 151 0 [some (.inr (.inr 99)), some (.inl 47)] [] (SH, ρ, μ, cs) = some (some (.inl 0), (SH, ρ, μ, cs)) := i2
    rw [e172_4]; simp (disch := (first | omega | (simp (disch := omega) only [sr_up, wr_up_o]; omega))) only [e172_10, e172_19, ks_99, ite_self, Bool.false_eq_true, eq_self, isk_t, i20_t, w20_t, l23_t, b21_t, b22_t, w_t, bif_t, bif_f, bif_d, if_pos, if_neg, if_true, if_false, not_true_eq_false, not_false_eq_true, Option.bind_some, Option.toList_some, Option.toList_none, List.cons_append, List.nil_append, Int.toNat_natCast, Int.reduceToNat, up_eq, up_p, up_k, sN,  i1, i2 ]
  · intro D μ μ1 μ2 μ3 μ4 a h c k1 k2 k3 k4 res hr
    have hr2 : ∀ x1 : Int, am_E (D + 8) 172 4 [some (.inr (.inr 99)), some (.inl x1)] [] (SH, ρ, μ4, cs) = some res := fun x1 => am_E_le (am_lq_of _ _ (by simp [am_leb])) hr
    have i1 := fun d => R_isS (ρ := ρ) (cs := cs) (d := d) h (w := 42) (k := 30) s42 (by omega)
    have i2 := fun d => R_isS (ρ := ρ) (cs := cs) (d := d) h (w := 47) (k := 31) s47 (by omega)
    have e := rnk_6.mp c
    have v := (h.2.1.2.2.2.2.1 (by omega) (by omega)).2
    by_cases e1 : (tok b n a).1 = 30
    · rw [if_pos e1] at i1
      have i1 : ∀ d, am_E d 151 0 [some (.inr (.inr 99)), some (.inl 42)] [] (SH, ρ, μ, cs) = some (some (.inl 1), (SH, ρ, μ, cs)) := i1
      have v : μ 99 27 = 42 := by rw [v, e1]; rfl
      have k4 : am_E (D + 7) 166 0 [some (.inr (.inr 99)), some (.inl 2), some (.inl 42)] [] (SH, ρ, μ3, cs) = some (none, (SH, ρ, μ4, cs)) := by rw [e1] at k4; exact k4
      rw [e172_4]; simp (disch := (first | omega | (simp (disch := omega) only [sr_up, wr_up_o]; omega))) only [e172_10, e172_31, e172_35, e172_39, e172_45, ks_99, ite_self, Bool.false_eq_true, eq_self, isk_t, i20_t, w20_t, l23_t, b21_t, b22_t, w_t, bif_t, bif_f, bif_d, if_pos, if_neg, if_true, if_false, not_true_eq_false, not_false_eq_true, Option.bind_some, Option.toList_some, Option.toList_none, List.cons_append, List.nil_append, Int.toNat_natCast, Int.reduceToNat, up_eq, up_p, up_k, sN,  i1, v, k1, k2, k3, k4, hr2 ]
    · have e2 : (tok b n a).1 = 31 := by omega
      rw [if_neg e1] at i1
      rw [if_pos e2] at i2
      have i1 : ∀ d, am_E d 151 0 [some (.inr (.inr 99)), some (.inl 42)] [] (SH, ρ, μ, cs) = some (some (.inl 0), (SH, ρ, μ, cs)) := i1
      have i2 : ∀ d, am_E d 151 0 [some (.inr (.inr 99)), some (.inl 47)] [] (SH, ρ, μ, cs) = some (some (.inl 1), (SH, ρ, μ, cs)) := i2
      have v : μ 99 27 = 47 := by rw [v, e2]; rfl
      have k4 : am_E (D + 7) 166 0 [some (.inr (.inr 99)), some (.inl 2), some (.inl 47)] [] (SH, ρ, μ3, cs) = some (none, (SH, ρ, μ4, cs)) := by rw [e2] at k4; exact k4
      rw [e172_4]; simp (disch := (first | omega | (simp (disch := omega) only [sr_up, wr_up_o]; omega))) only [e172_10, e172_19, e172_31, e172_35, e172_39, e172_45, ks_99, ite_self, Bool.false_eq_true, eq_self, isk_t, i20_t, w20_t, l23_t, b21_t, b22_t, w_t, bif_t, bif_f, bif_d, if_pos, if_neg, if_true, if_false, not_true_eq_false, not_false_eq_true, Option.bind_some, Option.toList_some, Option.toList_none, List.cons_append, List.nil_append, Int.toNat_natCast, Int.reduceToNat, up_eq, up_p, up_k, sN,  i1, i2, v, k1, k2, k3, k4, hr2 ]
theorem R_sum (hρ : RM ρ) (hO : ∀ a', a ≤ a' → SPC g ρ cs b n B 6 6 172 [some (.inr (.inr 99)), none] 4 a') : SPC g ρ cs b n B 5 5 171 [some (.inr (.inr 99)), none] 3 a := by
  refine R_lvl (l := 5) (lpo := 6) hρ (by decide) (by decide) (Or.inr (by decide)) (by decide) (fun d μ => am_E (d + 1) 171 4 [some (.inr (.inr 99)), none] [] (SH, ρ, μ, cs)) hO (fun D μ h => R_prodF (d := D + 5) h) (fun D μ h => R_sumF4 (d := D + 5) h) ?_ ?_ ?_
  · intro D μ μ1 h1
    simp (disch := (first | omega | (simp (disch := omega) only [sr_up, wr_up_o]; omega))) only [e171_0, ks_99, ite_self, Bool.false_eq_true, eq_self, isk_t, i20_t, w20_t, l23_t, b21_t, b22_t, w_t, bif_t, bif_f, bif_d, if_pos, if_neg, if_true, if_false, not_true_eq_false, not_false_eq_true, Option.bind_some, Option.toList_some, Option.toList_none, List.cons_append, List.nil_append, Int.toNat_natCast, Int.reduceToNat, up_eq, up_p, up_k, sN,  h1 ]
  · intro D μ a h c
    have i1 := fun d => R_isS (ρ := ρ) (cs := cs) (d := d) h (w := 43) (k := 28) s43 (by omega)
    have i2 := fun d => R_isS (ρ := ρ) (cs := cs) (d := d) h (w := 45) (k := 29) s45 (by omega)
    have hne : ¬ ((tok b n a).1 = 28 ∨ (tok b n a).1 = 29) := fun e => c (rnk_5.mpr e)
    rw [if_neg (by omega)] at i1 i2
    have i1 : ∀ d, am_E d 151 0 [some (.inr (.inr 99)), some (.inl 43)] [] (SH, ρ, μ, cs) = some (some (.inl 0), (SH, ρ, μ, cs)) := i1
    have i2 : ∀ d, am_E d 151 0 [some (.inr (.inr 99)), some (.inl 45)] [] (SH, ρ, μ, cs) = some (some (.inl 0), (SH, ρ, μ, cs)) := i2
    rw [e171_4]; simp (disch := (first | omega | (simp (disch := omega) only [sr_up, wr_up_o]; omega))) only [e171_10, e171_19, ks_99, ite_self, Bool.false_eq_true, eq_self, isk_t, i20_t, w20_t, l23_t, b21_t, b22_t, w_t, bif_t, bif_f, bif_d, if_pos, if_neg, if_true, if_false, not_true_eq_false, not_false_eq_true, Option.bind_some, Option.toList_some, Option.toList_none, List.cons_append, List.nil_append, Int.toNat_natCast, Int.reduceToNat, up_eq, up_p, up_k, sN,  i1, i2 ]
  · intro D μ μ1 μ2 μ3 μ4 a h c k1 k2 k3 k4 res hr
    have hr2 : ∀ x1 : Int, am_E (D + 8) 171 4 [some (.inr (.inr 99)), some (.inl x1)] [] (SH, ρ, μ4, cs) = some res := fun x1 => am_E_le (am_lq_of _ _ (by simp [am_leb])) hr
    have i1 := fun d => R_isS (ρ := ρ) (cs := cs) (d := d) h (w := 43) (k := 28) s43 (by omega)
    have i2 := fun d => R_isS (ρ := ρ) (cs := cs) (d := d) h (w := 45) (k := 29) s45 (by omega)
    have e := rnk_5.mp c
    have v := (h.2.1.2.2.2.2.1 (by omega) (by omega)).2
    by_cases e1 : (tok b n a).1 = 28
    · rw [if_pos e1] at i1
      have i1 : ∀ d, am_E d 151 0 [some (.inr (.inr 99)), some (.inl 43)] [] (SH, ρ, μ, cs) = some (some (.inl 1), (SH, ρ, μ, cs)) := i1
      have v : μ 99 27 = 43 := by rw [v, e1]; rfl
      have k4 : am_E (D + 7) 166 0 [some (.inr (.inr 99)), some (.inl 2), some (.inl 43)] [] (SH, ρ, μ3, cs) = some (none, (SH, ρ, μ4, cs)) := by rw [e1] at k4; exact k4
      rw [e171_4]; simp (disch := (first | omega | (simp (disch := omega) only [sr_up, wr_up_o]; omega))) only [e171_10, e171_31, e171_35, e171_39, e171_45, ks_99, ite_self, Bool.false_eq_true, eq_self, isk_t, i20_t, w20_t, l23_t, b21_t, b22_t, w_t, bif_t, bif_f, bif_d, if_pos, if_neg, if_true, if_false, not_true_eq_false, not_false_eq_true, Option.bind_some, Option.toList_some, Option.toList_none, List.cons_append, List.nil_append, Int.toNat_natCast, Int.reduceToNat, up_eq, up_p, up_k, sN,  i1, v, k1, k2, k3, k4, hr2 ]
    · have e2 : (tok b n a).1 = 29 := by omega
      rw [if_neg e1] at i1
      rw [if_pos e2] at i2
      have i1 : ∀ d, am_E d 151 0 [some (.inr (.inr 99)), some (.inl 43)] [] (SH, ρ, μ, cs) = some (some (.inl 0), (SH, ρ, μ, cs)) := i1
      have i2 : ∀ d, am_E d 151 0 [some (.inr (.inr 99)), some (.inl 45)] [] (SH, ρ, μ, cs) = some (some (.inl 1), (SH, ρ, μ, cs)) := i2
      have v : μ 99 27 = 45 := by rw [v, e2]; rfl
      have k4 : am_E (D + 7) 166 0 [some (.inr (.inr 99)), some (.inl 2), some (.inl 45)] [] (SH, ρ, μ3, cs) = some (none, (SH, ρ, μ4, cs)) := by rw [e2] at k4; exact k4
      rw [e171_4]; simp (disch := (first | omega | (simp (disch := omega) only [sr_up, wr_up_o]; omega))) only [e171_10, e171_19, e171_31, e171_35, e171_39, e171_45, ks_99, ite_self, Bool.false_eq_true, eq_self, isk_t, i20_t, w20_t, l23_t, b21_t, b22_t, w_t, bif_t, bif_f, bif_d, if_pos, if_neg, if_true, if_false, not_true_eq_false, not_false_eq_true, Option.bind_some, Option.toList_some, Option.toList_none, List.cons_append, List.nil_append, Int.toNat_natCast, Int.reduceToNat, up_eq, up_p, up_k, sN,  i1, i2, v, k1, k2, k3, k4, hr2 ]
theorem R_conj (hρ : RM ρ) (hO : ∀ a', a ≤ a' → SPC g ρ cs b n B 3 4 170 [some (.inr (.inr 99)), none] 2 a') : SPC g ρ cs b n B 2 2 169 [some (.inr (.inr 99))] 1 a := by
  refine R_lvl (l := 2) (lpo := 4) hρ (by decide) (by decide) (Or.inl (by decide)) (by decide) (fun d μ => am_E (d + 1) 169 4 [some (.inr (.inr 99))] [] (SH, ρ, μ, cs)) hO (fun D μ h => R_negF (d := D + 3) h) (fun D μ h => R_conjF4 (d := D + 3) h) ?_ ?_ ?_
  · intro D μ μ1 h1
    simp (disch := (first | omega | (simp (disch := omega) only [sr_up, wr_up_o]; omega))) only [e169_0, ks_99, ite_self, Bool.false_eq_true, eq_self, isk_t, i20_t, w20_t, l23_t, b21_t, b22_t, w_t, bif_t, bif_f, bif_d, if_pos, if_neg, if_true, if_false, not_true_eq_false, not_false_eq_true, Option.bind_some, Option.toList_some, Option.toList_none, List.cons_append, List.nil_append, Int.toNat_natCast, Int.reduceToNat, up_eq, up_p, up_k, sN,  h1 ]
  · intro D μ a h c
    have i1 := fun d => R_isW (ρ := ρ) (cs := cs) (d := d) h (w := 14) (k := 21) w14 (by omega)
    rw [if_neg (fun e => c (rnk_2.mpr e))] at i1
    have i1 : ∀ d, am_E d 150 0 [some (.inr (.inr 99)), some (.inl 14)] [] (SH, ρ, μ, cs) = some (some (.inl 0), (SH, ρ, μ, cs)) := i1
    rw [e169_4]; simp (disch := (first | omega | (simp (disch := omega) only [sr_up, wr_up_o]; omega))) only [e169_10, ks_99, ite_self, Bool.false_eq_true, eq_self, isk_t, i20_t, w20_t, l23_t, b21_t, b22_t, w_t, bif_t, bif_f, bif_d, if_pos, if_neg, if_true, if_false, not_true_eq_false, not_false_eq_true, Option.bind_some, Option.toList_some, Option.toList_none, List.cons_append, List.nil_append, Int.toNat_natCast, Int.reduceToNat, up_eq, up_p, up_k, sN,  i1 ]
  · intro D μ μ1 μ2 μ3 μ4 a h c k1 k2 k3 k4 res hr
    have i1 := fun d => R_isW (ρ := ρ) (cs := cs) (d := d) h (w := 14) (k := 21) w14 (by omega)
    have e := rnk_2.mp c
    rw [if_pos e] at i1
    have i1 : ∀ d, am_E d 150 0 [some (.inr (.inr 99)), some (.inl 14)] [] (SH, ρ, μ, cs) = some (some (.inl 1), (SH, ρ, μ, cs)) := i1
    have k4 : am_E (D + 7) 166 0 [some (.inr (.inr 99)), some (.inl 2), some (.inl 261)] [] (SH, ρ, μ3, cs) = some (none, (SH, ρ, μ4, cs)) := by rw [e] at k4; exact k4
    have hr : am_E (D + 8) 169 4 [some (.inr (.inr 99))] [] (SH, ρ, μ4, cs) = some res := hr
    rw [e169_4]; simp (disch := (first | omega | (simp (disch := omega) only [sr_up, wr_up_o]; omega))) only [e169_10, e169_17, e169_21, e169_25, e169_33, ks_99, ite_self, Bool.false_eq_true, eq_self, isk_t, i20_t, w20_t, l23_t, b21_t, b22_t, w_t, bif_t, bif_f, bif_d, if_pos, if_neg, if_true, if_false, not_true_eq_false, not_false_eq_true, Option.bind_some, Option.toList_some, Option.toList_none, List.cons_append, List.nil_append, Int.toNat_natCast, Int.reduceToNat, up_eq, up_p, up_k, sN,  i1, k1, k2, k3, k4, hr ]
theorem R_expr (hρ : RM ρ) (hO : ∀ a', a ≤ a' → SPC g ρ cs b n B 2 2 169 [some (.inr (.inr 99))] 1 a') : SPC g ρ cs b n B 1 1 168 [some (.inr (.inr 99))] 0 a := by
  refine R_lvl (l := 1) (lpo := 2) hρ (by decide) (by decide) (Or.inl (by decide)) (by decide) (fun d μ => am_E (d + 1) 168 4 [some (.inr (.inr 99))] [] (SH, ρ, μ, cs)) hO (fun D μ h => R_conjF (d := D + 2) h) (fun D μ h => R_exprF4 (d := D + 2) h) ?_ ?_ ?_
  · intro D μ μ1 h1
    simp (disch := (first | omega | (simp (disch := omega) only [sr_up, wr_up_o]; omega))) only [e168_0, ks_99, ite_self, Bool.false_eq_true, eq_self, isk_t, i20_t, w20_t, l23_t, b21_t, b22_t, w_t, bif_t, bif_f, bif_d, if_pos, if_neg, if_true, if_false, not_true_eq_false, not_false_eq_true, Option.bind_some, Option.toList_some, Option.toList_none, List.cons_append, List.nil_append, Int.toNat_natCast, Int.reduceToNat, up_eq, up_p, up_k, sN,  h1 ]
  · intro D μ a h c
    have i1 := fun d => R_isW (ρ := ρ) (cs := cs) (d := d) h (w := 13) (k := 22) w13 (by omega)
    rw [if_neg (fun e => c (rnk_1.mpr e))] at i1
    have i1 : ∀ d, am_E d 150 0 [some (.inr (.inr 99)), some (.inl 13)] [] (SH, ρ, μ, cs) = some (some (.inl 0), (SH, ρ, μ, cs)) := i1
    rw [e168_4]; simp (disch := (first | omega | (simp (disch := omega) only [sr_up, wr_up_o]; omega))) only [e168_10, ks_99, ite_self, Bool.false_eq_true, eq_self, isk_t, i20_t, w20_t, l23_t, b21_t, b22_t, w_t, bif_t, bif_f, bif_d, if_pos, if_neg, if_true, if_false, not_true_eq_false, not_false_eq_true, Option.bind_some, Option.toList_some, Option.toList_none, List.cons_append, List.nil_append, Int.toNat_natCast, Int.reduceToNat, up_eq, up_p, up_k, sN,  i1 ]
  · intro D μ μ1 μ2 μ3 μ4 a h c k1 k2 k3 k4 res hr
    have i1 := fun d => R_isW (ρ := ρ) (cs := cs) (d := d) h (w := 13) (k := 22) w13 (by omega)
    have e := rnk_1.mp c
    rw [if_pos e] at i1
    have i1 : ∀ d, am_E d 150 0 [some (.inr (.inr 99)), some (.inl 13)] [] (SH, ρ, μ, cs) = some (some (.inl 1), (SH, ρ, μ, cs)) := i1
    have k4 : am_E (D + 7) 166 0 [some (.inr (.inr 99)), some (.inl 2), some (.inl 262)] [] (SH, ρ, μ3, cs) = some (none, (SH, ρ, μ4, cs)) := by rw [e] at k4; exact k4
    have hr : am_E (D + 8) 168 4 [some (.inr (.inr 99))] [] (SH, ρ, μ4, cs) = some res := hr
    rw [e168_4]; simp (disch := (first | omega | (simp (disch := omega) only [sr_up, wr_up_o]; omega))) only [e168_10, e168_17, e168_21, e168_25, e168_33, ks_99, ite_self, Bool.false_eq_true, eq_self, isk_t, i20_t, w20_t, l23_t, b21_t, b22_t, w_t, bif_t, bif_f, bif_d, if_pos, if_neg, if_true, if_false, not_true_eq_false, not_false_eq_true, Option.bind_some, Option.toList_some, Option.toList_none, List.cons_append, List.nil_append, Int.toNat_natCast, Int.reduceToNat, up_eq, up_p, up_k, sN,  i1, k1, k2, k3, k4, hr ]
end RLV
