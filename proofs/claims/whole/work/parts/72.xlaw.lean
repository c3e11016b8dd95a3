/-! THE CLASS: a law's value -/
def jv (o : Option Int) : Int := match o with
  | none => -9223372036854775808
  | some v => v
theorem mul_iff {x y : Int} (hy : y ≠ 0) : (Int.tdiv 1000000000000 (y.natAbs : Int) < (x.natAbs : Int)) ↔ (x ≠ 0 ∧ Int.tdiv LG (x.natAbs : Int) < (y.natAbs : Int)) := by
  have e1 : Int.tdiv 1000000000000 (y.natAbs : Int) = ((1000000000000 / y.natAbs : Nat) : Int) := rfl
  have e2 : Int.tdiv LG (x.natAbs : Int) = ((1000000000000 / x.natAbs : Nat) : Int) := rfl
  rw [e1, e2]
  have hy2 : 0 < y.natAbs := by omega
  have a1 := Nat.div_lt_iff_lt_mul (x := 1000000000000) (y := x.natAbs) hy2
  constructor
  · intro h
    have h1 : 1000000000000 < x.natAbs * y.natAbs := a1.mp (by omega)
    have hx : x ≠ 0 := by
      intro g
      subst g
      simp at h1
    have hx2 : 0 < x.natAbs := by omega
    have a2 := Nat.div_lt_iff_lt_mul (x := 1000000000000) (y := y.natAbs) hx2
    have h2 := a2.mpr (by rw [Nat.mul_comm]; exact h1)
    exact ⟨hx, by omega⟩
  · rintro ⟨hx, h⟩
    have hx2 : 0 < x.natAbs := by omega
    have a2 := Nat.div_lt_iff_lt_mul (x := 1000000000000) (y := y.natAbs) hx2
    have h1 := a2.mp (by omega)
    have h2 := a1.mpr (by rw [Nat.mul_comm]; exact h1)
    omega
theorem mul_bd2 {x y : Int} (h : ¬ (x ≠ 0 ∧ Int.tdiv LG (x.natAbs : Int) < (y.natAbs : Int))) : -1000000000000 ≤ x * y ∧ x * y ≤ 1000000000000 := by
  by_cases hx : x = 0
  · subst hx; simp
  · refine mul_bd hx ?_
    have : ¬ Int.tdiv LG (x.natAbs : Int) < (y.natAbs : Int) := fun g => h ⟨hx, g⟩
    unfold LG at this
    omega
theorem lnk_64 : am_lnk (23, 64) = true := rfl
section XJ
variable {ρ : Nat → Nat → Nat} {μ : Nat → Nat → Int} {cs : Nat × Nat × Nat} {d : Nat}
theorem X_join30 {x y : Int} (hx0 : -1000000000000 ≤ x) (hx1 : x ≤ 1000000000000) (hy0 : -1000000000000 ≤ y) (hy1 : y ≤ 1000000000000) : am_E d 15 0 [some (.inl 30), some (.inr (.inl x)), none, some (.inr (.inl y)), none, none] [] (SH, ρ, μ, cs) = some (some (.inr (.inl (jv (op2 42 x y)))), (SH, ρ, μ, cs)) := by
  have hq : (Int.tdiv 1000000000000 (y.natAbs : Int)).natAbs ≤ 1000000000000 := tdiv_abs 1000000000000 (y.natAbs : Int)
  have e : op2 42 x y = (if x ≠ 0 ∧ Int.tdiv LG (Int.natAbs x) < (Int.natAbs y : Int) then none else some (x * y)) := rfl
  rw [e]
  by_cases y0 : y = 0
  · subst y0
    rw [if_neg (by rintro ⟨h1, h2⟩; have : 0 ≤ Int.tdiv LG (x.natAbs : Int) := Int.tdiv_nonneg (by decide) (by omega); simp at h2; omega)]
    simp (disch := omega) only [e15_0, e15_1_c30, Bool.false_eq_true, eq_self, isk_t, i20_t, w20_t, l23_t, b21_t, b22_t, w_t, bif_t, bif_f, bif_d, if_pos, if_neg, if_true, if_false, not_true_eq_false, not_false_eq_true, Option.bind_some, Option.toList_some, Option.toList_none, List.cons_append, List.nil_append, Int.toNat_natCast, Int.reduceToNat, up_eq, up_p, up_k, sN,  lc_gt, lc_lt, lc_eq, lc_le, lc_ge, w64_t, Int.mul_zero ]
    all_goals rfl
  · have hi := mul_iff (x := x) y0
    by_cases c : x ≠ 0 ∧ Int.tdiv LG (Int.natAbs x) < (Int.natAbs y : Int)
    · have c2 := hi.mpr c
      rw [if_pos c]
      rcases (show (0 < y ∧ (y.natAbs : Int) = y) ∨ (y < 0 ∧ (y.natAbs : Int) = -y) by omega) with ⟨s1, s2⟩ | ⟨s1, s2⟩ <;> rw [s2] at c2 hq <;> rcases (show (0 ≤ x ∧ (x.natAbs : Int) = x) ∨ (x < 0 ∧ (x.natAbs : Int) = -x) by omega) with ⟨r1, r2⟩ | ⟨r1, r2⟩ <;> rw [r2] at c2
      · simp (disch := omega) only [e15_0, e15_1_c30, Bool.false_eq_true, eq_self, isk_t, i20_t, w20_t, l23_t, b21_t, b22_t, w_t, bif_t, bif_f, bif_d, if_pos, if_neg, if_true, if_false, not_true_eq_false, not_false_eq_true, Option.bind_some, Option.toList_some, Option.toList_none, List.cons_append, List.nil_append, Int.toNat_natCast, Int.reduceToNat, up_eq, up_p, up_k, sN,  lc_gt, lc_lt, lc_eq, lc_le, lc_ge, w64_t, ne_eq ]
        all_goals rfl
      · simp (disch := omega) only [e15_0, e15_1_c30, Bool.false_eq_true, eq_self, isk_t, i20_t, w20_t, l23_t, b21_t, b22_t, w_t, bif_t, bif_f, bif_d, if_pos, if_neg, if_true, if_false, not_true_eq_false, not_false_eq_true, Option.bind_some, Option.toList_some, Option.toList_none, List.cons_append, List.nil_append, Int.toNat_natCast, Int.reduceToNat, up_eq, up_p, up_k, sN,  lc_gt, lc_lt, lc_eq, lc_le, lc_ge, w64_t, ne_eq ]
        all_goals rfl
      · simp (disch := omega) only [e15_0, e15_1_c30, Bool.false_eq_true, eq_self, isk_t, i20_t, w20_t, l23_t, b21_t, b22_t, w_t, bif_t, bif_f, bif_d, if_pos, if_neg, if_true, if_false, not_true_eq_false, not_false_eq_true, Option.bind_some, Option.toList_some, Option.toList_none, List.cons_append, List.nil_append, Int.toNat_natCast, Int.reduceToNat, up_eq, up_p, up_k, sN,  lc_gt, lc_lt, lc_eq, lc_le, lc_ge, w64_t, ne_eq ]
        all_goals rfl
      · simp (disch := omega) only [e15_0, e15_1_c30, Bool.false_eq_true, eq_self, isk_t, i20_t, w20_t, l23_t, b21_t, b22_t, w_t, bif_t, bif_f, bif_d, if_pos, if_neg, if_true, if_false, not_true_eq_false, not_false_eq_true, Option.bind_some, Option.toList_some, Option.toList_none, List.cons_append, List.nil_append, Int.toNat_natCast, Int.reduceToNat, up_eq, up_p, up_k, sN,  lc_gt, lc_lt, lc_eq, lc_le, lc_ge, w64_t, ne_eq ]
        all_goals rfl
    · have c2 := fun g => c (hi.mp g)
      have hb := mul_bd2 c
      rw [if_neg c]
      rcases (show (0 < y ∧ (y.natAbs : Int) = y) ∨ (y < 0 ∧ (y.natAbs : Int) = -y) by omega) with ⟨s1, s2⟩ | ⟨s1, s2⟩ <;> rw [s2] at c2 hq <;> rcases (show (0 ≤ x ∧ (x.natAbs : Int) = x) ∨ (x < 0 ∧ (x.natAbs : Int) = -x) by omega) with ⟨r1, r2⟩ | ⟨r1, r2⟩ <;> rw [r2] at c2
      · simp (disch := omega) only [e15_0, e15_1_c30, Bool.false_eq_true, eq_self, isk_t, i20_t, w20_t, l23_t, b21_t, b22_t, w_t, bif_t, bif_f, bif_d, if_pos, if_neg, if_true, if_false, not_true_eq_false, not_false_eq_true, Option.bind_some, Option.toList_some, Option.toList_none, List.cons_append, List.nil_append, Int.toNat_natCast, Int.reduceToNat, up_eq, up_p, up_k, sN,  lc_gt, lc_lt, lc_eq, lc_le, lc_ge, w64_t, ne_eq ]
        all_goals rfl
      · simp (disch := omega) only [e15_0, e15_1_c30, Bool.false_eq_true, eq_self, isk_t, i20_t, w20_t, l23_t, b21_t, b22_t, w_t, bif_t, bif_f, bif_d, if_pos, if_neg, if_true, if_false, not_true_eq_false, not_false_eq_true, Option.bind_some, Option.toList_some, Option.toList_none, List.cons_append, List.nil_append, Int.toNat_natCast, Int.reduceToNat, up_eq, up_p, up_k, sN,  lc_gt, lc_lt, lc_eq, lc_le, lc_ge, w64_t, ne_eq ]
        all_goals rfl
      · simp (disch := omega) only [e15_0, e15_1_c30, Bool.false_eq_true, eq_self, isk_t, i20_t, w20_t, l23_t, b21_t, b22_t, w_t, bif_t, bif_f, bif_d, if_pos, if_neg, if_true, if_false, not_true_eq_false, not_false_eq_true, Option.bind_some, Option.toList_some, Option.toList_none, List.cons_append, List.nil_append, Int.toNat_natCast, Int.reduceToNat, up_eq, up_p, up_k, sN,  lc_gt, lc_lt, lc_eq, lc_le, lc_ge, w64_t, ne_eq ]
        all_goals rfl
      · simp (disch := omega) only [e15_0, e15_1_c30, Bool.false_eq_true, eq_self, isk_t, i20_t, w20_t, l23_t, b21_t, b22_t, w_t, bif_t, bif_f, bif_d, if_pos, if_neg, if_true, if_false, not_true_eq_false, not_false_eq_true, Option.bind_some, Option.toList_some, Option.toList_none, List.cons_append, List.nil_append, Int.toNat_natCast, Int.reduceToNat, up_eq, up_p, up_k, sN,  lc_gt, lc_lt, lc_eq, lc_le, lc_ge, w64_t, ne_eq ]
        all_goals rfl
theorem X_join {s c x y : Int} (hk : KC s c) (hs : s ≠ 260) (hx0 : -1000000000000 ≤ x) (hx1 : x ≤ 1000000000000) (hy0 : -1000000000000 ≤ y) (hy1 : y ≤ 1000000000000) : am_E d 15 0 [some (.inl c), some (.inr (.inl x)), none, some (.inr (.inl y)), none, none] [] (SH, ρ, μ, cs) = some (some (.inr (.inl (jv (op2 s x y)))), (SH, ρ, μ, cs)) := by
  have hq := tdiv_abs x y
  unfold KC at hk
  rcases hk with ⟨rfl, rfl⟩ | ⟨rfl, rfl⟩ | ⟨rfl, rfl⟩ | ⟨rfl, rfl⟩ | ⟨rfl, rfl⟩ | ⟨rfl, rfl⟩ | ⟨rfl, rfl⟩ | ⟨rfl, rfl⟩ | ⟨rfl, rfl⟩ | ⟨rfl, rfl⟩ | ⟨rfl, rfl⟩ | ⟨rfl, rfl⟩ | ⟨rfl, rfl⟩
  · simp (disch := omega) only [e15_0, e15_1_c28, Bool.false_eq_true, eq_self, isk_t, i20_t, w20_t, l23_t, b21_t, b22_t, w_t, bif_t, bif_f, bif_d, if_pos, if_neg, if_true, if_false, not_true_eq_false, not_false_eq_true, Option.bind_some, Option.toList_some, Option.toList_none, List.cons_append, List.nil_append, Int.toNat_natCast, Int.reduceToNat, up_eq, up_p, up_k, sN,  lc_gt, lc_lt, lc_eq, lc_le, lc_ge, w64_t ]
    all_goals rfl
  · simp (disch := omega) only [e15_0, e15_1_c29, Bool.false_eq_true, eq_self, isk_t, i20_t, w20_t, l23_t, b21_t, b22_t, w_t, bif_t, bif_f, bif_d, if_pos, if_neg, if_true, if_false, not_true_eq_false, not_false_eq_true, Option.bind_some, Option.toList_some, Option.toList_none, List.cons_append, List.nil_append, Int.toNat_natCast, Int.reduceToNat, up_eq, up_p, up_k, sN,  lc_gt, lc_lt, lc_eq, lc_le, lc_ge, w64_t ]
    all_goals rfl
  · exact X_join30 hx0 hx1 hy0 hy1
  · rw [show op2 47 x y = (if y = 0 then none else some (Int.tdiv x y)) from rfl]
    by_cases q : y = 0
    · simp (disch := omega) only [e15_0, e15_1_c31, Bool.false_eq_true, eq_self, isk_t, i20_t, w20_t, l23_t, b21_t, b22_t, w_t, bif_t, bif_f, bif_d, if_pos, if_neg, if_true, if_false, not_true_eq_false, not_false_eq_true, Option.bind_some, Option.toList_some, Option.toList_none, List.cons_append, List.nil_append, Int.toNat_natCast, Int.reduceToNat, up_eq, up_p, up_k, sN,  lc_gt, lc_lt, lc_eq, lc_le, lc_ge, w64_t ]
      all_goals rfl
    · simp (disch := omega) only [e15_0, e15_1_c31, Bool.false_eq_true, eq_self, isk_t, i20_t, w20_t, l23_t, b21_t, b22_t, w_t, bif_t, bif_f, bif_d, if_pos, if_neg, if_true, if_false, not_true_eq_false, not_false_eq_true, Option.bind_some, Option.toList_some, Option.toList_none, List.cons_append, List.nil_append, Int.toNat_natCast, Int.reduceToNat, up_eq, up_p, up_k, sN,  lc_gt, lc_lt, lc_eq, lc_le, lc_ge, w64_t, ne_eq ]
      all_goals rfl
  · rw [show op2 60 x y = some (if x < y then 1 else 0) from rfl]
    by_cases q : x < y
    · simp (disch := omega) only [e15_0, e15_1_c32, Bool.false_eq_true, eq_self, isk_t, i20_t, w20_t, l23_t, b21_t, b22_t, w_t, bif_t, bif_f, bif_d, if_pos, if_neg, if_true, if_false, not_true_eq_false, not_false_eq_true, Option.bind_some, Option.toList_some, Option.toList_none, List.cons_append, List.nil_append, Int.toNat_natCast, Int.reduceToNat, up_eq, up_p, up_k, sN,  lc_gt, lc_lt, lc_eq, lc_le, lc_ge, w64_t ]
      all_goals rfl
    · simp (disch := omega) only [e15_0, e15_1_c32, Bool.false_eq_true, eq_self, isk_t, i20_t, w20_t, l23_t, b21_t, b22_t, w_t, bif_t, bif_f, bif_d, if_pos, if_neg, if_true, if_false, not_true_eq_false, not_false_eq_true, Option.bind_some, Option.toList_some, Option.toList_none, List.cons_append, List.nil_append, Int.toNat_natCast, Int.reduceToNat, up_eq, up_p, up_k, sN,  lc_gt, lc_lt, lc_eq, lc_le, lc_ge, w64_t ]
      all_goals rfl
  · rw [show op2 256 x y = some (if x ≤ y then 1 else 0) from rfl]
    by_cases q : x ≤ y
    · simp (disch := omega) only [e15_0, e15_1_c33, Bool.false_eq_true, eq_self, isk_t, i20_t, w20_t, l23_t, b21_t, b22_t, w_t, bif_t, bif_f, bif_d, if_pos, if_neg, if_true, if_false, not_true_eq_false, not_false_eq_true, Option.bind_some, Option.toList_some, Option.toList_none, List.cons_append, List.nil_append, Int.toNat_natCast, Int.reduceToNat, up_eq, up_p, up_k, sN,  lc_gt, lc_lt, lc_eq, lc_le, lc_ge, w64_t ]
      all_goals rfl
    · simp (disch := omega) only [e15_0, e15_1_c33, Bool.false_eq_true, eq_self, isk_t, i20_t, w20_t, l23_t, b21_t, b22_t, w_t, bif_t, bif_f, bif_d, if_pos, if_neg, if_true, if_false, not_true_eq_false, not_false_eq_true, Option.bind_some, Option.toList_some, Option.toList_none, List.cons_append, List.nil_append, Int.toNat_natCast, Int.reduceToNat, up_eq, up_p, up_k, sN,  lc_gt, lc_lt, lc_eq, lc_le, lc_ge, w64_t ]
      all_goals rfl
  · rw [show op2 61 x y = some (if x = y then 1 else 0) from rfl]
    by_cases q : x = y
    · simp (disch := omega) only [e15_0, e15_1_c34, Bool.false_eq_true, eq_self, isk_t, i20_t, w20_t, l23_t, b21_t, b22_t, w_t, bif_t, bif_f, bif_d, if_pos, if_neg, if_true, if_false, not_true_eq_false, not_false_eq_true, Option.bind_some, Option.toList_some, Option.toList_none, List.cons_append, List.nil_append, Int.toNat_natCast, Int.reduceToNat, up_eq, up_p, up_k, sN,  lc_gt, lc_lt, lc_eq, lc_le, lc_ge, w64_t ]
      all_goals rfl
    · simp (disch := omega) only [e15_0, e15_1_c34, Bool.false_eq_true, eq_self, isk_t, i20_t, w20_t, l23_t, b21_t, b22_t, w_t, bif_t, bif_f, bif_d, if_pos, if_neg, if_true, if_false, not_true_eq_false, not_false_eq_true, Option.bind_some, Option.toList_some, Option.toList_none, List.cons_append, List.nil_append, Int.toNat_natCast, Int.reduceToNat, up_eq, up_p, up_k, sN,  lc_gt, lc_lt, lc_eq, lc_le, lc_ge, w64_t ]
      all_goals rfl
  · rw [show op2 257 x y = some (if x ≠ y then 1 else 0) from rfl]
    by_cases q : x = y
    · simp (disch := omega) only [e15_0, e15_1_c35, Bool.false_eq_true, eq_self, isk_t, i20_t, w20_t, l23_t, b21_t, b22_t, w_t, bif_t, bif_f, bif_d, if_pos, if_neg, if_true, if_false, not_true_eq_false, not_false_eq_true, Option.bind_some, Option.toList_some, Option.toList_none, List.cons_append, List.nil_append, Int.toNat_natCast, Int.reduceToNat, up_eq, up_p, up_k, sN,  lc_gt, lc_lt, lc_eq, lc_le, lc_ge, w64_t, ne_eq ]
      all_goals rfl
    · simp (disch := omega) only [e15_0, e15_1_c35, Bool.false_eq_true, eq_self, isk_t, i20_t, w20_t, l23_t, b21_t, b22_t, w_t, bif_t, bif_f, bif_d, if_pos, if_neg, if_true, if_false, not_true_eq_false, not_false_eq_true, Option.bind_some, Option.toList_some, Option.toList_none, List.cons_append, List.nil_append, Int.toNat_natCast, Int.reduceToNat, up_eq, up_p, up_k, sN,  lc_gt, lc_lt, lc_eq, lc_le, lc_ge, w64_t, ne_eq ]
      all_goals rfl
  · rw [show op2 258 x y = some (if x ≥ y then 1 else 0) from rfl]
    by_cases q : y ≤ x
    · simp (disch := omega) only [e15_0, e15_1_c36, Bool.false_eq_true, eq_self, isk_t, i20_t, w20_t, l23_t, b21_t, b22_t, w_t, bif_t, bif_f, bif_d, if_pos, if_neg, if_true, if_false, not_true_eq_false, not_false_eq_true, Option.bind_some, Option.toList_some, Option.toList_none, List.cons_append, List.nil_append, Int.toNat_natCast, Int.reduceToNat, up_eq, up_p, up_k, sN,  lc_gt, lc_lt, lc_eq, lc_le, lc_ge, w64_t, ge_iff_le ]
      all_goals rfl
    · simp (disch := omega) only [e15_0, e15_1_c36, Bool.false_eq_true, eq_self, isk_t, i20_t, w20_t, l23_t, b21_t, b22_t, w_t, bif_t, bif_f, bif_d, if_pos, if_neg, if_true, if_false, not_true_eq_false, not_false_eq_true, Option.bind_some, Option.toList_some, Option.toList_none, List.cons_append, List.nil_append, Int.toNat_natCast, Int.reduceToNat, up_eq, up_p, up_k, sN,  lc_gt, lc_lt, lc_eq, lc_le, lc_ge, w64_t, ge_iff_le ]
      all_goals rfl
  · rw [show op2 62 x y = some (if x > y then 1 else 0) from rfl]
    by_cases q : y < x
    · simp (disch := omega) only [e15_0, e15_1_c37, Bool.false_eq_true, eq_self, isk_t, i20_t, w20_t, l23_t, b21_t, b22_t, w_t, bif_t, bif_f, bif_d, if_pos, if_neg, if_true, if_false, not_true_eq_false, not_false_eq_true, Option.bind_some, Option.toList_some, Option.toList_none, List.cons_append, List.nil_append, Int.toNat_natCast, Int.reduceToNat, up_eq, up_p, up_k, sN,  lc_gt, lc_lt, lc_eq, lc_le, lc_ge, w64_t, gt_iff_lt ]
      all_goals rfl
    · simp (disch := omega) only [e15_0, e15_1_c37, Bool.false_eq_true, eq_self, isk_t, i20_t, w20_t, l23_t, b21_t, b22_t, w_t, bif_t, bif_f, bif_d, if_pos, if_neg, if_true, if_false, not_true_eq_false, not_false_eq_true, Option.bind_some, Option.toList_some, Option.toList_none, List.cons_append, List.nil_append, Int.toNat_natCast, Int.reduceToNat, up_eq, up_p, up_k, sN,  lc_gt, lc_lt, lc_eq, lc_le, lc_ge, w64_t, gt_iff_lt ]
      all_goals rfl
  · exact absurd rfl hs
  · rw [show op2 261 x y = some (if x ≠ 0 ∧ y ≠ 0 then 1 else 0) from rfl]
    by_cases q : x = 0
    · simp (disch := omega) only [e15_0, e15_1_c21, Bool.false_eq_true, eq_self, isk_t, i20_t, w20_t, l23_t, b21_t, b22_t, w_t, bif_t, bif_f, bif_d, if_pos, if_neg, if_true, if_false, not_true_eq_false, not_false_eq_true, Option.bind_some, Option.toList_some, Option.toList_none, List.cons_append, List.nil_append, Int.toNat_natCast, Int.reduceToNat, up_eq, up_p, up_k, sN,  lc_gt, lc_lt, lc_eq, lc_le, lc_ge, w64_t ]
      all_goals rfl
    · by_cases q2 : y = 0
      · simp (disch := omega) only [e15_0, e15_1_c21, Bool.false_eq_true, eq_self, isk_t, i20_t, w20_t, l23_t, b21_t, b22_t, w_t, bif_t, bif_f, bif_d, if_pos, if_neg, if_true, if_false, not_true_eq_false, not_false_eq_true, Option.bind_some, Option.toList_some, Option.toList_none, List.cons_append, List.nil_append, Int.toNat_natCast, Int.reduceToNat, up_eq, up_p, up_k, sN,  lc_gt, lc_lt, lc_eq, lc_le, lc_ge, w64_t ]
        all_goals rfl
      · simp (disch := omega) only [e15_0, e15_1_c21, Bool.false_eq_true, eq_self, isk_t, i20_t, w20_t, l23_t, b21_t, b22_t, w_t, bif_t, bif_f, bif_d, if_pos, if_neg, if_true, if_false, not_true_eq_false, not_false_eq_true, Option.bind_some, Option.toList_some, Option.toList_none, List.cons_append, List.nil_append, Int.toNat_natCast, Int.reduceToNat, up_eq, up_p, up_k, sN,  lc_gt, lc_lt, lc_eq, lc_le, lc_ge, w64_t ]
        all_goals rfl
  · rw [show op2 262 x y = some (if x ≠ 0 ∨ y ≠ 0 then 1 else 0) from rfl]
    by_cases q : x = 0
    · by_cases q2 : y = 0
      · simp (disch := omega) only [e15_0, e15_1_c22, Bool.false_eq_true, eq_self, isk_t, i20_t, w20_t, l23_t, b21_t, b22_t, w_t, bif_t, bif_f, bif_d, if_pos, if_neg, if_true, if_false, not_true_eq_false, not_false_eq_true, Option.bind_some, Option.toList_some, Option.toList_none, List.cons_append, List.nil_append, Int.toNat_natCast, Int.reduceToNat, up_eq, up_p, up_k, sN,  lc_gt, lc_lt, lc_eq, lc_le, lc_ge, w64_t ]
        all_goals rfl
      · simp (disch := omega) only [e15_0, e15_1_c22, Bool.false_eq_true, eq_self, isk_t, i20_t, w20_t, l23_t, b21_t, b22_t, w_t, bif_t, bif_f, bif_d, if_pos, if_neg, if_true, if_false, not_true_eq_false, not_false_eq_true, Option.bind_some, Option.toList_some, Option.toList_none, List.cons_append, List.nil_append, Int.toNat_natCast, Int.reduceToNat, up_eq, up_p, up_k, sN,  lc_gt, lc_lt, lc_eq, lc_le, lc_ge, w64_t ]
        all_goals rfl
    · simp (disch := omega) only [e15_0, e15_1_c22, Bool.false_eq_true, eq_self, isk_t, i20_t, w20_t, l23_t, b21_t, b22_t, w_t, bif_t, bif_f, bif_d, if_pos, if_neg, if_true, if_false, not_true_eq_false, not_false_eq_true, Option.bind_some, Option.toList_some, Option.toList_none, List.cons_append, List.nil_append, Int.toNat_natCast, Int.reduceToNat, up_eq, up_p, up_k, sN,  lc_gt, lc_lt, lc_eq, lc_le, lc_ge, w64_t ]
      all_goals rfl
theorem jv_rng {o : Option Int} {v : Int} (h : opB o = some v) : jv o = v ∧ v ≤ 1000000000000 ∧ -1000000000000 ≤ v := by
  cases o with
  | none => cases h
  | some z =>
    have h2 : (if z ≤ LG ∧ -LG ≤ z then some z else none) = some v := h
    by_cases q : z ≤ LG ∧ -LG ≤ z
    · rw [if_pos q] at h2
      cases h2
      unfold LG at q
      exact ⟨rfl, q⟩
    · rw [if_neg q] at h2
      cases h2
theorem jv_out {o : Option Int} (h : opB o = none) : 1000000000000 < jv o ∨ jv o < -1000000000000 := by
  cases o with
  | none => right; decide
  | some z =>
    have h2 : (if z ≤ LG ∧ -LG ≤ z then some z else none) = none := h
    by_cases q : z ≤ LG ∧ -LG ≤ z
    · rw [if_pos q] at h2
      cases h2
    · unfold LG at q
      show 1000000000000 < z ∨ z < -1000000000000
      omega
def stx (μ : Nat → Nat → Int) : Nat → List Int
  | 0 => []
  | n + 1 => μ 75 n :: stx μ n
theorem stx_c {μ μ' : Nat → Nat → Int} : ∀ {n : Nat}, (∀ i, i < n → μ' 75 i = μ 75 i) → stx μ' n = stx μ n
  | 0, _ => rfl
  | n + 1, h => by
    show μ' 75 n :: stx μ' n = μ 75 n :: stx μ n
    rw [h n (by omega), stx_c (fun i hi => h i (by omega))]
theorem stx_up {μ : Nat → Nat → Int} {m : Nat} {v : Int} : stx (am_up μ 75 m v) (m + 1) = v :: stx μ m := by
  show am_up μ 75 m v 75 m :: stx (am_up μ 75 m v) m = _
  rw [up_eq, stx_c (fun i hi => up_k (by omega))]
end XJ
section XWORTH
variable {ρ : Nat → Nat → Nat} {cs : Nat × Nat × Nat} {d : Nat} {b : Nat}
theorem X_worth_loop (hx : XM ρ) (hb : b = 2 ∨ b = 21) (hst : ρ 73 0 = b) {S : MS} {f : Int → Int} {r : Int} (hr0 : 0 ≤ r) (hr : r < 3) (hf : ∀ i, 0 ≤ i → i < 7 → -1000000000000 ≤ f i ∧ f i ≤ 1000000000000) : ∀ (j : Nat) (k : Int) (m : Nat) (μ : Nat → Nat → Int), XS μ b S → (∀ i : Int, 0 ≤ i → i < 7 → μ 74 i.toNat = f i) → m + j ≤ 64 → k + j = S 15 r → 0 ≤ k → S 14 r ≤ k → k + j ≤ 64 → wfK S j k m → (∀ i : Nat, i < m → -1000000000000 ≤ μ 75 i ∧ μ 75 i ≤ 1000000000000) →
    ∃ μ', (∀ q i, q ≠ 75 → μ' q i = μ q i) ∧ am_E (d + 2) 14 18 [some (.inr (.inr 73)), some (.inl r), some (.inr (.inr (b + 14))), some (.inl (m : Int)), some (.inl k), none, none, none] [] (SH, ρ, μ, cs) = some (some (.inr (.inl (jv ((evK S f j k (stx μ m)).bind (fun l => l.head?))))), (SH, ρ, μ', cs)) := by
  intro j
  induction j with
  | zero =>
    intro k m μ hS hn hm hk hk0 hk1 hk64 hw hbd
    have e1 := (hS.2.2.2.2.2.2.1 r hr0 hr).2
    have hm1 : m = 1 := hw
    subst hm1
    refine ⟨μ, fun _ _ _ => rfl, ?_⟩
    rw [e14_18]; simp (disch := omega) only [hst, xk_0, xk_1, xk_40, xk_41, xk_42, xk_43, xk_44, xk_45, xk_46, xk_47, xk_48, xk_49, xk_50, xk_51, xk_52, xk_53, xk_54, xk_55, xk_56, xk_57, xk_58, xk_59, xk_60, xk_61, xk_62, xk_63, xk_64, xk_65, xk_66, xk_67, xk_68, xk_69, xk_70, xk_71, xk_72, xk_73, xk_74, xk_75, xk_76, xk_77, xk_78, xk_79, xk_80, xk_81, xk_82, xk_83, xk_84, xk_85, xk_86, xk_87, xk_88, xk_89, xk_90, xk_91, xk_92, xk_93, xk_94, xk_95, xk_96, xk_97, xk_98, xk_st0 hb, xk_st1 hb, xk_st10 hb, xk_st11 hb, xk_st12 hb, xk_st13 hb, xk_st14 hb, xk_st15 hb, xk_st16 hb, xk_st17 hb, xk_st18 hb, xk_st2 hb, xk_st3 hb, xk_st4 hb, xk_st5 hb, xk_st6 hb, xk_st7 hb, xk_st8 hb, xk_st9 hb, xm_0_0 hx, xm_0_10 hx, xm_0_11 hx, xm_0_12 hx, xm_0_13 hx, xm_0_14 hx, xm_0_15 hx, xm_0_2 hx, xm_0_5 hx, xm_0_6 hx, xm_0_7 hx, xm_0_9 hx, xm_40_0 hx, xm_40_1 hx, xm_41_0 hx, xm_44_0 hx, xm_44_1 hx, xm_73_4 hx, xm_73_5 hx, xm_73_6 hx, xm_77_1 hx, xm_77_2 hx, xm_77_3 hx, xm_77_4 hx, xm_77_5 hx, xm_77_6 hx, xm_77_7 hx, xm_77_8 hx, xm_77_9 hx, xm_87_2 hx, xm_87_3 hx, xm_87_4 hx, xm_87_5 hx, xm_87_6 hx, xm_87_7 hx, xm_87_8 hx, xm_lw2 hx hb, xm_lw3 hx hb, xm_lw4 hx hb, xm_lw5 hx hb, xm_st1 hx hb, xm_st10 hx hb, xm_st11 hx hb, xm_st13 hx hb, xm_st14 hx hb, xm_st15 hx hb, xm_st16 hx hb, xm_st17 hx hb, xm_st2 hx hb, xm_st4 hx hb, xm_st5 hx hb, xm_st6 hx hb, xm_st7 hx hb, xm_st9 hx hb, Bool.false_eq_true, eq_self, isk_t, i20_t, w20_t, l23_t, b21_t, b22_t, w_t, bif_t, bif_f, bif_d, if_pos, if_neg, if_true, if_false, not_true_eq_false, not_false_eq_true, Option.bind_some, Option.toList_some, Option.toList_none, List.cons_append, List.nil_append, Int.toNat_natCast, Int.reduceToNat, up_eq, up_p, up_k, sN,  e1 ]
    all_goals rfl
  | succ j ih =>
    intro k m μ hS hn hm hk hk0 hk1 hk64 hw hbd
    have e1 := (hS.2.2.2.2.2.2.1 r hr0 hr).2
    have e2 := hS.2.2.2.2.2.2.2 r k hr0 hr hk1 (by omega)
    have hup : ∀ (i : Nat) (v : Int), XS (am_up μ 75 i v) b S := fun i v => xs_fr hS (fun q k h0 h1 => up_p (by omega))
    have hnu : ∀ (i : Nat) (v : Int), (∀ i' : Int, 0 ≤ i' → i' < 7 → am_up μ 75 i v 74 i'.toNat = f i') := fun i v i' h0 h1 => by rw [up_p (by omega)]; exact hn i' h0 h1
    have hfr : ∀ (i : Nat) (v : Int) (μ' : Nat → Nat → Int), (∀ q i', q ≠ 75 → μ' q i' = am_up μ 75 i v q i') → (∀ q i, q ≠ 75 → μ' q i = μ q i) := fun i v μ' h q i' hq => by rw [h q i' hq, up_p hq]
    have hbu : ∀ (m' : Nat) (v : Int), m' ≤ m → -1000000000000 ≤ v → v ≤ 1000000000000 → (∀ i : Nat, i < m' + 1 → -1000000000000 ≤ am_up μ 75 m' v 75 i ∧ am_up μ 75 m' v 75 i ≤ 1000000000000) := fun m' v hm' v0 v1 i hi => by
      by_cases q : i = m'
      · subst q; rw [up_eq]; omega
      · rw [up_k q]; exact hbd i (by omega)
    rcases hw with ⟨c1, c2, c3, c4⟩ | ⟨c1, c2, c3, c4⟩ | ⟨c1, c4⟩
    · obtain ⟨m, rfl⟩ : ∃ n, m = n + 1 := ⟨m - 1, by omega⟩
      have hk := e2.2.2 c1
      rw [c2] at hk
      have hc : μ (b + 15) k.toNat = 20 := by unfold KC at hk; omega
      have ev : evK S f (j + 1) k (stx μ (m + 1)) = evK S f j (k + 1) ((if μ 75 m = 0 then 1 else 0) :: stx μ m) := by
        show (if S 16 k = 2 then (opK (S 17 k) (μ 75 m :: stx μ m)).bind _ else _) = _
        rw [if_pos c1, c2, opK_N]
        all_goals rfl
      rw [ev]
      have hi : (((m + 1 : Nat) : Int) + -1).toNat = m := by omega
      by_cases q : μ 75 m = 0
      · rw [if_pos q]
        obtain ⟨μ', g1, g2⟩ := ih (k + 1) (m + 1) (am_up μ 75 m 1) (hup m 1) (hnu m 1) (by omega) (by omega) (by omega) (by omega) (by omega) c4 (hbu m 1 (by omega) (by omega) (by omega))
        rw [stx_up] at g2
        refine ⟨μ', hfr m 1 μ' g1, ?_⟩
        rw [e14_18]; simp (disch := omega) only [hst, xk_0, xk_1, xk_40, xk_41, xk_42, xk_43, xk_44, xk_45, xk_46, xk_47, xk_48, xk_49, xk_50, xk_51, xk_52, xk_53, xk_54, xk_55, xk_56, xk_57, xk_58, xk_59, xk_60, xk_61, xk_62, xk_63, xk_64, xk_65, xk_66, xk_67, xk_68, xk_69, xk_70, xk_71, xk_72, xk_73, xk_74, xk_75, xk_76, xk_77, xk_78, xk_79, xk_80, xk_81, xk_82, xk_83, xk_84, xk_85, xk_86, xk_87, xk_88, xk_89, xk_90, xk_91, xk_92, xk_93, xk_94, xk_95, xk_96, xk_97, xk_98, xk_st0 hb, xk_st1 hb, xk_st10 hb, xk_st11 hb, xk_st12 hb, xk_st13 hb, xk_st14 hb, xk_st15 hb, xk_st16 hb, xk_st17 hb, xk_st18 hb, xk_st2 hb, xk_st3 hb, xk_st4 hb, xk_st5 hb, xk_st6 hb, xk_st7 hb, xk_st8 hb, xk_st9 hb, xm_0_0 hx, xm_0_10 hx, xm_0_11 hx, xm_0_12 hx, xm_0_13 hx, xm_0_14 hx, xm_0_15 hx, xm_0_2 hx, xm_0_5 hx, xm_0_6 hx, xm_0_7 hx, xm_0_9 hx, xm_40_0 hx, xm_40_1 hx, xm_41_0 hx, xm_44_0 hx, xm_44_1 hx, xm_73_4 hx, xm_73_5 hx, xm_73_6 hx, xm_77_1 hx, xm_77_2 hx, xm_77_3 hx, xm_77_4 hx, xm_77_5 hx, xm_77_6 hx, xm_77_7 hx, xm_77_8 hx, xm_77_9 hx, xm_87_2 hx, xm_87_3 hx, xm_87_4 hx, xm_87_5 hx, xm_87_6 hx, xm_87_7 hx, xm_87_8 hx, xm_lw2 hx hb, xm_lw3 hx hb, xm_lw4 hx hb, xm_lw5 hx hb, xm_st1 hx hb, xm_st10 hx hb, xm_st11 hx hb, xm_st13 hx hb, xm_st14 hx hb, xm_st15 hx hb, xm_st16 hx hb, xm_st17 hx hb, xm_st2 hx hb, xm_st4 hx hb, xm_st5 hx hb, xm_st6 hx hb, xm_st7 hx hb, xm_st9 hx hb, Bool.false_eq_true, eq_self, isk_t, i20_t, w20_t, l23_t, b21_t, b22_t, w_t, bif_t, bif_f, bif_d, if_pos, if_neg, if_true, if_false, not_true_eq_false, not_false_eq_true, Option.bind_some, Option.toList_some, Option.toList_none, List.cons_append, List.nil_append, Int.toNat_natCast, Int.reduceToNat, up_eq, up_p, up_k, sN,  e1, hc, lc_gt, lc_lt, lc_eq, lnk_64, hi, q, Int.add_neg_cancel_right ]
        exact am_E_le (am_lq_of _ _ (by simp [am_leb]; omega)) g2
      · rw [if_neg q]
        obtain ⟨μ', g1, g2⟩ := ih (k + 1) (m + 1) (am_up μ 75 m 0) (hup m 0) (hnu m 0) (by omega) (by omega) (by omega) (by omega) (by omega) c4 (hbu m 0 (by omega) (by omega) (by omega))
        rw [stx_up] at g2
        refine ⟨μ', hfr m 0 μ' g1, ?_⟩
        rw [e14_18]; simp (disch := omega) only [hst, xk_0, xk_1, xk_40, xk_41, xk_42, xk_43, xk_44, xk_45, xk_46, xk_47, xk_48, xk_49, xk_50, xk_51, xk_52, xk_53, xk_54, xk_55, xk_56, xk_57, xk_58, xk_59, xk_60, xk_61, xk_62, xk_63, xk_64, xk_65, xk_66, xk_67, xk_68, xk_69, xk_70, xk_71, xk_72, xk_73, xk_74, xk_75, xk_76, xk_77, xk_78, xk_79, xk_80, xk_81, xk_82, xk_83, xk_84, xk_85, xk_86, xk_87, xk_88, xk_89, xk_90, xk_91, xk_92, xk_93, xk_94, xk_95, xk_96, xk_97, xk_98, xk_st0 hb, xk_st1 hb, xk_st10 hb, xk_st11 hb, xk_st12 hb, xk_st13 hb, xk_st14 hb, xk_st15 hb, xk_st16 hb, xk_st17 hb, xk_st18 hb, xk_st2 hb, xk_st3 hb, xk_st4 hb, xk_st5 hb, xk_st6 hb, xk_st7 hb, xk_st8 hb, xk_st9 hb, xm_0_0 hx, xm_0_10 hx, xm_0_11 hx, xm_0_12 hx, xm_0_13 hx, xm_0_14 hx, xm_0_15 hx, xm_0_2 hx, xm_0_5 hx, xm_0_6 hx, xm_0_7 hx, xm_0_9 hx, xm_40_0 hx, xm_40_1 hx, xm_41_0 hx, xm_44_0 hx, xm_44_1 hx, xm_73_4 hx, xm_73_5 hx, xm_73_6 hx, xm_77_1 hx, xm_77_2 hx, xm_77_3 hx, xm_77_4 hx, xm_77_5 hx, xm_77_6 hx, xm_77_7 hx, xm_77_8 hx, xm_77_9 hx, xm_87_2 hx, xm_87_3 hx, xm_87_4 hx, xm_87_5 hx, xm_87_6 hx, xm_87_7 hx, xm_87_8 hx, xm_lw2 hx hb, xm_lw3 hx hb, xm_lw4 hx hb, xm_lw5 hx hb, xm_st1 hx hb, xm_st10 hx hb, xm_st11 hx hb, xm_st13 hx hb, xm_st14 hx hb, xm_st15 hx hb, xm_st16 hx hb, xm_st17 hx hb, xm_st2 hx hb, xm_st4 hx hb, xm_st5 hx hb, xm_st6 hx hb, xm_st7 hx hb, xm_st9 hx hb, Bool.false_eq_true, eq_self, isk_t, i20_t, w20_t, l23_t, b21_t, b22_t, w_t, bif_t, bif_f, bif_d, if_pos, if_neg, if_true, if_false, not_true_eq_false, not_false_eq_true, Option.bind_some, Option.toList_some, Option.toList_none, List.cons_append, List.nil_append, Int.toNat_natCast, Int.reduceToNat, up_eq, up_p, up_k, sN,  e1, hc, lc_gt, lc_lt, lc_eq, lnk_64, hi, q ]
        exact am_E_le (am_lq_of _ _ (by simp [am_leb]; omega)) g2
    · obtain ⟨m, rfl⟩ : ∃ n, m = n + 2 := ⟨m - 2, by omega⟩
      have hk := e2.2.2 c1
      generalize hcc : μ (b + 15) k.toNat = c at hk
      have hc : c ≠ 24 ∧ c ≠ 13 ∧ c ≠ 20 := by unfold KC at hk; omega
      have b1 := hbd m (by omega)
      have b2 := hbd (m + 1) (by omega)
      have hj := fun d => X_join (ρ := ρ) (μ := μ) (cs := cs) (d := d) (x := μ 75 m) (y := μ 75 (m + 1)) hk c2 b1.1 b1.2 b2.1 b2.2
      have ev : evK S f (j + 1) k (stx μ (m + 2)) = ((opB (op2 (S 17 k) (μ 75 m) (μ 75 (m + 1)))).map (fun v => v :: stx μ m)).bind (fun st => evK S f j (k + 1) st) := by
        show (if S 16 k = 2 then (opK (S 17 k) (μ 75 (m + 1) :: μ 75 m :: stx μ m)).bind _ else _) = _
        rw [if_pos c1, opK_2 c2]
      rw [ev]
      have hi : (((m + 2 : Nat) : Int) + -2).toNat = m := by omega
      have hi2 : (((m + 2 : Nat) : Int) + -2 + 1).toNat = m + 1 := by omega
      have hi3 : (((m + 2 : Nat) : Int) + -2) = (m : Int) := by omega
      have hi4 : ((m : Int) + 1).toNat = m + 1 := by omega
      cases ho : opB (op2 (S 17 k) (μ 75 m) (μ 75 (m + 1))) with
      | none =>
        have hv := jv_out ho
        generalize jv (op2 (S 17 k) (μ 75 m) (μ 75 (m + 1))) = v at hj hv
        refine ⟨μ, fun _ _ _ => rfl, ?_⟩
        by_cases q : 1000000000000 < v
        · rw [e14_18]; simp (disch := omega) only [e14_145, hst, xk_0, xk_1, xk_40, xk_41, xk_42, xk_43, xk_44, xk_45, xk_46, xk_47, xk_48, xk_49, xk_50, xk_51, xk_52, xk_53, xk_54, xk_55, xk_56, xk_57, xk_58, xk_59, xk_60, xk_61, xk_62, xk_63, xk_64, xk_65, xk_66, xk_67, xk_68, xk_69, xk_70, xk_71, xk_72, xk_73, xk_74, xk_75, xk_76, xk_77, xk_78, xk_79, xk_80, xk_81, xk_82, xk_83, xk_84, xk_85, xk_86, xk_87, xk_88, xk_89, xk_90, xk_91, xk_92, xk_93, xk_94, xk_95, xk_96, xk_97, xk_98, xk_st0 hb, xk_st1 hb, xk_st10 hb, xk_st11 hb, xk_st12 hb, xk_st13 hb, xk_st14 hb, xk_st15 hb, xk_st16 hb, xk_st17 hb, xk_st18 hb, xk_st2 hb, xk_st3 hb, xk_st4 hb, xk_st5 hb, xk_st6 hb, xk_st7 hb, xk_st8 hb, xk_st9 hb, xm_0_0 hx, xm_0_10 hx, xm_0_11 hx, xm_0_12 hx, xm_0_13 hx, xm_0_14 hx, xm_0_15 hx, xm_0_2 hx, xm_0_5 hx, xm_0_6 hx, xm_0_7 hx, xm_0_9 hx, xm_40_0 hx, xm_40_1 hx, xm_41_0 hx, xm_44_0 hx, xm_44_1 hx, xm_73_4 hx, xm_73_5 hx, xm_73_6 hx, xm_77_1 hx, xm_77_2 hx, xm_77_3 hx, xm_77_4 hx, xm_77_5 hx, xm_77_6 hx, xm_77_7 hx, xm_77_8 hx, xm_77_9 hx, xm_87_2 hx, xm_87_3 hx, xm_87_4 hx, xm_87_5 hx, xm_87_6 hx, xm_87_7 hx, xm_87_8 hx, xm_lw2 hx hb, xm_lw3 hx hb, xm_lw4 hx hb, xm_lw5 hx hb, xm_st1 hx hb, xm_st10 hx hb, xm_st11 hx hb, xm_st13 hx hb, xm_st14 hx hb, xm_st15 hx hb, xm_st16 hx hb, xm_st17 hx hb, xm_st2 hx hb, xm_st4 hx hb, xm_st5 hx hb, xm_st6 hx hb, xm_st7 hx hb, xm_st9 hx hb, Bool.false_eq_true, eq_self, isk_t, i20_t, w20_t, l23_t, b21_t, b22_t, w_t, bif_t, bif_f, bif_d, if_pos, if_neg, if_true, if_false, not_true_eq_false, not_false_eq_true, Option.bind_some, Option.toList_some, Option.toList_none, List.cons_append, List.nil_append, Int.toNat_natCast, Int.reduceToNat, up_eq, up_p, up_k, sN,  e1, hcc, lc_gt, lc_lt, lc_eq, lnk_64, hi, hi2, hj ]
          all_goals rfl
        · rw [e14_18]; simp (disch := omega) only [e14_145, hst, xk_0, xk_1, xk_40, xk_41, xk_42, xk_43, xk_44, xk_45, xk_46, xk_47, xk_48, xk_49, xk_50, xk_51, xk_52, xk_53, xk_54, xk_55, xk_56, xk_57, xk_58, xk_59, xk_60, xk_61, xk_62, xk_63, xk_64, xk_65, xk_66, xk_67, xk_68, xk_69, xk_70, xk_71, xk_72, xk_73, xk_74, xk_75, xk_76, xk_77, xk_78, xk_79, xk_80, xk_81, xk_82, xk_83, xk_84, xk_85, xk_86, xk_87, xk_88, xk_89, xk_90, xk_91, xk_92, xk_93, xk_94, xk_95, xk_96, xk_97, xk_98, xk_st0 hb, xk_st1 hb, xk_st10 hb, xk_st11 hb, xk_st12 hb, xk_st13 hb, xk_st14 hb, xk_st15 hb, xk_st16 hb, xk_st17 hb, xk_st18 hb, xk_st2 hb, xk_st3 hb, xk_st4 hb, xk_st5 hb, xk_st6 hb, xk_st7 hb, xk_st8 hb, xk_st9 hb, xm_0_0 hx, xm_0_10 hx, xm_0_11 hx, xm_0_12 hx, xm_0_13 hx, xm_0_14 hx, xm_0_15 hx, xm_0_2 hx, xm_0_5 hx, xm_0_6 hx, xm_0_7 hx, xm_0_9 hx, xm_40_0 hx, xm_40_1 hx, xm_41_0 hx, xm_44_0 hx, xm_44_1 hx, xm_73_4 hx, xm_73_5 hx, xm_73_6 hx, xm_77_1 hx, xm_77_2 hx, xm_77_3 hx, xm_77_4 hx, xm_77_5 hx, xm_77_6 hx, xm_77_7 hx, xm_77_8 hx, xm_77_9 hx, xm_87_2 hx, xm_87_3 hx, xm_87_4 hx, xm_87_5 hx, xm_87_6 hx, xm_87_7 hx, xm_87_8 hx, xm_lw2 hx hb, xm_lw3 hx hb, xm_lw4 hx hb, xm_lw5 hx hb, xm_st1 hx hb, xm_st10 hx hb, xm_st11 hx hb, xm_st13 hx hb, xm_st14 hx hb, xm_st15 hx hb, xm_st16 hx hb, xm_st17 hx hb, xm_st2 hx hb, xm_st4 hx hb, xm_st5 hx hb, xm_st6 hx hb, xm_st7 hx hb, xm_st9 hx hb, Bool.false_eq_true, eq_self, isk_t, i20_t, w20_t, l23_t, b21_t, b22_t, w_t, bif_t, bif_f, bif_d, if_pos, if_neg, if_true, if_false, not_true_eq_false, not_false_eq_true, Option.bind_some, Option.toList_some, Option.toList_none, List.cons_append, List.nil_append, Int.toNat_natCast, Int.reduceToNat, up_eq, up_p, up_k, sN,  e1, hcc, lc_gt, lc_lt, lc_eq, lnk_64, hi, hi2, hj ]
          all_goals rfl
      | some v =>
        have hv := jv_rng ho
        rw [hv.1] at hj
        obtain ⟨μ', g1, g2⟩ := ih (k + 1) (m + 1) (am_up μ 75 m v) (hup m v) (hnu m v) (by omega) (by omega) (by omega) (by omega) (by omega) c4 (hbu m v (by omega) (by omega) (by omega))
        rw [stx_up] at g2
        refine ⟨μ', hfr m v μ' g1, ?_⟩
        have e3 : ((Option.map (fun v => v :: stx μ m) (some v)).bind fun st => evK S f j (k + 1) st) = evK S f j (k + 1) (v :: stx μ m) := rfl
        rw [e3]
        have e4 : ((m + 1 : Nat) : Int) = (m : Int) + 1 := by omega
        rw [e4] at g2
        rw [e14_18]; simp (disch := omega) only [e14_145, hst, xk_0, xk_1, xk_40, xk_41, xk_42, xk_43, xk_44, xk_45, xk_46, xk_47, xk_48, xk_49, xk_50, xk_51, xk_52, xk_53, xk_54, xk_55, xk_56, xk_57, xk_58, xk_59, xk_60, xk_61, xk_62, xk_63, xk_64, xk_65, xk_66, xk_67, xk_68, xk_69, xk_70, xk_71, xk_72, xk_73, xk_74, xk_75, xk_76, xk_77, xk_78, xk_79, xk_80, xk_81, xk_82, xk_83, xk_84, xk_85, xk_86, xk_87, xk_88, xk_89, xk_90, xk_91, xk_92, xk_93, xk_94, xk_95, xk_96, xk_97, xk_98, xk_st0 hb, xk_st1 hb, xk_st10 hb, xk_st11 hb, xk_st12 hb, xk_st13 hb, xk_st14 hb, xk_st15 hb, xk_st16 hb, xk_st17 hb, xk_st18 hb, xk_st2 hb, xk_st3 hb, xk_st4 hb, xk_st5 hb, xk_st6 hb, xk_st7 hb, xk_st8 hb, xk_st9 hb, xm_0_0 hx, xm_0_10 hx, xm_0_11 hx, xm_0_12 hx, xm_0_13 hx, xm_0_14 hx, xm_0_15 hx, xm_0_2 hx, xm_0_5 hx, xm_0_6 hx, xm_0_7 hx, xm_0_9 hx, xm_40_0 hx, xm_40_1 hx, xm_41_0 hx, xm_44_0 hx, xm_44_1 hx, xm_73_4 hx, xm_73_5 hx, xm_73_6 hx, xm_77_1 hx, xm_77_2 hx, xm_77_3 hx, xm_77_4 hx, xm_77_5 hx, xm_77_6 hx, xm_77_7 hx, xm_77_8 hx, xm_77_9 hx, xm_87_2 hx, xm_87_3 hx, xm_87_4 hx, xm_87_5 hx, xm_87_6 hx, xm_87_7 hx, xm_87_8 hx, xm_lw2 hx hb, xm_lw3 hx hb, xm_lw4 hx hb, xm_lw5 hx hb, xm_st1 hx hb, xm_st10 hx hb, xm_st11 hx hb, xm_st13 hx hb, xm_st14 hx hb, xm_st15 hx hb, xm_st16 hx hb, xm_st17 hx hb, xm_st2 hx hb, xm_st4 hx hb, xm_st5 hx hb, xm_st6 hx hb, xm_st7 hx hb, xm_st9 hx hb, Bool.false_eq_true, eq_self, isk_t, i20_t, w20_t, l23_t, b21_t, b22_t, w_t, bif_t, bif_f, bif_d, if_pos, if_neg, if_true, if_false, not_true_eq_false, not_false_eq_true, Option.bind_some, Option.toList_some, Option.toList_none, List.cons_append, List.nil_append, Int.toNat_natCast, Int.reduceToNat, up_eq, up_p, up_k, sN,  e1, hcc, lc_gt, lc_lt, lc_eq, lnk_64, hi3, hi4, hj ]
        exact am_E_le (am_lq_of _ _ (by simp [am_leb])) g2
    · rcases c1 with ⟨a1, a2, a3⟩ | ⟨a1, a2, a3⟩
      · have hc := e2.1 a1
        have ev : evK S f (j + 1) k (stx μ m) = evK S f j (k + 1) (S 17 k :: stx μ m) := by
          show (if S 16 k = 2 then _ else evK S f j (k + 1) ((if S 16 k = 0 then S 17 k else f (S 17 k)) :: stx μ m)) = _
          rw [if_neg (by omega), if_pos a1]
        rw [ev]
        obtain ⟨μ', g1, g2⟩ := ih (k + 1) (m + 1) (am_up μ 75 m (S 17 k)) (hup m _) (hnu m _) (by omega) (by omega) (by omega) (by omega) (by omega) c4 (hbu m _ (by omega) (by omega) (by omega))
        rw [stx_up] at g2
        have e4 : ((m + 1 : Nat) : Int) = (m : Int) + 1 := by omega
        rw [e4] at g2
        refine ⟨μ', hfr m _ μ' g1, ?_⟩
        rw [e14_18]; simp (disch := omega) only [hst, xk_0, xk_1, xk_40, xk_41, xk_42, xk_43, xk_44, xk_45, xk_46, xk_47, xk_48, xk_49, xk_50, xk_51, xk_52, xk_53, xk_54, xk_55, xk_56, xk_57, xk_58, xk_59, xk_60, xk_61, xk_62, xk_63, xk_64, xk_65, xk_66, xk_67, xk_68, xk_69, xk_70, xk_71, xk_72, xk_73, xk_74, xk_75, xk_76, xk_77, xk_78, xk_79, xk_80, xk_81, xk_82, xk_83, xk_84, xk_85, xk_86, xk_87, xk_88, xk_89, xk_90, xk_91, xk_92, xk_93, xk_94, xk_95, xk_96, xk_97, xk_98, xk_st0 hb, xk_st1 hb, xk_st10 hb, xk_st11 hb, xk_st12 hb, xk_st13 hb, xk_st14 hb, xk_st15 hb, xk_st16 hb, xk_st17 hb, xk_st18 hb, xk_st2 hb, xk_st3 hb, xk_st4 hb, xk_st5 hb, xk_st6 hb, xk_st7 hb, xk_st8 hb, xk_st9 hb, xm_0_0 hx, xm_0_10 hx, xm_0_11 hx, xm_0_12 hx, xm_0_13 hx, xm_0_14 hx, xm_0_15 hx, xm_0_2 hx, xm_0_5 hx, xm_0_6 hx, xm_0_7 hx, xm_0_9 hx, xm_40_0 hx, xm_40_1 hx, xm_41_0 hx, xm_44_0 hx, xm_44_1 hx, xm_73_4 hx, xm_73_5 hx, xm_73_6 hx, xm_77_1 hx, xm_77_2 hx, xm_77_3 hx, xm_77_4 hx, xm_77_5 hx, xm_77_6 hx, xm_77_7 hx, xm_77_8 hx, xm_77_9 hx, xm_87_2 hx, xm_87_3 hx, xm_87_4 hx, xm_87_5 hx, xm_87_6 hx, xm_87_7 hx, xm_87_8 hx, xm_lw2 hx hb, xm_lw3 hx hb, xm_lw4 hx hb, xm_lw5 hx hb, xm_st1 hx hb, xm_st10 hx hb, xm_st11 hx hb, xm_st13 hx hb, xm_st14 hx hb, xm_st15 hx hb, xm_st16 hx hb, xm_st17 hx hb, xm_st2 hx hb, xm_st4 hx hb, xm_st5 hx hb, xm_st6 hx hb, xm_st7 hx hb, xm_st9 hx hb, Bool.false_eq_true, eq_self, isk_t, i20_t, w20_t, l23_t, b21_t, b22_t, w_t, bif_t, bif_f, bif_d, if_pos, if_neg, if_true, if_false, not_true_eq_false, not_false_eq_true, Option.bind_some, Option.toList_some, Option.toList_none, List.cons_append, List.nil_append, Int.toNat_natCast, Int.reduceToNat, up_eq, up_p, up_k, sN,  e1, hc.1, hc.2, lc_gt, lc_lt, lc_eq, lnk_64 ]
        exact am_E_le (am_lq_of _ _ (by simp [am_leb])) g2
      · have hc := e2.2.1 a1
        have hf2 := hf (S 17 k) a2 a3
        have hn2 := hn (S 17 k) a2 a3
        have ev : evK S f (j + 1) k (stx μ m) = evK S f j (k + 1) (f (S 17 k) :: stx μ m) := by
          show (if S 16 k = 2 then _ else evK S f j (k + 1) ((if S 16 k = 0 then S 17 k else f (S 17 k)) :: stx μ m)) = _
          rw [if_neg (by omega), if_neg (by omega)]
        rw [ev]
        obtain ⟨μ', g1, g2⟩ := ih (k + 1) (m + 1) (am_up μ 75 m (f (S 17 k))) (hup m _) (hnu m _) (by omega) (by omega) (by omega) (by omega) (by omega) c4 (hbu m _ (by omega) (by omega) (by omega))
        rw [stx_up] at g2
        have e4 : ((m + 1 : Nat) : Int) = (m : Int) + 1 := by omega
        rw [e4] at g2
        refine ⟨μ', hfr m _ μ' g1, ?_⟩
        rw [e14_18]; simp (disch := omega) only [hst, xk_0, xk_1, xk_40, xk_41, xk_42, xk_43, xk_44, xk_45, xk_46, xk_47, xk_48, xk_49, xk_50, xk_51, xk_52, xk_53, xk_54, xk_55, xk_56, xk_57, xk_58, xk_59, xk_60, xk_61, xk_62, xk_63, xk_64, xk_65, xk_66, xk_67, xk_68, xk_69, xk_70, xk_71, xk_72, xk_73, xk_74, xk_75, xk_76, xk_77, xk_78, xk_79, xk_80, xk_81, xk_82, xk_83, xk_84, xk_85, xk_86, xk_87, xk_88, xk_89, xk_90, xk_91, xk_92, xk_93, xk_94, xk_95, xk_96, xk_97, xk_98, xk_st0 hb, xk_st1 hb, xk_st10 hb, xk_st11 hb, xk_st12 hb, xk_st13 hb, xk_st14 hb, xk_st15 hb, xk_st16 hb, xk_st17 hb, xk_st18 hb, xk_st2 hb, xk_st3 hb, xk_st4 hb, xk_st5 hb, xk_st6 hb, xk_st7 hb, xk_st8 hb, xk_st9 hb, xm_0_0 hx, xm_0_10 hx, xm_0_11 hx, xm_0_12 hx, xm_0_13 hx, xm_0_14 hx, xm_0_15 hx, xm_0_2 hx, xm_0_5 hx, xm_0_6 hx, xm_0_7 hx, xm_0_9 hx, xm_40_0 hx, xm_40_1 hx, xm_41_0 hx, xm_44_0 hx, xm_44_1 hx, xm_73_4 hx, xm_73_5 hx, xm_73_6 hx, xm_77_1 hx, xm_77_2 hx, xm_77_3 hx, xm_77_4 hx, xm_77_5 hx, xm_77_6 hx, xm_77_7 hx, xm_77_8 hx, xm_77_9 hx, xm_87_2 hx, xm_87_3 hx, xm_87_4 hx, xm_87_5 hx, xm_87_6 hx, xm_87_7 hx, xm_87_8 hx, xm_lw2 hx hb, xm_lw3 hx hb, xm_lw4 hx hb, xm_lw5 hx hb, xm_st1 hx hb, xm_st10 hx hb, xm_st11 hx hb, xm_st13 hx hb, xm_st14 hx hb, xm_st15 hx hb, xm_st16 hx hb, xm_st17 hx hb, xm_st2 hx hb, xm_st4 hx hb, xm_st5 hx hb, xm_st6 hx hb, xm_st7 hx hb, xm_st9 hx hb, Bool.false_eq_true, eq_self, isk_t, i20_t, w20_t, l23_t, b21_t, b22_t, w_t, bif_t, bif_f, bif_d, if_pos, if_neg, if_true, if_false, not_true_eq_false, not_false_eq_true, Option.bind_some, Option.toList_some, Option.toList_none, List.cons_append, List.nil_append, Int.toNat_natCast, Int.reduceToNat, up_eq, up_p, up_k, sN,  e1, hc.1, hc.2, hn2, lc_gt, lc_lt, lc_eq, lnk_64 ]
        exact am_E_le (am_lq_of _ _ (by simp [am_leb])) g2
theorem X_worth (hx : XM ρ) (hb : b = 2 ∨ b = 21) (hst : ρ 73 0 = b) {S : MS} {f : Int → Int} {r : Int} {μ : Nat → Nat → Int} (hS : SI S) (hr0 : 0 ≤ r) (hr : r < 3) (hf : ∀ i, 0 ≤ i → i < 7 → -1000000000000 ≤ f i ∧ f i ≤ 1000000000000) (hX : XS μ b S) (hn : ∀ i : Int, 0 ≤ i → i < 7 → μ 74 i.toNat = f i) :
    ∃ μ', (∀ q i, q ≠ 75 → μ' q i = μ q i) ∧ am_E (d + 2) 14 0 [some (.inr (.inr 73)), some (.inl r), none, none, none, none, none, none] [] (SH, ρ, μ, cs) = some (some (.inr (.inl (jv (lawV S f r)))), (SH, ρ, μ', cs)) := by
  have hbd := hS.2.2.2.2.2.2.2.2.2.2.2.2.2.2.2 r hr0 hr
  have e0 := (hX.2.2.2.2.2.2.1 r hr0 hr).1
  have e1 := (hX.2.2.2.2.2.2.1 r hr0 hr).2
  by_cases q : S 14 r < S 15 r
  · obtain ⟨μ', g1, g2⟩ := X_worth_loop (ρ := ρ) (cs := cs) (d := d) hx hb hst hr0 hr hf (S 15 r - S 14 r).toNat (S 14 r) 0 μ hX hn (by omega) (by omega) hbd.1 (by omega) (by omega) (hbd.2.2.2 q) (fun i hi => by omega)
    refine ⟨μ', g1, ?_⟩
    have e2 : lawV S f r = (evK S f (S 15 r - S 14 r).toNat (S 14 r) []).bind (fun l => l.head?) := if_pos q
    have e3 : stx μ 0 = [] := rfl
    rw [e3, ← e2] at g2
    simp (disch := omega) only [e14_0, hst, xk_0, xk_1, xk_40, xk_41, xk_42, xk_43, xk_44, xk_45, xk_46, xk_47, xk_48, xk_49, xk_50, xk_51, xk_52, xk_53, xk_54, xk_55, xk_56, xk_57, xk_58, xk_59, xk_60, xk_61, xk_62, xk_63, xk_64, xk_65, xk_66, xk_67, xk_68, xk_69, xk_70, xk_71, xk_72, xk_73, xk_74, xk_75, xk_76, xk_77, xk_78, xk_79, xk_80, xk_81, xk_82, xk_83, xk_84, xk_85, xk_86, xk_87, xk_88, xk_89, xk_90, xk_91, xk_92, xk_93, xk_94, xk_95, xk_96, xk_97, xk_98, xk_st0 hb, xk_st1 hb, xk_st10 hb, xk_st11 hb, xk_st12 hb, xk_st13 hb, xk_st14 hb, xk_st15 hb, xk_st16 hb, xk_st17 hb, xk_st18 hb, xk_st2 hb, xk_st3 hb, xk_st4 hb, xk_st5 hb, xk_st6 hb, xk_st7 hb, xk_st8 hb, xk_st9 hb, xm_0_0 hx, xm_0_10 hx, xm_0_11 hx, xm_0_12 hx, xm_0_13 hx, xm_0_14 hx, xm_0_15 hx, xm_0_2 hx, xm_0_5 hx, xm_0_6 hx, xm_0_7 hx, xm_0_9 hx, xm_40_0 hx, xm_40_1 hx, xm_41_0 hx, xm_44_0 hx, xm_44_1 hx, xm_73_4 hx, xm_73_5 hx, xm_73_6 hx, xm_77_1 hx, xm_77_2 hx, xm_77_3 hx, xm_77_4 hx, xm_77_5 hx, xm_77_6 hx, xm_77_7 hx, xm_77_8 hx, xm_77_9 hx, xm_87_2 hx, xm_87_3 hx, xm_87_4 hx, xm_87_5 hx, xm_87_6 hx, xm_87_7 hx, xm_87_8 hx, xm_lw2 hx hb, xm_lw3 hx hb, xm_lw4 hx hb, xm_lw5 hx hb, xm_st1 hx hb, xm_st10 hx hb, xm_st11 hx hb, xm_st13 hx hb, xm_st14 hx hb, xm_st15 hx hb, xm_st16 hx hb, xm_st17 hx hb, xm_st2 hx hb, xm_st4 hx hb, xm_st5 hx hb, xm_st6 hx hb, xm_st7 hx hb, xm_st9 hx hb, Bool.false_eq_true, eq_self, isk_t, i20_t, w20_t, l23_t, b21_t, b22_t, w_t, bif_t, bif_f, bif_d, if_pos, if_neg, if_true, if_false, not_true_eq_false, not_false_eq_true, Option.bind_some, Option.toList_some, Option.toList_none, List.cons_append, List.nil_append, Int.toNat_natCast, Int.reduceToNat, up_eq, up_p, up_k, sN,  e0 ]
    exact g2
  · have e2 : lawV S f r = none := if_neg q
    refine ⟨μ, fun _ _ _ => rfl, ?_⟩
    rw [e2]
    simp (disch := omega) only [e14_0, e14_18, hst, xk_0, xk_1, xk_40, xk_41, xk_42, xk_43, xk_44, xk_45, xk_46, xk_47, xk_48, xk_49, xk_50, xk_51, xk_52, xk_53, xk_54, xk_55, xk_56, xk_57, xk_58, xk_59, xk_60, xk_61, xk_62, xk_63, xk_64, xk_65, xk_66, xk_67, xk_68, xk_69, xk_70, xk_71, xk_72, xk_73, xk_74, xk_75, xk_76, xk_77, xk_78, xk_79, xk_80, xk_81, xk_82, xk_83, xk_84, xk_85, xk_86, xk_87, xk_88, xk_89, xk_90, xk_91, xk_92, xk_93, xk_94, xk_95, xk_96, xk_97, xk_98, xk_st0 hb, xk_st1 hb, xk_st10 hb, xk_st11 hb, xk_st12 hb, xk_st13 hb, xk_st14 hb, xk_st15 hb, xk_st16 hb, xk_st17 hb, xk_st18 hb, xk_st2 hb, xk_st3 hb, xk_st4 hb, xk_st5 hb, xk_st6 hb, xk_st7 hb, xk_st8 hb, xk_st9 hb, xm_0_0 hx, xm_0_10 hx, xm_0_11 hx, xm_0_12 hx, xm_0_13 hx, xm_0_14 hx, xm_0_15 hx, xm_0_2 hx, xm_0_5 hx, xm_0_6 hx, xm_0_7 hx, xm_0_9 hx, xm_40_0 hx, xm_40_1 hx, xm_41_0 hx, xm_44_0 hx, xm_44_1 hx, xm_73_4 hx, xm_73_5 hx, xm_73_6 hx, xm_77_1 hx, xm_77_2 hx, xm_77_3 hx, xm_77_4 hx, xm_77_5 hx, xm_77_6 hx, xm_77_7 hx, xm_77_8 hx, xm_77_9 hx, xm_87_2 hx, xm_87_3 hx, xm_87_4 hx, xm_87_5 hx, xm_87_6 hx, xm_87_7 hx, xm_87_8 hx, xm_lw2 hx hb, xm_lw3 hx hb, xm_lw4 hx hb, xm_lw5 hx hb, xm_st1 hx hb, xm_st10 hx hb, xm_st11 hx hb, xm_st13 hx hb, xm_st14 hx hb, xm_st15 hx hb, xm_st16 hx hb, xm_st17 hx hb, xm_st2 hx hb, xm_st4 hx hb, xm_st5 hx hb, xm_st6 hx hb, xm_st7 hx hb, xm_st9 hx hb, Bool.false_eq_true, eq_self, isk_t, i20_t, w20_t, l23_t, b21_t, b22_t, w_t, bif_t, bif_f, bif_d, if_pos, if_neg, if_true, if_false, not_true_eq_false, not_false_eq_true, Option.bind_some, Option.toList_some, Option.toList_none, List.cons_append, List.nil_append, Int.toNat_natCast, Int.reduceToNat, up_eq, up_p, up_k, sN,  e0, e1 ]
    all_goals rfl
end XWORTH
