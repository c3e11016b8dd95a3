/-! QUERIES: silent, count, fault -/
def cdL (q : Int) : Nat → Int
  | 0 => 1
  | n + 1 => if n = 0 then 1 else if Int.tmod q ((n + 1 : Nat) : Int) = 0 ∧ Int.tmod 100 ((n + 1 : Nat) : Int) = 0 then ((n + 1 : Nat) : Int) else cdL q n
theorem cdL_bd (q : Int) : ∀ n : Nat, 1 ≤ cdL q n ∧ cdL q n ≤ max 1 n
  | 0 => by show (1 : Int) ≤ 1 ∧ (1 : Int) ≤ max 1 ((0 : Nat) : Int); omega
  | n + 1 => by
    have h := cdL_bd q n
    unfold cdL
    split
    · omega
    · split <;> omega
theorem cd_key : ∀ q : Nat, q < 101 → ∀ n : Nat, n < 7 → ((q ^ n / Nat.gcd (q ^ n) (100 ^ n) : Nat) : Int) = (Int.tdiv (q : Int) (cdL (q : Int) 100)) ^ n ∧ ((100 ^ n / Nat.gcd (q ^ n) (100 ^ n) : Nat) : Int) = (Int.tdiv 100 (cdL (q : Int) 100)) ^ n := by decide +kernel
theorem tdiv_nn {x y : Int} (hx : 0 ≤ x) (hy : 1 ≤ y) : 0 ≤ Int.tdiv x y ∧ Int.tdiv x y ≤ x := by
  have h1 := Int.tdiv_nonneg hx (show 0 ≤ y by omega)
  have h2 := tdiv_abs x y
  omega
theorem pow_bd {x : Int} (h0 : 0 ≤ x) (h1 : x ≤ 100) : ∀ n : Nat, n ≤ 6 → 0 ≤ x ^ n ∧ x ^ n ≤ 100 ^ n
  | 0, _ => by simp
  | n + 1, hn => by
    have h := pow_bd h0 h1 n (by omega)
    rw [Int.pow_succ, Int.pow_succ]
    exact ⟨Int.mul_nonneg h.1 h0, Int.mul_le_mul h.2 h1 h0 (by omega)⟩
theorem p100 {n : Nat} (h : n ≤ 6) : (100 : Int) ^ n ≤ 1000000000000 := by
  rcases (show n = 0 ∨ n = 1 ∨ n = 2 ∨ n = 3 ∨ n = 4 ∨ n = 5 ∨ n = 6 by omega) with rfl | rfl | rfl | rfl | rfl | rfl | rfl <;> decide
def silA (S : MS) (n q : Int) : Int := if (0 ≤ n ∧ n ≤ 6) ∧ (0 ≤ q ∧ q ≤ 1) then (if q = 0 then (Int.tdiv (100 - S 0 7) (cdL (100 - S 0 7) 100)) ^ n.toNat else (Int.tdiv 100 (cdL (100 - S 0 7) 100)) ^ n.toNat) else -1
section QF
variable {ρ : Nat → Nat → Nat} {μ : Nat → Nat → Int} {cs : Nat × Nat × Nat} {d b w u : Nat} {S : MS} {W : MW}
theorem X_cd {sh : List (Nat × Nat)} {q : Int} (q0 : 0 ≤ q) (q1 : q ≤ 100) : ∀ n : Nat, n ≤ 100 → am_E d 119 3 [some (.inl q), some (.inl (n : Int))] [] (sh, ρ, μ, cs) = some (some (.inl (cdL q n)), (sh, ρ, μ, cs)) := by
  intro n
  induction n with
  | zero =>
    intro hn
    rw [e119_3]
    simp (disch := omega) only [bif_d, if_pos]
    all_goals rfl
  | succ n ih =>
    intro hn
    have h2 := ih (by omega)
    have e : ((n + 1 : Nat) : Int) + -1 = n := by omega
    rw [e119_3]
    unfold cdL
    by_cases c0 : n = 0
    · subst c0
      simp (disch := omega) only [bif_d, if_pos]
      all_goals rfl
    · rw [if_neg c0]
      have hne : ((n + 1 : Nat) : Int) ≠ 0 := by omega
      by_cases c1 : Int.tmod q ((n + 1 : Nat) : Int) = 0
      · by_cases c2 : Int.tmod 100 ((n + 1 : Nat) : Int) = 0
        · rw [if_pos ⟨c1, c2⟩]
          simp (disch := omega) only [bif_d, if_pos, if_neg, hne, ne_eq, not_false_eq_true, c1, c2, not_true_eq_false, if_true, if_false]
        · rw [if_neg (fun g => c2 g.2)]
          simp (disch := omega) only [bif_d, if_pos, if_neg, hne, ne_eq, not_false_eq_true, c1, c2, not_true_eq_false, if_true, if_false, w_t, e]
          exact h2
      · rw [if_neg (fun g => c1 g.1)]
        simp (disch := omega) only [bif_d, if_pos, if_neg, hne, ne_eq, not_false_eq_true, c1, not_true_eq_false, if_true, if_false, w_t, e]
        exact h2
theorem X_sil_loop {q g n k : Int} (q0 : 0 ≤ q) (q1 : q ≤ 100) (g1 : 1 ≤ g) (g2 : g ≤ 100) (n1 : n ≤ 6) : ∀ (j i : Nat), (i : Int) + j = n → am_E (d + 1) 118 51 [some (.inr (.inr 0)), some (.inl n), some (.inl k), some (.inl q), some (.inl g), some (.inr (.inl ((Int.tdiv q g) ^ i))), none, some (.inr (.inl ((Int.tdiv 100 g) ^ i))), none, some (.inl (i : Int))] [] (SH, ρ, μ, cs) = some (some (.inr (.inl (if k = 0 then (Int.tdiv q g) ^ n.toNat else (Int.tdiv 100 g) ^ n.toNat))), (SH, ρ, μ, cs)) := by
  intro j
  have hq := tdiv_nn q0 g1
  have hh := tdiv_nn (show (0 : Int) ≤ 100 by omega) g1
  induction j with
  | zero =>
    intro i hi
    have e : n.toNat = i := by omega
    rw [e]
    by_cases c : k = 0
    · rw [e118_51]; simp (disch := omega) only [ite_self, Bool.false_eq_true, eq_self, isk_t, i20_t, w20_t, l23_t, b21_t, b22_t, w_t, bif_t, bif_f, bif_d, if_pos, if_neg, if_true, if_false, not_true_eq_false, not_false_eq_true, Option.bind_some, Option.toList_some, Option.toList_none, List.cons_append, List.nil_append, Int.toNat_natCast, Int.reduceToNat, up_eq, up_p, up_k, sN]
    · rw [e118_51]; simp (disch := omega) only [ite_self, Bool.false_eq_true, eq_self, isk_t, i20_t, w20_t, l23_t, b21_t, b22_t, w_t, bif_t, bif_f, bif_d, if_pos, if_neg, if_true, if_false, not_true_eq_false, not_false_eq_true, Option.bind_some, Option.toList_some, Option.toList_none, List.cons_append, List.nil_append, Int.toNat_natCast, Int.reduceToNat, up_eq, up_p, up_k, sN]
  | succ j ih =>
    intro i hi
    have h2 := ih (i + 1) (by omega)
    have e2 : ((i + 1 : Nat) : Int) = (i : Int) + 1 := by omega
    have a1 := pow_bd hq.1 (show Int.tdiv q g ≤ 100 by omega) (i + 1) (by omega)
    have a2 := pow_bd hh.1 (show Int.tdiv 100 g ≤ 100 by omega) (i + 1) (by omega)
    have a3 := p100 (n := i + 1) (by omega)
    rw [e2] at h2
    rw [Int.pow_succ] at a1
    rw [Int.pow_succ (Int.tdiv 100 g)] at a2
    rw [Int.pow_succ, Int.pow_succ] at h2
    rw [e118_51]; simp (disch := omega) only [ite_self, Bool.false_eq_true, eq_self, isk_t, i20_t, w20_t, l23_t, b21_t, b22_t, w_t, bif_t, bif_f, bif_d, if_pos, if_neg, if_true, if_false, not_true_eq_false, not_false_eq_true, Option.bind_some, Option.toList_some, Option.toList_none, List.cons_append, List.nil_append, Int.toNat_natCast, Int.reduceToNat, up_eq, up_p, up_k, sN,  ne_eq, w64_t ]
    exact h2
theorem X_silent (h : RLq ρ μ b w u S W) {n k : Int} : am_E (d + 1) 118 0 [some (.inr (.inr 0)), some (.inl n), some (.inl k), none, none, none, none, none, none, none] [] (SH, ρ, μ, cs) = some (some (.inr (.inl (silA S n k))), (SH, ρ, μ, cs)) := by
  obtain ⟨hx, hρ, hb, hgs, hw46, hu64, hSR, hS, hX, hWR, hWI, hW, hday, h49, h51, h53⟩ := h; have hw : w = 46 ∨ w = 55 ∨ w = 64 := Or.inl hw46; have hu : u = 46 ∨ u = 55 ∨ u = 64 := Or.inr (Or.inr hu64); have hn5 := (xm_0_5 hx).trans hw46.symm; have hn7 := (xm_0_7 hx).trans hu64.symm; have b0 := hS.1; have b1 := hS.2.1
  have b7 := hS.2.2.2.2.2.2.2.1
  have e7 := hX.2.1.2.2.1
  unfold silA
  by_cases gd0 : 0 ≤ n
  rotate_left
  · simp (disch := omega) only [e118_0, hgs, xk_0, xk_1, xk_40, xk_41, xk_42, xk_43, xk_44, xk_45, xk_46, xk_47, xk_48, xk_49, xk_50, xk_51, xk_52, xk_53, xk_54, xk_55, xk_56, xk_57, xk_58, xk_59, xk_60, xk_61, xk_62, xk_63, xk_64, xk_65, xk_66, xk_67, xk_68, xk_69, xk_70, xk_71, xk_72, xk_73, xk_74, xk_75, xk_76, xk_77, xk_78, xk_79, xk_80, xk_81, xk_82, xk_83, xk_84, xk_85, xk_86, xk_87, xk_88, xk_89, xk_90, xk_91, xk_92, xk_93, xk_94, xk_95, xk_96, xk_97, xk_98, xk_st0 hb, xk_st1 hb, xk_st10 hb, xk_st11 hb, xk_st12 hb, xk_st13 hb, xk_st14 hb, xk_st15 hb, xk_st16 hb, xk_st17 hb, xk_st18 hb, xk_st2 hb, xk_st3 hb, xk_st4 hb, xk_st5 hb, xk_st6 hb, xk_st7 hb, xk_st8 hb, xk_st9 hb, xm_0_0 hx, xm_0_10 hx, xm_0_11 hx, xm_0_12 hx, xm_0_13 hx, xm_0_14 hx, xm_0_15 hx, xm_0_2 hx, xm_0_9 hx, xm_40_0 hx, xm_40_1 hx, xm_41_0 hx, xm_44_0 hx, xm_44_1 hx, xm_73_4 hx, xm_73_5 hx, xm_73_6 hx, xm_77_1 hx, xm_77_2 hx, xm_77_3 hx, xm_77_4 hx, xm_77_5 hx, xm_77_6 hx, xm_77_7 hx, xm_77_8 hx, xm_77_9 hx, xm_87_2 hx, xm_87_3 hx, xm_87_4 hx, xm_87_5 hx, xm_87_6 hx, xm_87_7 hx, xm_87_8 hx, xm_lw2 hx hb, xm_lw3 hx hb, xm_lw4 hx hb, xm_lw5 hx hb, xm_st1 hx hb, xm_st10 hx hb, xm_st11 hx hb, xm_st13 hx hb, xm_st14 hx hb, xm_st15 hx hb, xm_st16 hx hb, xm_st17 hx hb, xm_st2 hx hb, xm_st4 hx hb, xm_st5 hx hb, xm_st6 hx hb, xm_st7 hx hb, xm_st9 hx hb, ite_self, Bool.false_eq_true, eq_self, isk_t, i20_t, w20_t, l23_t, b21_t, b22_t, w_t, bif_t, bif_f, bif_d, if_pos, if_neg, if_true, if_false, not_true_eq_false, not_false_eq_true, Option.bind_some, Option.toList_some, Option.toList_none, List.cons_append, List.nil_append, Int.toNat_natCast, Int.reduceToNat, up_eq, up_p, up_k, sN]
  by_cases gd1 : n ≤ 6
  rotate_left
  · simp (disch := omega) only [e118_0, hgs, xk_0, xk_1, xk_40, xk_41, xk_42, xk_43, xk_44, xk_45, xk_46, xk_47, xk_48, xk_49, xk_50, xk_51, xk_52, xk_53, xk_54, xk_55, xk_56, xk_57, xk_58, xk_59, xk_60, xk_61, xk_62, xk_63, xk_64, xk_65, xk_66, xk_67, xk_68, xk_69, xk_70, xk_71, xk_72, xk_73, xk_74, xk_75, xk_76, xk_77, xk_78, xk_79, xk_80, xk_81, xk_82, xk_83, xk_84, xk_85, xk_86, xk_87, xk_88, xk_89, xk_90, xk_91, xk_92, xk_93, xk_94, xk_95, xk_96, xk_97, xk_98, xk_st0 hb, xk_st1 hb, xk_st10 hb, xk_st11 hb, xk_st12 hb, xk_st13 hb, xk_st14 hb, xk_st15 hb, xk_st16 hb, xk_st17 hb, xk_st18 hb, xk_st2 hb, xk_st3 hb, xk_st4 hb, xk_st5 hb, xk_st6 hb, xk_st7 hb, xk_st8 hb, xk_st9 hb, xm_0_0 hx, xm_0_10 hx, xm_0_11 hx, xm_0_12 hx, xm_0_13 hx, xm_0_14 hx, xm_0_15 hx, xm_0_2 hx, xm_0_9 hx, xm_40_0 hx, xm_40_1 hx, xm_41_0 hx, xm_44_0 hx, xm_44_1 hx, xm_73_4 hx, xm_73_5 hx, xm_73_6 hx, xm_77_1 hx, xm_77_2 hx, xm_77_3 hx, xm_77_4 hx, xm_77_5 hx, xm_77_6 hx, xm_77_7 hx, xm_77_8 hx, xm_77_9 hx, xm_87_2 hx, xm_87_3 hx, xm_87_4 hx, xm_87_5 hx, xm_87_6 hx, xm_87_7 hx, xm_87_8 hx, xm_lw2 hx hb, xm_lw3 hx hb, xm_lw4 hx hb, xm_lw5 hx hb, xm_st1 hx hb, xm_st10 hx hb, xm_st11 hx hb, xm_st13 hx hb, xm_st14 hx hb, xm_st15 hx hb, xm_st16 hx hb, xm_st17 hx hb, xm_st2 hx hb, xm_st4 hx hb, xm_st5 hx hb, xm_st6 hx hb, xm_st7 hx hb, xm_st9 hx hb, ite_self, Bool.false_eq_true, eq_self, isk_t, i20_t, w20_t, l23_t, b21_t, b22_t, w_t, bif_t, bif_f, bif_d, if_pos, if_neg, if_true, if_false, not_true_eq_false, not_false_eq_true, Option.bind_some, Option.toList_some, Option.toList_none, List.cons_append, List.nil_append, Int.toNat_natCast, Int.reduceToNat, up_eq, up_p, up_k, sN]
  by_cases gd2 : 0 ≤ k
  rotate_left
  · simp (disch := omega) only [e118_0, hgs, xk_0, xk_1, xk_40, xk_41, xk_42, xk_43, xk_44, xk_45, xk_46, xk_47, xk_48, xk_49, xk_50, xk_51, xk_52, xk_53, xk_54, xk_55, xk_56, xk_57, xk_58, xk_59, xk_60, xk_61, xk_62, xk_63, xk_64, xk_65, xk_66, xk_67, xk_68, xk_69, xk_70, xk_71, xk_72, xk_73, xk_74, xk_75, xk_76, xk_77, xk_78, xk_79, xk_80, xk_81, xk_82, xk_83, xk_84, xk_85, xk_86, xk_87, xk_88, xk_89, xk_90, xk_91, xk_92, xk_93, xk_94, xk_95, xk_96, xk_97, xk_98, xk_st0 hb, xk_st1 hb, xk_st10 hb, xk_st11 hb, xk_st12 hb, xk_st13 hb, xk_st14 hb, xk_st15 hb, xk_st16 hb, xk_st17 hb, xk_st18 hb, xk_st2 hb, xk_st3 hb, xk_st4 hb, xk_st5 hb, xk_st6 hb, xk_st7 hb, xk_st8 hb, xk_st9 hb, xm_0_0 hx, xm_0_10 hx, xm_0_11 hx, xm_0_12 hx, xm_0_13 hx, xm_0_14 hx, xm_0_15 hx, xm_0_2 hx, xm_0_9 hx, xm_40_0 hx, xm_40_1 hx, xm_41_0 hx, xm_44_0 hx, xm_44_1 hx, xm_73_4 hx, xm_73_5 hx, xm_73_6 hx, xm_77_1 hx, xm_77_2 hx, xm_77_3 hx, xm_77_4 hx, xm_77_5 hx, xm_77_6 hx, xm_77_7 hx, xm_77_8 hx, xm_77_9 hx, xm_87_2 hx, xm_87_3 hx, xm_87_4 hx, xm_87_5 hx, xm_87_6 hx, xm_87_7 hx, xm_87_8 hx, xm_lw2 hx hb, xm_lw3 hx hb, xm_lw4 hx hb, xm_lw5 hx hb, xm_st1 hx hb, xm_st10 hx hb, xm_st11 hx hb, xm_st13 hx hb, xm_st14 hx hb, xm_st15 hx hb, xm_st16 hx hb, xm_st17 hx hb, xm_st2 hx hb, xm_st4 hx hb, xm_st5 hx hb, xm_st6 hx hb, xm_st7 hx hb, xm_st9 hx hb, ite_self, Bool.false_eq_true, eq_self, isk_t, i20_t, w20_t, l23_t, b21_t, b22_t, w_t, bif_t, bif_f, bif_d, if_pos, if_neg, if_true, if_false, not_true_eq_false, not_false_eq_true, Option.bind_some, Option.toList_some, Option.toList_none, List.cons_append, List.nil_append, Int.toNat_natCast, Int.reduceToNat, up_eq, up_p, up_k, sN]
  by_cases gd3 : k ≤ 1
  rotate_left
  · simp (disch := omega) only [e118_0, hgs, xk_0, xk_1, xk_40, xk_41, xk_42, xk_43, xk_44, xk_45, xk_46, xk_47, xk_48, xk_49, xk_50, xk_51, xk_52, xk_53, xk_54, xk_55, xk_56, xk_57, xk_58, xk_59, xk_60, xk_61, xk_62, xk_63, xk_64, xk_65, xk_66, xk_67, xk_68, xk_69, xk_70, xk_71, xk_72, xk_73, xk_74, xk_75, xk_76, xk_77, xk_78, xk_79, xk_80, xk_81, xk_82, xk_83, xk_84, xk_85, xk_86, xk_87, xk_88, xk_89, xk_90, xk_91, xk_92, xk_93, xk_94, xk_95, xk_96, xk_97, xk_98, xk_st0 hb, xk_st1 hb, xk_st10 hb, xk_st11 hb, xk_st12 hb, xk_st13 hb, xk_st14 hb, xk_st15 hb, xk_st16 hb, xk_st17 hb, xk_st18 hb, xk_st2 hb, xk_st3 hb, xk_st4 hb, xk_st5 hb, xk_st6 hb, xk_st7 hb, xk_st8 hb, xk_st9 hb, xm_0_0 hx, xm_0_10 hx, xm_0_11 hx, xm_0_12 hx, xm_0_13 hx, xm_0_14 hx, xm_0_15 hx, xm_0_2 hx, xm_0_9 hx, xm_40_0 hx, xm_40_1 hx, xm_41_0 hx, xm_44_0 hx, xm_44_1 hx, xm_73_4 hx, xm_73_5 hx, xm_73_6 hx, xm_77_1 hx, xm_77_2 hx, xm_77_3 hx, xm_77_4 hx, xm_77_5 hx, xm_77_6 hx, xm_77_7 hx, xm_77_8 hx, xm_77_9 hx, xm_87_2 hx, xm_87_3 hx, xm_87_4 hx, xm_87_5 hx, xm_87_6 hx, xm_87_7 hx, xm_87_8 hx, xm_lw2 hx hb, xm_lw3 hx hb, xm_lw4 hx hb, xm_lw5 hx hb, xm_st1 hx hb, xm_st10 hx hb, xm_st11 hx hb, xm_st13 hx hb, xm_st14 hx hb, xm_st15 hx hb, xm_st16 hx hb, xm_st17 hx hb, xm_st2 hx hb, xm_st4 hx hb, xm_st5 hx hb, xm_st6 hx hb, xm_st7 hx hb, xm_st9 hx hb, ite_self, Bool.false_eq_true, eq_self, isk_t, i20_t, w20_t, l23_t, b21_t, b22_t, w_t, bif_t, bif_f, bif_d, if_pos, if_neg, if_true, if_false, not_true_eq_false, not_false_eq_true, Option.bind_some, Option.toList_some, Option.toList_none, List.cons_append, List.nil_append, Int.toNat_natCast, Int.reduceToNat, up_eq, up_p, up_k, sN]
  rw [if_pos ⟨⟨gd0, gd1⟩, gd2, gd3⟩]
  have hc := fun d => X_cd (ρ := ρ) (μ := μ) (cs := cs) (d := d) (sh := SH) (q := 100 - S 0 7) (by omega) (by omega) 100 (by omega)
  have hcb := cdL_bd (100 - S 0 7) 100
  have hl := fun d => X_sil_loop (ρ := ρ) (μ := μ) (cs := cs) (d := d) (q := 100 - S 0 7) (g := cdL (100 - S 0 7) 100) (n := n) (k := k) (by omega) (by omega) hcb.1 (by omega) gd1 n.toNat 0 (by omega)
  have e0 : ((0 : Nat) : Int) = 0 := rfl
  have e1 : ∀ x : Int, x ^ 0 = 1 := fun x => Int.pow_zero x
  rw [e0, e1, e1] at hl
  have ec : ((100 : Nat) : Int) = 100 := rfl
  rw [ec] at hc
  simp (disch := omega) only [e118_0, e118_40, e119_0, hgs, xk_0, xk_1, xk_40, xk_41, xk_42, xk_43, xk_44, xk_45, xk_46, xk_47, xk_48, xk_49, xk_50, xk_51, xk_52, xk_53, xk_54, xk_55, xk_56, xk_57, xk_58, xk_59, xk_60, xk_61, xk_62, xk_63, xk_64, xk_65, xk_66, xk_67, xk_68, xk_69, xk_70, xk_71, xk_72, xk_73, xk_74, xk_75, xk_76, xk_77, xk_78, xk_79, xk_80, xk_81, xk_82, xk_83, xk_84, xk_85, xk_86, xk_87, xk_88, xk_89, xk_90, xk_91, xk_92, xk_93, xk_94, xk_95, xk_96, xk_97, xk_98, xk_st0 hb, xk_st1 hb, xk_st10 hb, xk_st11 hb, xk_st12 hb, xk_st13 hb, xk_st14 hb, xk_st15 hb, xk_st16 hb, xk_st17 hb, xk_st18 hb, xk_st2 hb, xk_st3 hb, xk_st4 hb, xk_st5 hb, xk_st6 hb, xk_st7 hb, xk_st8 hb, xk_st9 hb, xm_0_0 hx, xm_0_10 hx, xm_0_11 hx, xm_0_12 hx, xm_0_13 hx, xm_0_14 hx, xm_0_15 hx, xm_0_2 hx, xm_0_9 hx, xm_40_0 hx, xm_40_1 hx, xm_41_0 hx, xm_44_0 hx, xm_44_1 hx, xm_73_4 hx, xm_73_5 hx, xm_73_6 hx, xm_77_1 hx, xm_77_2 hx, xm_77_3 hx, xm_77_4 hx, xm_77_5 hx, xm_77_6 hx, xm_77_7 hx, xm_77_8 hx, xm_77_9 hx, xm_87_2 hx, xm_87_3 hx, xm_87_4 hx, xm_87_5 hx, xm_87_6 hx, xm_87_7 hx, xm_87_8 hx, xm_lw2 hx hb, xm_lw3 hx hb, xm_lw4 hx hb, xm_lw5 hx hb, xm_st1 hx hb, xm_st10 hx hb, xm_st11 hx hb, xm_st13 hx hb, xm_st14 hx hb, xm_st15 hx hb, xm_st16 hx hb, xm_st17 hx hb, xm_st2 hx hb, xm_st4 hx hb, xm_st5 hx hb, xm_st6 hx hb, xm_st7 hx hb, xm_st9 hx hb, ite_self, Bool.false_eq_true, eq_self, isk_t, i20_t, w20_t, l23_t, b21_t, b22_t, w_t, bif_t, bif_f, bif_d, if_pos, if_neg, if_true, if_false, not_true_eq_false, not_false_eq_true, Option.bind_some, Option.toList_some, Option.toList_none, List.cons_append, List.nil_append, Int.toNat_natCast, Int.reduceToNat, up_eq, up_p, up_k, sN,  e7, hc, hl ]
theorem R_common {x0 x2 : Int} : ∀ (n x y : Nat), y ≤ n → ∀ l8 : Option am_V, am_E d 239 6 [some (.inr (.inl x0)), none, some (.inr (.inl x2)), none, some (.inr (.inl (x : Int))), none, some (.inr (.inl (y : Int))), none, none, none] [] (SH, ρ, μ, cs) = some (some (.inr (.inl ((Nat.gcd x y : Nat) : Int))), (SH, ρ, μ, cs)) := by
  intro n
  induction n with
  | zero =>
    intro x y hy l8
    have e : y = 0 := by omega
    subst e
    rw [e239_6, Nat.gcd_zero_right]
    simp (disch := omega) only [lc_eq, bif_d, if_pos]
  | succ n ih =>
    intro x y hy l8
    by_cases c : y = 0
    · subst c
      rw [e239_6, Nat.gcd_zero_right]
      simp (disch := omega) only [lc_eq, bif_d, if_pos]
    · have hlt := Nat.mod_lt x (show 0 < y by omega)
      have h2 := ih y (x % y) (by omega) none
      have e : Int.tmod (x : Int) (y : Int) = ((x % y : Nat) : Int) := rfl
      have eg : Nat.gcd x y = Nat.gcd y (x % y) := by rw [Nat.gcd_comm x y, Nat.gcd_rec y x, Nat.gcd_comm]
      rw [eg, e239_6]
      simp (disch := omega) only [lc_eq, bif_d, if_pos, if_neg, e, ne_eq]
      exact am_E_le (am_lq_of _ _ (by simp [am_leb])) h2
theorem R_sil_loop (hρ : RM ρ) {q n k : Int} (q0 : 0 ≤ q) (q1 : q ≤ 100) (n1 : n ≤ 6) (h7 : μ 101 7 = 100 - q) : ∀ (j i : Nat), (i : Int) + j = n → am_E (d + 1) 240 36 [some (.inr (.inr 99)), some (.inl n), some (.inl k), some (.inr (.inl (q ^ i))), none, some (.inr (.inl ((100 : Int) ^ i))), none, some (.inl (i : Int)), none] [] (SH, ρ, μ, cs) = am_E (d + 1) 240 36 [some (.inr (.inr 99)), some (.inl n), some (.inl k), some (.inr (.inl (q ^ n.toNat))), none, some (.inr (.inl ((100 : Int) ^ n.toNat))), none, some (.inl n), none] [] (SH, ρ, μ, cs) := by
  intro j
  induction j with
  | zero =>
    intro i hi
    have e : n.toNat = i := by omega
    have e2 : n = (i : Int) := by omega
    rw [e, ← e2]
  | succ j ih =>
    intro i hi
    have h2 := ih (i + 1) (by omega)
    have e2 : ((i + 1 : Nat) : Int) = (i : Int) + 1 := by omega
    have a1 := pow_bd q0 q1 (i + 1) (by omega)
    have a2 := pow_bd (show (0 : Int) ≤ 100 by omega) (Int.le_refl _) (i + 1) (by omega)
    have a3 := p100 (n := i + 1) (by omega)
    rw [e2] at h2
    have e3 : (100 : Int) - (100 - q) = q := by omega
    rw [← h2]
    have e100 := Int.pow_succ (100 : Int) i
    have eq := Int.pow_succ q i
    rw [eq] at a1
    rw [eq, e100]
    rw [e240_36]; simp (disch := (first | omega | (simp (disch := omega) only [sr_up, wr_up_o]; omega))) only [ks_101, ks_99, rm_number hρ, ite_self, Bool.false_eq_true, eq_self, isk_t, i20_t, w20_t, l23_t, b21_t, b22_t, w_t, bif_t, bif_f, bif_d, if_pos, if_neg, if_true, if_false, not_true_eq_false, not_false_eq_true, Option.bind_some, Option.toList_some, Option.toList_none, List.cons_append, List.nil_append, Int.toNat_natCast, Int.reduceToNat, up_eq, up_p, up_k, sN,  h7, e3, w64_t ]
theorem R_silent (h : RLq ρ μ b w u S W) {n k : Int} : ∃ μ', FrQ μ μ' ∧ am_E (d + 1) 240 0 [some (.inr (.inr 99)), some (.inl n), some (.inl k), none, none, none, none, none, none] [] (SH, ρ, μ, cs) = some (some (.inr (.inl (silA S n k))), (SH, ρ, μ', cs)) := by
  obtain ⟨hx, hρ, hb, hgs, hw46, hu64, hSR, hS, hX, hWR, hWI, hW, hday, h49, h51, h53⟩ := h; have hw : w = 46 ∨ w = 55 ∨ w = 64 := Or.inl hw46; have hu : u = 46 ∨ u = 55 ∨ u = 64 := Or.inr (Or.inr hu64); have hn5 := (xm_0_5 hx).trans hw46.symm; have hn7 := (xm_0_7 hx).trans hu64.symm; have b0 := hS.1; have b1 := hS.2.1
  have b7 := hS.2.2.2.2.2.2.2.1
  refine ⟨am_up μ 99 0 0, frq_t0 μ 0, ?_⟩
  unfold silA
  by_cases gd0 : 0 ≤ n
  rotate_left
  · simp (disch := (first | omega | (simp (disch := omega) only [sr_up, wr_up_o]; omega))) only [e240_0, ks_99, ite_self, Bool.false_eq_true, eq_self, isk_t, i20_t, w20_t, l23_t, b21_t, b22_t, w_t, bif_t, bif_f, bif_d, if_pos, if_neg, if_true, if_false, not_true_eq_false, not_false_eq_true, Option.bind_some, Option.toList_some, Option.toList_none, List.cons_append, List.nil_append, Int.toNat_natCast, Int.reduceToNat, up_eq, up_p, up_k, sN]
  by_cases gd1 : n ≤ 6
  rotate_left
  · simp (disch := (first | omega | (simp (disch := omega) only [sr_up, wr_up_o]; omega))) only [e240_0, ks_99, ite_self, Bool.false_eq_true, eq_self, isk_t, i20_t, w20_t, l23_t, b21_t, b22_t, w_t, bif_t, bif_f, bif_d, if_pos, if_neg, if_true, if_false, not_true_eq_false, not_false_eq_true, Option.bind_some, Option.toList_some, Option.toList_none, List.cons_append, List.nil_append, Int.toNat_natCast, Int.reduceToNat, up_eq, up_p, up_k, sN]
  by_cases gd2 : 0 ≤ k
  rotate_left
  · simp (disch := (first | omega | (simp (disch := omega) only [sr_up, wr_up_o]; omega))) only [e240_0, ks_99, ite_self, Bool.false_eq_true, eq_self, isk_t, i20_t, w20_t, l23_t, b21_t, b22_t, w_t, bif_t, bif_f, bif_d, if_pos, if_neg, if_true, if_false, not_true_eq_false, not_false_eq_true, Option.bind_some, Option.toList_some, Option.toList_none, List.cons_append, List.nil_append, Int.toNat_natCast, Int.reduceToNat, up_eq, up_p, up_k, sN]
  by_cases gd3 : k ≤ 1
  rotate_left
  · simp (disch := (first | omega | (simp (disch := omega) only [sr_up, wr_up_o]; omega))) only [e240_0, ks_99, ite_self, Bool.false_eq_true, eq_self, isk_t, i20_t, w20_t, l23_t, b21_t, b22_t, w_t, bif_t, bif_f, bif_d, if_pos, if_neg, if_true, if_false, not_true_eq_false, not_false_eq_true, Option.bind_some, Option.toList_some, Option.toList_none, List.cons_append, List.nil_append, Int.toNat_natCast, Int.reduceToNat, up_eq, up_p, up_k, sN]
  rw [if_pos ⟨⟨gd0, gd1⟩, gd2, gd3⟩]
  have h7 : am_up μ 99 0 0 101 7 = 100 - (100 - S 0 7) := by rw [up_p (by omega), ← hSR]; show SR μ 0 7 = _; omega
  have hl := fun d => R_sil_loop (ρ := ρ) (μ := am_up μ 99 0 0) (cs := cs) (d := d) (q := 100 - S 0 7) (n := n) (k := k) hρ (by omega) (by omega) gd1 h7 n.toNat 0 (by omega)
  have e0 : ((0 : Nat) : Int) = 0 := rfl
  have e1 : ∀ x : Int, x ^ 0 = 1 := fun x => Int.pow_zero x
  rw [e0, e1, e1] at hl
  obtain ⟨q, hq⟩ : ∃ q : Nat, 100 - S 0 7 = (q : Int) := ⟨(100 - S 0 7).toNat, by omega⟩
  obtain ⟨m, hm⟩ : ∃ m : Nat, n = (m : Int) := ⟨n.toNat, by omega⟩
  have hkey := cd_key q (by omega) m (by omega)
  have em : n.toNat = m := by omega
  have p1 : ((q : Int)) ^ m = ((q ^ m : Nat) : Int) := by simp
  have p2 : (100 : Int) ^ m = ((100 ^ m : Nat) : Int) := by simp
  rw [hq, em] at hl ⊢
  rw [p1, p2] at hl
  have hg := fun d => R_common (ρ := ρ) (μ := am_up μ 99 0 0) (cs := cs) (d := d) (x0 := ((q ^ m : Nat) : Int)) (x2 := ((100 ^ m : Nat) : Int)) (100 ^ m) (q ^ m) (100 ^ m) (Nat.le_refl _) none
  have hpos : 0 < 100 ^ m := Nat.pow_pos (by decide)
  have hg0 : 0 < Nat.gcd (q ^ m) (100 ^ m) := Nat.gcd_pos_of_pos_right _ hpos
  have d1 : Int.tdiv ((q ^ m : Nat) : Int) ((Nat.gcd (q ^ m) (100 ^ m) : Nat) : Int) = ((q ^ m / Nat.gcd (q ^ m) (100 ^ m) : Nat) : Int) := rfl
  have d2 : Int.tdiv ((100 ^ m : Nat) : Int) ((Nat.gcd (q ^ m) (100 ^ m) : Nat) : Int) = ((100 ^ m / Nat.gcd (q ^ m) (100 ^ m) : Nat) : Int) := rfl
  have l1 : q ^ m / Nat.gcd (q ^ m) (100 ^ m) ≤ q ^ m := Nat.div_le_self _ _
  have l2 : 100 ^ m / Nat.gcd (q ^ m) (100 ^ m) ≤ 100 ^ m := Nat.div_le_self _ _
  have a1 := pow_bd (x := (q : Int)) (by omega) (by omega) m (by omega)
  have a3 := p100 (n := m) (by omega)
  rw [p1, p2] at a1
  rw [p2] at a3
  rw [← hkey.1, ← hkey.2]
  have e240 : am_E (d + 1) 240 0 [some (.inr (.inr 99)), some (.inl n), some (.inl k), none, none, none, none, none, none] [] (SH, ρ, μ, cs) = am_E (d + 1) 240 36 [some (.inr (.inr 99)), some (.inl n), some (.inl k), some (.inr (.inl ((q ^ m : Nat) : Int))), none, some (.inr (.inl ((100 ^ m : Nat) : Int))), none, some (.inl n), none] [] (SH, ρ, am_up μ 99 0 0, cs) := by
    rw [← hl]
    simp (disch := (first | omega | (simp (disch := omega) only [sr_up, wr_up_o]; omega))) only [e240_0, ks_99, ite_self, Bool.false_eq_true, eq_self, isk_t, i20_t, w20_t, l23_t, b21_t, b22_t, w_t, bif_t, bif_f, bif_d, if_pos, if_neg, if_true, if_false, not_true_eq_false, not_false_eq_true, Option.bind_some, Option.toList_some, Option.toList_none, List.cons_append, List.nil_append, Int.toNat_natCast, Int.reduceToNat, up_eq, up_p, up_k, sN]
  rw [e240]
  generalize hG : Nat.gcd (q ^ m) (100 ^ m) = g at hg hg0 d1 d2 l1 l2
  generalize hA : q ^ m / g = A at d1 l1
  generalize hB : 100 ^ m / g = B at d2 l2
  have hgne : ((g : Nat) : Int) ≠ 0 := by omega
  by_cases c : k = 0
  · rw [if_pos c, e240_36]
    simp (disch := (first | omega | (simp (disch := omega) only [sr_up, wr_up_o]; omega))) only [e239_0, e240_77, ks_99, ite_self, Bool.false_eq_true, eq_self, isk_t, i20_t, w20_t, l23_t, b21_t, b22_t, w_t, bif_t, bif_f, bif_d, if_pos, if_neg, if_true, if_false, not_true_eq_false, not_false_eq_true, Option.bind_some, Option.toList_some, Option.toList_none, List.cons_append, List.nil_append, Int.toNat_natCast, Int.reduceToNat, up_eq, up_p, up_k, sN,  hg, d1, w64_t, ne_eq ]
  · rw [if_neg c, e240_36]
    simp (disch := (first | omega | (simp (disch := omega) only [sr_up, wr_up_o]; omega))) only [e239_0, e240_77, ks_99, ite_self, Bool.false_eq_true, eq_self, isk_t, i20_t, w20_t, l23_t, b21_t, b22_t, w_t, bif_t, bif_f, bif_d, if_pos, if_neg, if_true, if_false, not_true_eq_false, not_false_eq_true, Option.bind_some, Option.toList_some, Option.toList_none, List.cons_append, List.nil_append, Int.toNat_natCast, Int.reduceToNat, up_eq, up_p, up_k, sN,  hg, d2, w64_t, ne_eq ]
end QF
