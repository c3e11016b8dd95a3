/-! CALLS: feed -/
theorem an255 (z : Int) : am_and z 255 = z % 256 := by
  unfold am_and
  refine (nb_toInt (n := (z % 256).toNat) ?_ (by omega)).trans (by omega)
  rw [Int32.toBitVec_and, BitVec.toNat_and]
  have e2 : (Int32.ofInt 255).toBitVec.toNat = 2 ^ 8 - 1 := rfl
  rw [e2, Nat.and_two_pow_sub_one_eq_mod]
  have e3 : (Int32.ofInt z).toBitVec.toNat = (z % 4294967296).toNat := by
    show (BitVec.ofInt 32 z).toNat = _
    rw [BitVec.toNat_ofInt]
    all_goals rfl
  rw [e3]
  omega
theorem am_b_v (z : Int) : am_b z = Int.bmod z 256 := by
  unfold am_b
  rw [Int8.toInt_toInt32, Int32.toInt_toInt8, Int32.toInt_ofInt]
  unfold Int.bmod
  simp only [Int32.size]
  omega
theorem bm_256 (z : Int) : Int.bmod z 256 = if z % 256 < 128 then z % 256 else z % 256 - 256 := rfl
theorem am_b_b (z : Int) : (-128 ≤ am_b z ∧ am_b z ≤ 127) ∧ am_and z 255 = am_b z % 256 := by
  rw [an255, am_b_v, bm_256]
  omega
theorem bv_b (z : Int) : am_bv (21, 700) (am_b z) = am_b z := by
  have e : ∀ y, am_bv (21, 700) y = am_b y := fun y => rfl
  rw [e, am_b_v (am_b z), am_b_v, Int.bmod_bmod]
section FD
variable {ρ ρ' : Nat → Nat → Nat} {μ μc μr : Nat → Nat → Int} {cs : Nat × Nat × Nat} {d b w u : Nat} {S : MS} {W W' V : MW} {C : MC}
/-- the byte that lies j places behind the start -/
def fby (x1 x2 x3 x4 x5 : Int) (j : Nat) : Int := am_shr (if j < 4 then x1 else if j < 8 then x2 else if j < 12 then x3 else if j < 16 then x4 else x5) (24 - 8 * ((j : Int) % 4))
theorem X_put1 (hx : XM ρ) {n : Nat} {x s s' n' : Int} (hn : μ 0 1 = (n : Int)) (h7 : n < 700) (hs : 0 ≤ s) (hs1 : s < 100) (hs' : s' = s - 8) (hn' : n' = (n : Int) + 1) : am_E d 86 3 [some (.inr (.inr 0)), some (.inl x), some (.inl s)] [] (SH, ρ, μ, cs) = am_E d 86 3 [some (.inr (.inr 0)), some (.inl x), some (.inl s')] [] (SH, ρ, am_up (am_up μ 1 n (am_b (am_shr x s))) 0 1 n', cs) := by
  subst hs' hn'
  rw [show s - 8 = s + -8 by omega]
  rw [e86_3]; simp (disch := omega) only [xk_0, xk_1, xk_40, xk_41, xk_42, xk_43, xk_44, xk_45, xk_46, xk_47, xk_48, xk_49, xk_50, xk_51, xk_52, xk_53, xk_54, xk_55, xk_56, xk_57, xk_58, xk_59, xk_60, xk_61, xk_62, xk_63, xk_64, xk_65, xk_66, xk_67, xk_68, xk_69, xk_70, xk_71, xk_72, xk_73, xk_74, xk_75, xk_76, xk_77, xk_78, xk_79, xk_80, xk_81, xk_82, xk_83, xk_84, xk_85, xk_86, xk_87, xk_88, xk_89, xk_90, xk_91, xk_92, xk_93, xk_94, xk_95, xk_96, xk_97, xk_98, xm_0_0 hx, xm_0_10 hx, xm_0_11 hx, xm_0_12 hx, xm_0_13 hx, xm_0_14 hx, xm_0_15 hx, xm_0_2 hx, xm_0_9 hx, xm_40_0 hx, xm_40_1 hx, xm_41_0 hx, xm_44_0 hx, xm_44_1 hx, xm_73_4 hx, xm_73_5 hx, xm_73_6 hx, xm_77_1 hx, xm_77_2 hx, xm_77_3 hx, xm_77_4 hx, xm_77_5 hx, xm_77_6 hx, xm_77_7 hx, xm_77_8 hx, xm_77_9 hx, xm_87_2 hx, xm_87_3 hx, xm_87_4 hx, xm_87_5 hx, xm_87_6 hx, xm_87_7 hx, xm_87_8 hx, ite_self, Bool.false_eq_true, eq_self, isk_t, i20_t, w20_t, l23_t, b21_t, b22_t, w_t, bif_t, bif_f, bif_d, if_pos, if_neg, if_true, if_false, not_true_eq_false, not_false_eq_true, Option.bind_some, Option.toList_some, Option.toList_none, List.cons_append, List.nil_append, Int.toNat_natCast, Int.reduceToNat, up_eq, up_p, up_k, sN,  hn, bv_b ]
  all_goals rfl
theorem X_put (hx : XM ρ) {n : Nat} {x : Int} (hn : μ 0 1 = (n : Int)) (h7 : n + 4 ≤ 700) : ∃ μ', (∀ q k, μ' q k = if q = 1 ∧ n ≤ k ∧ k < n + 4 then am_b (am_shr x (24 - 8 * ((k : Int) - n))) else if q = 0 ∧ k = 1 then (n : Int) + 4 else μ q k) ∧ am_E d 86 0 [some (.inr (.inr 0)), some (.inl x), none] [] (SH, ρ, μ, cs) = some (none, (SH, ρ, μ', cs)) := by
  refine ⟨am_up (am_up (am_up (am_up (am_up (am_up (am_up (am_up μ 1 n (am_b (am_shr x 24))) 0 1 ((n : Int) + 1)) 1 (n + 1) (am_b (am_shr x 16))) 0 1 ((n : Int) + 2)) 1 (n + 2) (am_b (am_shr x 8))) 0 1 ((n : Int) + 3)) 1 (n + 3) (am_b (am_shr x 0))) 0 1 ((n : Int) + 4), fun q k => ?_, ?_⟩
  · unfold am_up
    by_cases c1 : q = 0 ∧ k = 1
    · obtain ⟨rfl, rfl⟩ := c1; simp
    by_cases c2 : q = 1 ∧ n ≤ k ∧ k < n + 4
    · obtain ⟨rfl, g1, g2⟩ := c2
      rw [if_pos (c := 1 = 1 ∧ n ≤ k ∧ k < n + 4) ⟨rfl, g1, g2⟩]
      have : k = n ∨ k = n + 1 ∨ k = n + 2 ∨ k = n + 3 := by omega
      rcases this with rfl | rfl | rfl | rfl
      · simp
      · rw [show (24 : Int) - 8 * (((n + 1 : Nat) : Int) - n) = 16 by omega]; simp
      · rw [show (24 : Int) - 8 * (((n + 2 : Nat) : Int) - n) = 8 by omega]; simp
      · rw [show (24 : Int) - 8 * (((n + 3 : Nat) : Int) - n) = 0 by omega]; simp
    · rw [if_neg c2, if_neg c1]
      simp only [c1, if_false]
      rw [if_neg (by omega), if_neg (by omega), if_neg (by omega), if_neg (by omega)]
  · have e0 : am_E d 86 0 [some (.inr (.inr 0)), some (.inl x), none] [] (SH, ρ, μ, cs) = am_E d 86 3 [some (.inr (.inr 0)), some (.inl x), some (.inl 24)] [] (SH, ρ, μ, cs) := by
      simp (disch := omega) only [e86_0, xk_0, xk_1, xk_40, xk_41, xk_42, xk_43, xk_44, xk_45, xk_46, xk_47, xk_48, xk_49, xk_50, xk_51, xk_52, xk_53, xk_54, xk_55, xk_56, xk_57, xk_58, xk_59, xk_60, xk_61, xk_62, xk_63, xk_64, xk_65, xk_66, xk_67, xk_68, xk_69, xk_70, xk_71, xk_72, xk_73, xk_74, xk_75, xk_76, xk_77, xk_78, xk_79, xk_80, xk_81, xk_82, xk_83, xk_84, xk_85, xk_86, xk_87, xk_88, xk_89, xk_90, xk_91, xk_92, xk_93, xk_94, xk_95, xk_96, xk_97, xk_98, xm_0_0 hx, xm_0_10 hx, xm_0_11 hx, xm_0_12 hx, xm_0_13 hx, xm_0_14 hx, xm_0_15 hx, xm_0_2 hx, xm_0_9 hx, xm_40_0 hx, xm_40_1 hx, xm_41_0 hx, xm_44_0 hx, xm_44_1 hx, xm_73_4 hx, xm_73_5 hx, xm_73_6 hx, xm_77_1 hx, xm_77_2 hx, xm_77_3 hx, xm_77_4 hx, xm_77_5 hx, xm_77_6 hx, xm_77_7 hx, xm_77_8 hx, xm_77_9 hx, xm_87_2 hx, xm_87_3 hx, xm_87_4 hx, xm_87_5 hx, xm_87_6 hx, xm_87_7 hx, xm_87_8 hx, ite_self, Bool.false_eq_true, eq_self, isk_t, i20_t, w20_t, l23_t, b21_t, b22_t, w_t, bif_t, bif_f, bif_d, if_pos, if_neg, if_true, if_false, not_true_eq_false, not_false_eq_true, Option.bind_some, Option.toList_some, Option.toList_none, List.cons_append, List.nil_append, Int.toNat_natCast, Int.reduceToNat, up_eq, up_p, up_k, sN]
    rw [e0]
    refine (X_put1 hx (n' := (n : Int) + 1) (s' := 16) hn (by omega) (by omega) (by omega) rfl rfl).trans ?_
    refine (X_put1 hx (n := n + 1) (n' := (n : Int) + 2) (s' := 8) (by rw [up_eq]; omega) (by omega) (by omega) (by omega) rfl (by omega)).trans ?_
    refine (X_put1 hx (n := n + 2) (n' := (n : Int) + 3) (s' := 0) (by rw [up_eq]; omega) (by omega) (by omega) (by omega) rfl (by omega)).trans ?_
    refine (X_put1 hx (n := n + 3) (n' := (n : Int) + 4) (s' := -8) (by rw [up_eq]; omega) (by omega) (by omega) (by omega) rfl (by omega)).trans ?_
    rw [e86_3]; simp (disch := omega) only [xk_0, xk_1, xk_40, xk_41, xk_42, xk_43, xk_44, xk_45, xk_46, xk_47, xk_48, xk_49, xk_50, xk_51, xk_52, xk_53, xk_54, xk_55, xk_56, xk_57, xk_58, xk_59, xk_60, xk_61, xk_62, xk_63, xk_64, xk_65, xk_66, xk_67, xk_68, xk_69, xk_70, xk_71, xk_72, xk_73, xk_74, xk_75, xk_76, xk_77, xk_78, xk_79, xk_80, xk_81, xk_82, xk_83, xk_84, xk_85, xk_86, xk_87, xk_88, xk_89, xk_90, xk_91, xk_92, xk_93, xk_94, xk_95, xk_96, xk_97, xk_98, xm_0_0 hx, xm_0_10 hx, xm_0_11 hx, xm_0_12 hx, xm_0_13 hx, xm_0_14 hx, xm_0_15 hx, xm_0_2 hx, xm_0_9 hx, xm_40_0 hx, xm_40_1 hx, xm_41_0 hx, xm_44_0 hx, xm_44_1 hx, xm_73_4 hx, xm_73_5 hx, xm_73_6 hx, xm_77_1 hx, xm_77_2 hx, xm_77_3 hx, xm_77_4 hx, xm_77_5 hx, xm_77_6 hx, xm_77_7 hx, xm_77_8 hx, xm_77_9 hx, xm_87_2 hx, xm_87_3 hx, xm_87_4 hx, xm_87_5 hx, xm_87_6 hx, xm_87_7 hx, xm_87_8 hx, ite_self, Bool.false_eq_true, eq_self, isk_t, i20_t, w20_t, l23_t, b21_t, b22_t, w_t, bif_t, bif_f, bif_d, if_pos, if_neg, if_true, if_false, not_true_eq_false, not_false_eq_true, Option.bind_some, Option.toList_some, Option.toList_none, List.cons_append, List.nil_append, Int.toNat_natCast, Int.reduceToNat, up_eq, up_p, up_k, sN]
theorem X_feed (hx : XM ρ) {n : Nat} {x1 x2 x3 x4 x5 : Int} (hn : μ 0 1 = (n : Int)) (h7 : n + 20 ≤ 700) : ∃ μ', (∀ q k, μ' q k = if q = 1 ∧ n ≤ k ∧ k < n + 20 then am_b (fby x1 x2 x3 x4 x5 (k - n)) else if q = 0 ∧ k = 1 then (n : Int) + 20 else μ q k) ∧ am_E (d + 1) 85 0 [some (.inr (.inr 0)), some (.inl x1), some (.inl x2), some (.inl x3), some (.inl x4), some (.inl x5)] [] (SH, ρ, μ, cs) = some (some (.inl ((n : Int) + 20)), (SH, ρ, μ', cs)) := by
  obtain ⟨μ1, f1, g1⟩ := X_put (ρ := ρ) (d := d) (cs := cs) (x := x1) hx hn (by omega)
  have n1 : μ1 0 1 = ((n + 4 : Nat) : Int) := by rw [f1, if_neg (by omega), if_pos ⟨rfl, rfl⟩]; omega
  obtain ⟨μ2, f2, g2⟩ := X_put (ρ := ρ) (d := d) (cs := cs) (x := x2) hx n1 (by omega)
  have n2 : μ2 0 1 = ((n + 8 : Nat) : Int) := by rw [f2, if_neg (by omega), if_pos ⟨rfl, rfl⟩]; omega
  obtain ⟨μ3, f3, g3⟩ := X_put (ρ := ρ) (d := d) (cs := cs) (x := x3) hx n2 (by omega)
  have n3 : μ3 0 1 = ((n + 12 : Nat) : Int) := by rw [f3, if_neg (by omega), if_pos ⟨rfl, rfl⟩]; omega
  obtain ⟨μ4, f4, g4⟩ := X_put (ρ := ρ) (d := d) (cs := cs) (x := x4) hx n3 (by omega)
  have n4 : μ4 0 1 = ((n + 16 : Nat) : Int) := by rw [f4, if_neg (by omega), if_pos ⟨rfl, rfl⟩]; omega
  obtain ⟨μ5, f5, g5⟩ := X_put (ρ := ρ) (d := d) (cs := cs) (x := x5) hx n4 (by omega)
  have n5 : μ5 0 1 = (n : Int) + 20 := by rw [f5, if_neg (by omega), if_pos ⟨rfl, rfl⟩]; omega
  refine ⟨μ5, fun q k => ?_, ?_⟩
  · clear g1 g2 g3 g4 g5
    by_cases c1 : q = 0 ∧ k = 1
    · obtain ⟨rfl, rfl⟩ := c1
      rw [n5, if_neg (by omega), if_pos ⟨rfl, rfl⟩]
    rw [if_neg c1]
    by_cases c2 : q = 1 ∧ n ≤ k ∧ k < n + 20
    · obtain ⟨rfl, b1, b2⟩ := c2
      rw [if_pos (c := 1 = 1 ∧ n ≤ k ∧ k < n + 20) ⟨rfl, b1, b2⟩]
      obtain ⟨j, rfl⟩ : ∃ j, k = n + j := ⟨k - n, by omega⟩
      rw [show n + j - n = j by omega]
      unfold fby
      rw [f5, f4, f3, f2, f1]
      by_cases a1 : j < 4
      · rw [if_neg (by omega), if_neg (by omega), if_neg (by omega), if_neg (by omega), if_neg (by omega), if_neg (by omega), if_neg (by omega), if_neg (by omega), if_pos (by omega), if_pos a1]
        congr 2; omega
      rw [if_neg a1]
      by_cases a2 : j < 8
      · rw [if_neg (by omega), if_neg (by omega), if_neg (by omega), if_neg (by omega), if_neg (by omega), if_neg (by omega), if_pos (by omega), if_pos a2]
        congr 2; omega
      rw [if_neg a2]
      by_cases a3 : j < 12
      · rw [if_neg (by omega), if_neg (by omega), if_neg (by omega), if_neg (by omega), if_pos (by omega), if_pos a3]
        congr 2; omega
      rw [if_neg a3]
      by_cases a4 : j < 16
      · rw [if_neg (by omega), if_neg (by omega), if_pos (by omega), if_pos a4]
        congr 2; omega
      rw [if_neg a4, if_pos (by omega)]
      congr 2; omega
    · rw [if_neg c2, f5, if_neg (by omega), if_neg c1, f4, if_neg (by omega), if_neg c1, f3, if_neg (by omega), if_neg c1, f2, if_neg (by omega), if_neg c1, f1, if_neg (by omega), if_neg c1]
  · clear f1 f2 f3 f4 f5
    simp (disch := omega) only [e85_0, e85_20, e85_25, e85_30, e85_36, e85_42, xk_0, xk_1, xk_40, xk_41, xk_42, xk_43, xk_44, xk_45, xk_46, xk_47, xk_48, xk_49, xk_50, xk_51, xk_52, xk_53, xk_54, xk_55, xk_56, xk_57, xk_58, xk_59, xk_60, xk_61, xk_62, xk_63, xk_64, xk_65, xk_66, xk_67, xk_68, xk_69, xk_70, xk_71, xk_72, xk_73, xk_74, xk_75, xk_76, xk_77, xk_78, xk_79, xk_80, xk_81, xk_82, xk_83, xk_84, xk_85, xk_86, xk_87, xk_88, xk_89, xk_90, xk_91, xk_92, xk_93, xk_94, xk_95, xk_96, xk_97, xk_98, xm_0_0 hx, xm_0_10 hx, xm_0_11 hx, xm_0_12 hx, xm_0_13 hx, xm_0_14 hx, xm_0_15 hx, xm_0_2 hx, xm_0_9 hx, xm_40_0 hx, xm_40_1 hx, xm_41_0 hx, xm_44_0 hx, xm_44_1 hx, xm_73_4 hx, xm_73_5 hx, xm_73_6 hx, xm_77_1 hx, xm_77_2 hx, xm_77_3 hx, xm_77_4 hx, xm_77_5 hx, xm_77_6 hx, xm_77_7 hx, xm_77_8 hx, xm_77_9 hx, xm_87_2 hx, xm_87_3 hx, xm_87_4 hx, xm_87_5 hx, xm_87_6 hx, xm_87_7 hx, xm_87_8 hx, ite_self, Bool.false_eq_true, eq_self, isk_t, i20_t, w20_t, l23_t, b21_t, b22_t, w_t, bif_t, bif_f, bif_d, if_pos, if_neg, if_true, if_false, not_true_eq_false, not_false_eq_true, Option.bind_some, Option.toList_some, Option.toList_none, List.cons_append, List.nil_append, Int.toNat_natCast, Int.reduceToNat, up_eq, up_p, up_k, sN,  hn, g1, g2, g3, g4, g5, n5 ]
theorem R_feed1 (hρ : RM ρ) {n : Nat} {x1 x2 x3 x4 x5 : Int} (k : Nat) : ∀ (j : Nat) {μ : Nat → Nat → Int}, μ 99 2 = (n : Int) → n + 20 ≤ 700 → j + k = 20 → ∃ μ', (∀ q i, μ' q i = if q = 100 ∧ n + j ≤ i ∧ i < n + 20 then am_and (fby x1 x2 x3 x4 x5 (i - n)) 255 else if q = 99 ∧ i = 2 then (n : Int) + 20 else μ q i) ∧ am_E d 141 20 [some (.inr (.inr 99)), some (.inl x1), some (.inl x2), some (.inl x3), some (.inl x4), some (.inl x5), some (.inl (j : Int)), none] [] (SH, ρ, μ, cs) = some (some (.inl ((n : Int) + 20)), (SH, ρ, μ', cs)) := by
  induction k with
  | zero =>
    intro j μ hn h7 hj
    obtain rfl : j = 20 := by omega
    refine ⟨am_up μ 99 2 ((n : Int) + 20), fun q i => ?_, ?_⟩
    · rw [if_neg (by omega)]
      unfold am_up
      all_goals rfl
    · simp (disch := (first | omega | (simp (disch := omega) only [sr_up, wr_up_o]; omega))) only [e141_20, ks_100, ks_99, rm_tape hρ, ite_self, Bool.false_eq_true, eq_self, isk_t, i20_t, w20_t, l23_t, b21_t, b22_t, w_t, bif_t, bif_f, bif_d, if_pos, if_neg, if_true, if_false, not_true_eq_false, not_false_eq_true, Option.bind_some, Option.toList_some, Option.toList_none, List.cons_append, List.nil_append, Int.toNat_natCast, Int.reduceToNat, up_eq, up_p, up_k, sN,  hn ]
  | succ k ih =>
    intro j μ hn h7 hj
    have hm : Int.tmod (j : Int) 4 = (j : Int) % 4 := Int.tmod_eq_emod_of_nonneg (by omega)
    obtain ⟨μ', f, e⟩ := ih (j + 1) (μ := am_up μ 100 (n + j) (am_and (fby x1 x2 x3 x4 x5 j) 255)) (by rw [up_p (by omega)]; exact hn) h7 (by omega)
    refine ⟨μ', fun q i => ?_, ?_⟩
    · rw [f]
      by_cases c1 : q = 100 ∧ n + (j + 1) ≤ i ∧ i < n + 20
      · rw [if_pos c1, if_pos (by omega)]
      · rw [if_neg c1]
        by_cases c2 : q = 99 ∧ i = 2
        · rw [if_pos c2, if_neg (by omega), if_pos c2]
        · rw [if_neg c2]
          by_cases c3 : q = 100 ∧ i = n + j
          · obtain ⟨rfl, rfl⟩ := c3
            rw [up_eq, if_pos (by omega), show n + j - n = j by omega]
          · rw [if_neg (by omega), if_neg c2]
            exact am_up_no c3
    · unfold fby at e
      have e1 : ((j + 1 : Nat) : Int) = (j : Int) + 1 := by omega
      rw [e1] at e
      have e2 : ((n : Int) + (j : Int)).toNat = n + j := by omega
      by_cases a1 : j < 4
      · rw [if_pos a1] at e
        rw [e141_20]; simp (disch := (first | omega | (simp (disch := omega) only [sr_up, wr_up_o]; omega))) only [ks_100, ks_99, rm_tape hρ, ite_self, Bool.false_eq_true, eq_self, isk_t, i20_t, w20_t, l23_t, b21_t, b22_t, w_t, bif_t, bif_f, bif_d, if_pos, if_neg, if_true, if_false, not_true_eq_false, not_false_eq_true, Option.bind_some, Option.toList_some, Option.toList_none, List.cons_append, List.nil_append, Int.toNat_natCast, Int.reduceToNat, up_eq, up_p, up_k, sN,  hn, hm, e2 ]
        exact am_E_le (am_lq_of _ _ (by simp [am_leb])) e
      rw [if_neg a1] at e
      by_cases a2 : j < 8
      · rw [if_pos a2] at e
        rw [e141_20]; simp (disch := (first | omega | (simp (disch := omega) only [sr_up, wr_up_o]; omega))) only [ks_100, ks_99, rm_tape hρ, ite_self, Bool.false_eq_true, eq_self, isk_t, i20_t, w20_t, l23_t, b21_t, b22_t, w_t, bif_t, bif_f, bif_d, if_pos, if_neg, if_true, if_false, not_true_eq_false, not_false_eq_true, Option.bind_some, Option.toList_some, Option.toList_none, List.cons_append, List.nil_append, Int.toNat_natCast, Int.reduceToNat, up_eq, up_p, up_k, sN,  hn, hm, e2 ]
        exact am_E_le (am_lq_of _ _ (by simp [am_leb])) e
      rw [if_neg a2] at e
      by_cases a3 : j < 12
      · rw [if_pos a3] at e
        rw [e141_20]; simp (disch := (first | omega | (simp (disch := omega) only [sr_up, wr_up_o]; omega))) only [ks_100, ks_99, rm_tape hρ, ite_self, Bool.false_eq_true, eq_self, isk_t, i20_t, w20_t, l23_t, b21_t, b22_t, w_t, bif_t, bif_f, bif_d, if_pos, if_neg, if_true, if_false, not_true_eq_false, not_false_eq_true, Option.bind_some, Option.toList_some, Option.toList_none, List.cons_append, List.nil_append, Int.toNat_natCast, Int.reduceToNat, up_eq, up_p, up_k, sN,  hn, hm, e2 ]
        exact am_E_le (am_lq_of _ _ (by simp [am_leb])) e
      rw [if_neg a3] at e
      by_cases a4 : j < 16
      · rw [if_pos a4] at e
        rw [e141_20]; simp (disch := (first | omega | (simp (disch := omega) only [sr_up, wr_up_o]; omega))) only [ks_100, ks_99, rm_tape hρ, ite_self, Bool.false_eq_true, eq_self, isk_t, i20_t, w20_t, l23_t, b21_t, b22_t, w_t, bif_t, bif_f, bif_d, if_pos, if_neg, if_true, if_false, not_true_eq_false, not_false_eq_true, Option.bind_some, Option.toList_some, Option.toList_none, List.cons_append, List.nil_append, Int.toNat_natCast, Int.reduceToNat, up_eq, up_p, up_k, sN,  hn, hm, e2 ]
        exact am_E_le (am_lq_of _ _ (by simp [am_leb])) e
      rw [if_neg a4] at e
      rw [e141_20]; simp (disch := (first | omega | (simp (disch := omega) only [sr_up, wr_up_o]; omega))) only [ks_100, ks_99, rm_tape hρ, ite_self, Bool.false_eq_true, eq_self, isk_t, i20_t, w20_t, l23_t, b21_t, b22_t, w_t, bif_t, bif_f, bif_d, if_pos, if_neg, if_true, if_false, not_true_eq_false, not_false_eq_true, Option.bind_some, Option.toList_some, Option.toList_none, List.cons_append, List.nil_append, Int.toNat_natCast, Int.reduceToNat, up_eq, up_p, up_k, sN,  hn, hm, e2 ]
      exact am_E_le (am_lq_of _ _ (by simp [am_leb])) e
theorem ra_tap (h : RAx ρ μ b w u S W) (hf : ∀ q k, ¬ ((q = 0 ∧ k = 1) ∨ q = 1 ∨ (q = 99 ∧ (k = 0 ∨ k = 2)) ∨ q = 100) → μc q k = μ q k) (ht : TAP μc) : RAx ρ μc b w u S W := by
  obtain ⟨h1, h2, h3, h4, h5, h6, h7, h8⟩ := h
  refine ⟨rl_b h1 (frr_rf ρ) (fun q k g => hf q k (by omega)), und_fr h2 (hf _ _ (by omega)) (hf _ _ (by omega)) (fun q i g0 g1 => hf _ _ (by omega)) (fun s g0 g1 => WR_s (by omega) (fun q k g => hf q k (by unfold FrT at g; omega))), img_fr h3 (hf _ _ (by omega)) (hf _ _ (by omega)) (fun q k g0 g1 => hf _ _ (by omega)) (WR_s (by omega) (fun q k g => hf q k (by unfold FrT at g; omega))), nts_fr h4 (fun k _ => hf _ _ (by omega)) (hf _ _ (by omega)) (hf _ _ (by omega)) (fun q i g => hf _ _ (by omega)), ht, ⟨by rw [hf _ _ (by omega), hf _ _ (by omega)]; exact h6.1, by rw [hf _ _ (by omega), hf _ _ (by omega)]; exact h6.2⟩, cst_fr h7 rfl (fun i => hf _ _ (by omega)) (fun q i g => hf _ _ (by omega)), h8⟩
theorem C_feed (h : RA ρ μ) {x1 x2 x3 x4 x5 : Int} : BT ρ μ cs (fun H => am_E (d + 20) 85 0 [some (.inr (.inr 0)), some (.inl x1), some (.inl x2), some (.inl x3), some (.inl x4), some (.inl x5)] [] H) (fun H => am_E (d + 20) 141 0 [some (.inr (.inr 99)), some (.inl x1), some (.inl x2), some (.inl x3), some (.inl x4), some (.inl x5), none, none] [] H) := by
  obtain ⟨b, w, u, S, W, h⟩ := h
  have hR := h
  obtain ⟨h, r2, r3, r4, r5, r6, r7, r8⟩ := h
  obtain ⟨hx, hρ, -⟩ := h
  obtain ⟨t1, t2, t3⟩ := r5
  obtain ⟨n, hn⟩ : ∃ n : Nat, μ 99 2 = (n : Int) := ⟨(μ 99 2).toNat, by omega⟩
  rw [hn] at t1 t2 t3
  by_cases c : n + 20 ≤ 700
  · obtain ⟨μ1, f1, e1⟩ := X_feed (ρ := ρ) (d := d + 19) (cs := cs) (x1 := x1) (x2 := x2) (x3 := x3) (x4 := x4) (x5 := x5) hx t1 c
    obtain ⟨μ2, f2, e2⟩ := R_feed1 (d := d + 20) (cs := cs) (x1 := x1) (x2 := x2) (x3 := x3) (x4 := x4) (x5 := x5) hρ 20 0 (μ := am_up μ1 99 0 0) (n := n) (by rw [up_k (by omega), f1, if_neg (by omega), if_neg (by omega)]; exact hn) c (by omega)
    have hm : am_up μ1 99 0 0 99 2 = (n : Int) := by rw [up_k (by omega), f1, if_neg (by omega), if_neg (by omega)]; exact hn
    refine ⟨.inl ((n : Int) + 20), ρ, μ1, μ2, e1, ?_, b, w, u, S, W, ra_tap hR (fun q k g => ?_) ⟨?_, ?_, fun i hi => ?_⟩⟩
    · have hm1 : μ1 99 2 = (n : Int) := by rw [f1, if_neg (by omega), if_neg (by omega)]; exact hn
      show am_E (d + 20) 141 0 [some (.inr (.inr 99)), some (.inl x1), some (.inl x2), some (.inl x3), some (.inl x4), some (.inl x5), none, none] [] (SH, ρ, μ1, cs) = _
      simp (disch := (first | omega | (simp (disch := omega) only [sr_up, wr_up_o]; omega))) only [e141_0, ks_99, ite_self, Bool.false_eq_true, eq_self, isk_t, i20_t, w20_t, l23_t, b21_t, b22_t, w_t, bif_t, bif_f, bif_d, if_pos, if_neg, if_true, if_false, not_true_eq_false, not_false_eq_true, Option.bind_some, Option.toList_some, Option.toList_none, List.cons_append, List.nil_append, Int.toNat_natCast, Int.reduceToNat, up_eq, up_p, up_k, sN,  hm1 ]
      exact e2
    · rw [f2, if_neg (by omega), if_neg (by omega), am_up_no (by omega), f1, if_neg (by omega), if_neg (by omega)]
    · rw [f2, if_neg (by omega), if_neg (by omega), am_up_no (by omega), f1, if_neg (by omega), if_pos ⟨rfl, rfl⟩, f2, if_neg (by omega), if_pos ⟨rfl, rfl⟩]
    · rw [f2, if_neg (by omega), if_pos ⟨rfl, rfl⟩]
      omega
    · rw [f2 99 2, if_neg (by omega), if_pos ⟨rfl, rfl⟩] at hi
      rw [f2 1 i, if_neg (by omega), if_neg (by omega), am_up_no (by omega), f1, f2 100 i]
      by_cases g : n ≤ i
      · rw [if_pos (by omega), if_pos (by omega)]
        exact am_b_b _
      · rw [if_neg (by omega), if_neg (by omega), if_neg (by omega), if_neg (by omega), am_up_no (by omega), f1, if_neg (by omega), if_neg (by omega)]
        exact t3 i (by omega)
  · refine ⟨.inl (-1), ρ, μ, am_up μ 99 0 0, ?_, ?_, b, w, u, S, W, ra_q hR (frr_rf ρ) (frq_t0 μ 0)⟩
    · simp (disch := omega) only [e85_0, xk_0, xk_1, xk_40, xk_41, xk_42, xk_43, xk_44, xk_45, xk_46, xk_47, xk_48, xk_49, xk_50, xk_51, xk_52, xk_53, xk_54, xk_55, xk_56, xk_57, xk_58, xk_59, xk_60, xk_61, xk_62, xk_63, xk_64, xk_65, xk_66, xk_67, xk_68, xk_69, xk_70, xk_71, xk_72, xk_73, xk_74, xk_75, xk_76, xk_77, xk_78, xk_79, xk_80, xk_81, xk_82, xk_83, xk_84, xk_85, xk_86, xk_87, xk_88, xk_89, xk_90, xk_91, xk_92, xk_93, xk_94, xk_95, xk_96, xk_97, xk_98, xm_0_0 hx, xm_0_10 hx, xm_0_11 hx, xm_0_12 hx, xm_0_13 hx, xm_0_14 hx, xm_0_15 hx, xm_0_2 hx, xm_0_9 hx, xm_40_0 hx, xm_40_1 hx, xm_41_0 hx, xm_44_0 hx, xm_44_1 hx, xm_73_4 hx, xm_73_5 hx, xm_73_6 hx, xm_77_1 hx, xm_77_2 hx, xm_77_3 hx, xm_77_4 hx, xm_77_5 hx, xm_77_6 hx, xm_77_7 hx, xm_77_8 hx, xm_77_9 hx, xm_87_2 hx, xm_87_3 hx, xm_87_4 hx, xm_87_5 hx, xm_87_6 hx, xm_87_7 hx, xm_87_8 hx, ite_self, Bool.false_eq_true, eq_self, isk_t, i20_t, w20_t, l23_t, b21_t, b22_t, w_t, bif_t, bif_f, bif_d, if_pos, if_neg, if_true, if_false, not_true_eq_false, not_false_eq_true, Option.bind_some, Option.toList_some, Option.toList_none, List.cons_append, List.nil_append, Int.toNat_natCast, Int.reduceToNat, up_eq, up_p, up_k, sN,  t1 ]
    · simp (disch := (first | omega | (simp (disch := omega) only [sr_up, wr_up_o]; omega))) only [e141_0, ks_99, ite_self, Bool.false_eq_true, eq_self, isk_t, i20_t, w20_t, l23_t, b21_t, b22_t, w_t, bif_t, bif_f, bif_d, if_pos, if_neg, if_true, if_false, not_true_eq_false, not_false_eq_true, Option.bind_some, Option.toList_some, Option.toList_none, List.cons_append, List.nil_append, Int.toNat_natCast, Int.reduceToNat, up_eq, up_p, up_k, sN,  hn ]
end FD
