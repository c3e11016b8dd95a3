/-! QUERIES: lone, law, pairs, rests, rest -/
def pairB (S : MS) (C : MC) (W : MW) (p q t : Int) : Bool := fitB S C W (max p q) t (W 5 (min p q) t) (chain W (min p q) t)
theorem bset_more {f : Int → Bool} {n : Nat} {m : Nat} (hm : n = m) : bset f n = bset f m := by rw [hm]
def pairsF (S : MS) (C : MC) (W : MW) (t : Int) (p q : Int) : Bool := decide (W 5 p t ≠ -1 ∧ W 5 q t ≠ -1) && pairB S C W p q t
def pairsA (S : MS) (C : MC) (W : MW) (t : Int) : Int := if 0 ≤ t ∧ t < S 0 1 then sumN (fun q => cnt (fun p => pairsF S C W t p q) q.toNat) (men S) else -1
/-- pairs, counted by the first or by the second one -/
theorem pairs_swap (f : Int → Int → Bool) (n : Nat) : sumN (fun p => cnt (fun q => decide (p < q) && f p q) n) n = sumN (fun q => cnt (fun p => f p q) q.toNat) n := by
  have e1 : sumN (fun p => cnt (fun q => decide (p < q) && f p q) n) n = sumN (fun p => sumN (fun q => if (decide (p < q) && f p q) = true then 1 else 0) n) n := sumN_congr (fun p _ _ => cnt_sum n)
  rw [e1, fubini]
  refine sumN_congr (fun q q0 q1 => ?_)
  rw [cnt_sum]
  obtain ⟨m, hm⟩ : ∃ m : Nat, n = q.toNat + m := ⟨n - q.toNat, by omega⟩
  rw [hm, sumN_cut m (fun p h0 h1 => by
    have : ¬ p < q := by omega
    simp [this])]
  refine sumN_congr (fun p p0 p1 => ?_)
  have : p < q := by omega
  simp [this]
section QC
variable {ρ : Nat → Nat → Nat} {μ : Nat → Nat → Int} {cs : Nat × Nat × Nat} {d b w u : Nat} {S : MS} {W : MW}
def loneA (S : MS) (W : MW) : Nat := bset (fun t => decide (manyF S W t = 1)) (S 0 1).toNat
theorem R_lone (h : RLq ρ μ b w u S W) : ∃ μ', FrQ μ μ' ∧ am_E (d + 3) 231 0 [some (.inr (.inr 99)), none, none] [] (SH, ρ, μ, cs) = some (some (.inl ((loneA S W : Nat) : Int)), (SH, ρ, μ', cs)) := by
  obtain ⟨hx, hρ, hb, hgs, hw46, hu64, hSR, hS, hX, hWR, hWI, hW, hday, h49, h51, h53⟩ := h; have hw : w = 46 ∨ w = 55 ∨ w = 64 := Or.inl hw46; have hu : u = 46 ∨ u = 55 ∨ u = 64 := Or.inr (Or.inr hu64); have hn5 := (xm_0_5 hx).trans hw46.symm; have hn7 := (xm_0_7 hx).trans hu64.symm; have b0 := hS.1; have b1 := hS.2.1
  refine ⟨am_up μ 99 0 0, frq_t0 μ 0, ?_⟩
  have hN : μ 101 1 = S 0 1 := by rw [← hSR]; rfl
  have hlo : ∀ (n k : Nat), (k : Int) + n = S 0 1 → am_E (d + 3) 231 9 [some (.inr (.inr 99)), some (.inl ((bset (fun t => decide (manyF S W t = 1)) k : Nat) : Int)), some (.inl (k : Int))] [] (SH, ρ, am_up μ 99 0 0, cs) = some (some (.inl ((loneA S W : Nat) : Int)), (SH, ρ, am_up μ 99 0 0, cs)) := by
    intro n
    induction n with
    | zero =>
      intro k hk
      have e : (S 0 1).toNat = k := by omega
      unfold loneA
      rw [e]
      rw [e231_9]; simp (disch := (first | omega | (simp (disch := omega) only [sr_up, wr_up_o]; omega))) only [ks_101, ks_99, rm_number hρ, ite_self, Bool.false_eq_true, eq_self, isk_t, i20_t, w20_t, l23_t, b21_t, b22_t, w_t, bif_t, bif_f, bif_d, if_pos, if_neg, if_true, if_false, not_true_eq_false, not_false_eq_true, Option.bind_some, Option.toList_some, Option.toList_none, List.cons_append, List.nil_append, Int.toNat_natCast, Int.reduceToNat, up_eq, up_p, up_k, sN,  hN ]
    | succ n ih =>
      intro k hk
      have hb2 := bset_lt31 (fun t => decide (manyF S W t = 1)) (n := k) (by omega)
      have h2 := ih (k + 1) (by omega)
      have e2 : ((k + 1 : Nat) : Int) = (k : Int) + 1 := by omega
      rw [e2] at h2
      have hS' : SR (am_up μ 99 0 0) = S := by rw [sr_up (by omega)]; exact hSR
      have hwh := fun d => R_whoHas (ρ := ρ) (cs := cs) (d := d) (μ := am_up μ 99 0 0) (s := 0) (t := (k : Int)) hρ (by omega) (by omega) (by omega) (by omega) (by rw [hS']; exact b0.2) (by rw [hS']; exact b0.1)
      rw [hS', wr_up_o (by omega), hWR] at hwh
      have hbs := fun d => R_bitsSet (ρ := ρ) (cs := cs) (d := d) (μ := am_up μ 99 0 0) (sh := SH) (f := fun p => decide (W 5 p (k : Int) ≠ -1)) (n := men S) (by unfold men; omega)
      have em : cnt (fun p => decide (W 5 p (k : Int) ≠ -1)) (men S) = manyF S W k := rfl
      rw [em] at hbs
      by_cases q : manyF S W k = 1
      · have e := bset_or (f := fun t => decide (manyF S W t = 1)) (n := k) (by simp [q])
        rw [← e] at h2
        rw [e231_9]; simp (disch := (first | omega | (simp (disch := omega) only [sr_up, wr_up_o]; omega))) only [e231_26, e231_29, ks_101, ks_99, rm_number hρ, ite_self, Bool.false_eq_true, eq_self, isk_t, i20_t, w20_t, l23_t, b21_t, b22_t, w_t, bif_t, bif_f, bif_d, if_pos, if_neg, if_true, if_false, not_true_eq_false, not_false_eq_true, Option.bind_some, Option.toList_some, Option.toList_none, List.cons_append, List.nil_append, Int.toNat_natCast, Int.reduceToNat, up_eq, up_p, up_k, sN,  hN, hwh, hbs, ib_or1 ]
        exact h2
      · have e : bset (fun t => decide (manyF S W t = 1)) (k + 1) = bset (fun t => decide (manyF S W t = 1)) k := by
          show (if decide (manyF S W k = 1) = true then _ else _) = _
          rw [if_neg (by simp [q])]
        rw [e] at h2
        rw [e231_9]; simp (disch := (first | omega | (simp (disch := omega) only [sr_up, wr_up_o]; omega))) only [e231_26, e231_29, ks_101, ks_99, rm_number hρ, ite_self, Bool.false_eq_true, eq_self, isk_t, i20_t, w20_t, l23_t, b21_t, b22_t, w_t, bif_t, bif_f, bif_d, if_pos, if_neg, if_true, if_false, not_true_eq_false, not_false_eq_true, Option.bind_some, Option.toList_some, Option.toList_none, List.cons_append, List.nil_append, Int.toNat_natCast, Int.reduceToNat, up_eq, up_p, up_k, sN,  hN, hwh, hbs, ib_or0 ]
        exact h2
  have h3 := hlo (S 0 1).toNat 0 (by omega)
  simp (disch := (first | omega | (simp (disch := omega) only [sr_up, wr_up_o]; omega))) only [e231_0, ks_99, ite_self, Bool.false_eq_true, eq_self, isk_t, i20_t, w20_t, l23_t, b21_t, b22_t, w_t, bif_t, bif_f, bif_d, if_pos, if_neg, if_true, if_false, not_true_eq_false, not_false_eq_true, Option.bind_some, Option.toList_some, Option.toList_none, List.cons_append, List.nil_append, Int.toNat_natCast, Int.reduceToNat, up_eq, up_p, up_k, sN]
  exact h3
theorem X_lone (h : RLq ρ μ b w u S W) : am_E (d + 3) 108 0 [some (.inr (.inr 0)), none, none] [] (SH, ρ, μ, cs) = some (some (.inl ((loneA S W : Nat) : Int)), (SH, ρ, μ, cs)) := by
  obtain ⟨hx, hρ, hb, hgs, hw46, hu64, hSR, hS, hX, hWR, hWI, hW, hday, h49, h51, h53⟩ := h; have hw : w = 46 ∨ w = 55 ∨ w = 64 := Or.inl hw46; have hu : u = 46 ∨ u = 55 ∨ u = 64 := Or.inr (Or.inr hu64); have hn5 := (xm_0_5 hx).trans hw46.symm; have hn7 := (xm_0_7 hx).trans hu64.symm; have b0 := hS.1; have b1 := hS.2.1
  have hN := hX.1.2.1
  have hlo : ∀ (n k : Nat), (k : Int) + n = S 0 1 → am_E (d + 3) 108 4 [some (.inr (.inr 0)), some (.inl ((bset (fun t => decide (manyF S W t = 1)) k : Nat) : Int)), some (.inl (k : Int))] [] (SH, ρ, μ, cs) = some (some (.inl ((loneA S W : Nat) : Int)), (SH, ρ, μ, cs)) := by
    intro n
    induction n with
    | zero =>
      intro k hk
      have e : (S 0 1).toNat = k := by omega
      unfold loneA
      rw [e]
      rw [e108_4]; simp (disch := omega) only [hgs, hn5, xk_0, xk_1, xk_40, xk_41, xk_42, xk_43, xk_44, xk_45, xk_46, xk_47, xk_48, xk_49, xk_50, xk_51, xk_52, xk_53, xk_54, xk_55, xk_56, xk_57, xk_58, xk_59, xk_60, xk_61, xk_62, xk_63, xk_64, xk_65, xk_66, xk_67, xk_68, xk_69, xk_70, xk_71, xk_72, xk_73, xk_74, xk_75, xk_76, xk_77, xk_78, xk_79, xk_80, xk_81, xk_82, xk_83, xk_84, xk_85, xk_86, xk_87, xk_88, xk_89, xk_90, xk_91, xk_92, xk_93, xk_94, xk_95, xk_96, xk_97, xk_98, xk_st0 hb, xk_st1 hb, xk_st10 hb, xk_st11 hb, xk_st12 hb, xk_st13 hb, xk_st14 hb, xk_st15 hb, xk_st16 hb, xk_st17 hb, xk_st18 hb, xk_st2 hb, xk_st3 hb, xk_st4 hb, xk_st5 hb, xk_st6 hb, xk_st7 hb, xk_st8 hb, xk_st9 hb, xk_wd0 hw, xk_wd1 hw, xk_wd2 hw, xk_wd3 hw, xk_wd4 hw, xk_wd5 hw, xk_wd6 hw, xk_wd7 hw, xk_wd8 hw, xm_0_0 hx, xm_0_10 hx, xm_0_11 hx, xm_0_12 hx, xm_0_13 hx, xm_0_14 hx, xm_0_15 hx, xm_0_2 hx, xm_0_9 hx, xm_40_0 hx, xm_40_1 hx, xm_41_0 hx, xm_44_0 hx, xm_44_1 hx, xm_73_4 hx, xm_73_5 hx, xm_73_6 hx, xm_77_1 hx, xm_77_2 hx, xm_77_3 hx, xm_77_4 hx, xm_77_5 hx, xm_77_6 hx, xm_77_7 hx, xm_77_8 hx, xm_77_9 hx, xm_87_2 hx, xm_87_3 hx, xm_87_4 hx, xm_87_5 hx, xm_87_6 hx, xm_87_7 hx, xm_87_8 hx, xm_lw2 hx hb, xm_lw3 hx hb, xm_lw4 hx hb, xm_lw5 hx hb, xm_st1 hx hb, xm_st10 hx hb, xm_st11 hx hb, xm_st13 hx hb, xm_st14 hx hb, xm_st15 hx hb, xm_st16 hx hb, xm_st17 hx hb, xm_st2 hx hb, xm_st4 hx hb, xm_st5 hx hb, xm_st6 hx hb, xm_st7 hx hb, xm_st9 hx hb, xm_wd10 hx hw, xm_wd11 hx hw, xm_wd4 hx hw, xm_wd5 hx hw, xm_wd6 hx hw, xm_wd7 hx hw, xm_wd8 hx hw, xm_wd9 hx hw, ite_self, Bool.false_eq_true, eq_self, isk_t, i20_t, w20_t, l23_t, b21_t, b22_t, w_t, bif_t, bif_f, bif_d, if_pos, if_neg, if_true, if_false, not_true_eq_false, not_false_eq_true, Option.bind_some, Option.toList_some, Option.toList_none, List.cons_append, List.nil_append, Int.toNat_natCast, Int.reduceToNat, up_eq, up_p, up_k, sN,  hN ]
    | succ n ih =>
      intro k hk
      have hb2 := bset_lt31 (fun t => decide (manyF S W t = 1)) (n := k) (by omega)
      have h2 := ih (k + 1) (by omega)
      have e2 : ((k + 1 : Nat) : Int) = (k : Int) + 1 := by omega
      rw [e2] at h2
      have hho := fun d => X_holders (ρ := ρ) (cs := cs) (d := d) hx hw hW (t := (k : Int)) (by omega) (by omega)
      have hbl : bset (fun p => decide (W 5 p (k : Int) ≠ -1)) 7 < 128 := bset_lt _ 7
      have hmany := many_7 hS hWI (t := (k : Int)) (by omega) (by omega)
      by_cases q : manyF S W k = 1
      · have e := bset_or (f := fun t => decide (manyF S W t = 1)) (n := k) (by simp [q])
        rw [← e] at h2
        rw [e108_4]; simp (disch := omega) only [e108_23, e108_26, hgs, hn5, xk_0, xk_1, xk_40, xk_41, xk_42, xk_43, xk_44, xk_45, xk_46, xk_47, xk_48, xk_49, xk_50, xk_51, xk_52, xk_53, xk_54, xk_55, xk_56, xk_57, xk_58, xk_59, xk_60, xk_61, xk_62, xk_63, xk_64, xk_65, xk_66, xk_67, xk_68, xk_69, xk_70, xk_71, xk_72, xk_73, xk_74, xk_75, xk_76, xk_77, xk_78, xk_79, xk_80, xk_81, xk_82, xk_83, xk_84, xk_85, xk_86, xk_87, xk_88, xk_89, xk_90, xk_91, xk_92, xk_93, xk_94, xk_95, xk_96, xk_97, xk_98, xk_st0 hb, xk_st1 hb, xk_st10 hb, xk_st11 hb, xk_st12 hb, xk_st13 hb, xk_st14 hb, xk_st15 hb, xk_st16 hb, xk_st17 hb, xk_st18 hb, xk_st2 hb, xk_st3 hb, xk_st4 hb, xk_st5 hb, xk_st6 hb, xk_st7 hb, xk_st8 hb, xk_st9 hb, xk_wd0 hw, xk_wd1 hw, xk_wd2 hw, xk_wd3 hw, xk_wd4 hw, xk_wd5 hw, xk_wd6 hw, xk_wd7 hw, xk_wd8 hw, xm_0_0 hx, xm_0_10 hx, xm_0_11 hx, xm_0_12 hx, xm_0_13 hx, xm_0_14 hx, xm_0_15 hx, xm_0_2 hx, xm_0_9 hx, xm_40_0 hx, xm_40_1 hx, xm_41_0 hx, xm_44_0 hx, xm_44_1 hx, xm_73_4 hx, xm_73_5 hx, xm_73_6 hx, xm_77_1 hx, xm_77_2 hx, xm_77_3 hx, xm_77_4 hx, xm_77_5 hx, xm_77_6 hx, xm_77_7 hx, xm_77_8 hx, xm_77_9 hx, xm_87_2 hx, xm_87_3 hx, xm_87_4 hx, xm_87_5 hx, xm_87_6 hx, xm_87_7 hx, xm_87_8 hx, xm_lw2 hx hb, xm_lw3 hx hb, xm_lw4 hx hb, xm_lw5 hx hb, xm_st1 hx hb, xm_st10 hx hb, xm_st11 hx hb, xm_st13 hx hb, xm_st14 hx hb, xm_st15 hx hb, xm_st16 hx hb, xm_st17 hx hb, xm_st2 hx hb, xm_st4 hx hb, xm_st5 hx hb, xm_st6 hx hb, xm_st7 hx hb, xm_st9 hx hb, xm_wd10 hx hw, xm_wd11 hx hw, xm_wd4 hx hw, xm_wd5 hx hw, xm_wd6 hx hw, xm_wd7 hx hw, xm_wd8 hx hw, xm_wd9 hx hw, ite_self, Bool.false_eq_true, eq_self, isk_t, i20_t, w20_t, l23_t, b21_t, b22_t, w_t, bif_t, bif_f, bif_d, if_pos, if_neg, if_true, if_false, not_true_eq_false, not_false_eq_true, Option.bind_some, Option.toList_some, Option.toList_none, List.cons_append, List.nil_append, Int.toNat_natCast, Int.reduceToNat, up_eq, up_p, up_k, sN,  hN, hho, X_bits, hmany, ib_or1 ]
        exact h2
      · have e : bset (fun t => decide (manyF S W t = 1)) (k + 1) = bset (fun t => decide (manyF S W t = 1)) k := by
          show (if decide (manyF S W k = 1) = true then _ else _) = _
          rw [if_neg (by simp [q])]
        rw [e] at h2
        rw [e108_4]; simp (disch := omega) only [e108_23, e108_26, hgs, hn5, xk_0, xk_1, xk_40, xk_41, xk_42, xk_43, xk_44, xk_45, xk_46, xk_47, xk_48, xk_49, xk_50, xk_51, xk_52, xk_53, xk_54, xk_55, xk_56, xk_57, xk_58, xk_59, xk_60, xk_61, xk_62, xk_63, xk_64, xk_65, xk_66, xk_67, xk_68, xk_69, xk_70, xk_71, xk_72, xk_73, xk_74, xk_75, xk_76, xk_77, xk_78, xk_79, xk_80, xk_81, xk_82, xk_83, xk_84, xk_85, xk_86, xk_87, xk_88, xk_89, xk_90, xk_91, xk_92, xk_93, xk_94, xk_95, xk_96, xk_97, xk_98, xk_st0 hb, xk_st1 hb, xk_st10 hb, xk_st11 hb, xk_st12 hb, xk_st13 hb, xk_st14 hb, xk_st15 hb, xk_st16 hb, xk_st17 hb, xk_st18 hb, xk_st2 hb, xk_st3 hb, xk_st4 hb, xk_st5 hb, xk_st6 hb, xk_st7 hb, xk_st8 hb, xk_st9 hb, xk_wd0 hw, xk_wd1 hw, xk_wd2 hw, xk_wd3 hw, xk_wd4 hw, xk_wd5 hw, xk_wd6 hw, xk_wd7 hw, xk_wd8 hw, xm_0_0 hx, xm_0_10 hx, xm_0_11 hx, xm_0_12 hx, xm_0_13 hx, xm_0_14 hx, xm_0_15 hx, xm_0_2 hx, xm_0_9 hx, xm_40_0 hx, xm_40_1 hx, xm_41_0 hx, xm_44_0 hx, xm_44_1 hx, xm_73_4 hx, xm_73_5 hx, xm_73_6 hx, xm_77_1 hx, xm_77_2 hx, xm_77_3 hx, xm_77_4 hx, xm_77_5 hx, xm_77_6 hx, xm_77_7 hx, xm_77_8 hx, xm_77_9 hx, xm_87_2 hx, xm_87_3 hx, xm_87_4 hx, xm_87_5 hx, xm_87_6 hx, xm_87_7 hx, xm_87_8 hx, xm_lw2 hx hb, xm_lw3 hx hb, xm_lw4 hx hb, xm_lw5 hx hb, xm_st1 hx hb, xm_st10 hx hb, xm_st11 hx hb, xm_st13 hx hb, xm_st14 hx hb, xm_st15 hx hb, xm_st16 hx hb, xm_st17 hx hb, xm_st2 hx hb, xm_st4 hx hb, xm_st5 hx hb, xm_st6 hx hb, xm_st7 hx hb, xm_st9 hx hb, xm_wd10 hx hw, xm_wd11 hx hw, xm_wd4 hx hw, xm_wd5 hx hw, xm_wd6 hx hw, xm_wd7 hx hw, xm_wd8 hx hw, xm_wd9 hx hw, ite_self, Bool.false_eq_true, eq_self, isk_t, i20_t, w20_t, l23_t, b21_t, b22_t, w_t, bif_t, bif_f, bif_d, if_pos, if_neg, if_true, if_false, not_true_eq_false, not_false_eq_true, Option.bind_some, Option.toList_some, Option.toList_none, List.cons_append, List.nil_append, Int.toNat_natCast, Int.reduceToNat, up_eq, up_p, up_k, sN,  hN, hho, X_bits, hmany ]
        exact h2
  have h3 := hlo (S 0 1).toNat 0 (by omega)
  rw [e108_0]
  exact h3
theorem R_doPair (h : RLq ρ μ b w u S W) {p q t : Int} (p0 : 0 ≤ p) (p1 : p < S 0 0) (q0 : 0 ≤ q) (q1 : q < S 0 0) (t0 : 0 ≤ t) (t1 : t < S 0 1) : ∃ μ', FrN μ μ' ∧ am_E (d + 5) 224 0 [some (.inr (.inr 99)), some (.inl p), some (.inl q), some (.inl t), none] [] (SH, ρ, μ, cs) = some (some (.inl (if pairB S (CR μ 0) W p q t = true then 1 else 0)), (SH, ρ, μ', cs)) := by
  have hG := (cr_gc h).1
  obtain ⟨hx, hρ, hb, hgs, hw46, hu64, hSR, hS, hX, hWR, hWI, hW, hday, h49, h51, h53⟩ := h; have hw : w = 46 ∨ w = 55 ∨ w = 64 := Or.inl hw46; have hu : u = 46 ∨ u = 55 ∨ u = 64 := Or.inr (Or.inr hu64); have hn5 := (xm_0_5 hx).trans hw46.symm; have hn7 := (xm_0_7 hx).trans hu64.symm; have b0 := hS.1; have b1 := hS.2.1
  have bm := hWI.2.2.2.2.2 (min p q) t (by omega) (by omega) t0 (by omega)
  have hcl := chain_lt hWI (p := min p q) (t := t) (by omega) (by omega) t0 (by omega)
  obtain ⟨μ1, g1, g2⟩ := R_doesFit (ρ := ρ) (μ := μ) (cs := cs) (d := d) (s := 0) (b := 0) (p := max p q) (t := t) (hats := W 5 (min p q) t) (ch := chain W (min p q) t) (D := 10000) hρ (by omega) (by omega) (by omega) (by rw [hSR]; omega) t0 (by omega) (by rw [hSR]; exact hS) (by rw [hSR]; exact gc_ci hS hG) (by omega) (by rw [hSR, hWR]; exact hWI) (by omega) (by omega) hcl
  rw [hSR, hWR] at g2
  have hch := fun d => R_chain (ρ := ρ) (cs := cs) (d := d) (μ := μ) (s := 0) (p := min p q) (t := t) hρ (by omega) (by omega) (by omega) (by omega) t0 (by omega) (by rw [hWR]; exact wi_from hWI t0 (by omega))
  rw [hWR] at hch
  have e5 : μ 125 (sI 0 (min p q) t) = W 5 (min p q) t := by rw [← hWR]; exact wr_hats μ 0 t0 (by omega) (by omega) (by omega)
  refine ⟨μ1, g1, ?_⟩
  unfold pairB
  by_cases c : fitB S (CR μ 0) W (max p q) t (W 5 (min p q) t) (chain W (min p q) t) = true
  · rw [if_pos c] at g2 ⊢
    simp (disch := (first | omega | (simp (disch := omega) only [sr_up, wr_up_o]; omega))) only [e224_0, e224_26, e224_35, e224_38, ks_125, ks_99, rm_hatsOf hρ, ite_self, Bool.false_eq_true, eq_self, isk_t, i20_t, w20_t, l23_t, b21_t, b22_t, w_t, bif_t, bif_f, bif_d, if_pos, if_neg, if_true, if_false, not_true_eq_false, not_false_eq_true, Option.bind_some, Option.toList_some, Option.toList_none, List.cons_append, List.nil_append, Int.toNat_natCast, Int.reduceToNat, up_eq, up_p, up_k, sN,  R_slot, i20_s, imin_t, imax_t, e5, hch, g2, ks_125, or_true, true_or ]
  · rw [if_neg c] at g2 ⊢
    simp (disch := (first | omega | (simp (disch := omega) only [sr_up, wr_up_o]; omega))) only [e224_0, e224_26, e224_35, e224_38, ks_125, ks_99, rm_hatsOf hρ, ite_self, Bool.false_eq_true, eq_self, isk_t, i20_t, w20_t, l23_t, b21_t, b22_t, w_t, bif_t, bif_f, bif_d, if_pos, if_neg, if_true, if_false, not_true_eq_false, not_false_eq_true, Option.bind_some, Option.toList_some, Option.toList_none, List.cons_append, List.nil_append, Int.toNat_natCast, Int.reduceToNat, up_eq, up_p, up_k, sN,  R_slot, i20_s, imin_t, imax_t, e5, hch, g2, ks_125, or_true, true_or ]
theorem frn_r {ρ : Nat → Nat → Nat} {μ μ' : Nat → Nat → Int} {b w u : Nat} {S : MS} {W : MW} (h : RLq ρ μ b w u S W) (hf : FrN μ μ') : RLq ρ μ' b w u S W := rl_q h (frr_rf ρ) (frq_n hf)
theorem X_wouldFit (h : RLq ρ μ b w u S W) {p q t : Int} (p0 : 0 ≤ p) (p1 : p < S 0 0) (q0 : 0 ≤ q) (q1 : q < S 0 0) (hne : p ≠ q) (t0 : 0 ≤ t) (t1 : t < S 0 1) (hp : W 5 p t ≠ -1) (hq : W 5 q t ≠ -1) : ∃ ρ' μ', FrR ρ ρ' ∧ FrY μ μ' ∧ am_E (d + 4) 117 0 [some (.inr (.inr 0)), some (.inl p), some (.inl q), some (.inl t), none, none] [] (SH, ρ, μ, cs) = some (some (.inl (if pairB S (CR μ 0) W p q t = true then 1 else 0)), (SH, ρ', μ', cs)) := by
  have hG := (cr_gc h).1
  have h0 := h
  obtain ⟨hx, hρ, hb, hgs, hw46, hu64, hSR, hS, hX, hWR, hWI, hW, hday, h49, h51, h53⟩ := h; have hw : w = 46 ∨ w = 55 ∨ w = 64 := Or.inl hw46; have hu : u = 46 ∨ u = 55 ∨ u = 64 := Or.inr (Or.inr hu64); have hn5 := (xm_0_5 hx).trans hw46.symm; have hn7 := (xm_0_7 hx).trans hu64.symm; have b0 := hS.1; have b1 := hS.2.1
  obtain ⟨ρ1, μ1, c1, c2, c3, c4⟩ := X_asItGoes (cs := cs) (d := d + 2) (w := w) hx hρ hb hX hS
  have hK := c3 _ hG
  have h1 := rl_q h0 c1.2.2.1 (fry_q (fry_c c2))
  have e1 : am_E (d + 4) 117 0 [some (.inr (.inr 0)), some (.inl p), some (.inl q), some (.inl t), none, none] [] (SH, ρ, μ, cs) = am_E (d + 4) 117 39 [some (.inr (.inr 0)), some (.inl p), some (.inl q), some (.inl t), some (.inl (min p q)), some (.inl (max p q))] [] (SH, ρ1, μ1, cs) := by
    by_cases c : q ≤ p
    · rw [show min p q = q by omega, show max p q = p by omega]
      simp (disch := omega) only [e117_0, hgs, hn5, xk_0, xk_1, xk_40, xk_41, xk_42, xk_43, xk_44, xk_45, xk_46, xk_47, xk_48, xk_49, xk_50, xk_51, xk_52, xk_53, xk_54, xk_55, xk_56, xk_57, xk_58, xk_59, xk_60, xk_61, xk_62, xk_63, xk_64, xk_65, xk_66, xk_67, xk_68, xk_69, xk_70, xk_71, xk_72, xk_73, xk_74, xk_75, xk_76, xk_77, xk_78, xk_79, xk_80, xk_81, xk_82, xk_83, xk_84, xk_85, xk_86, xk_87, xk_88, xk_89, xk_90, xk_91, xk_92, xk_93, xk_94, xk_95, xk_96, xk_97, xk_98, xk_st0 hb, xk_st1 hb, xk_st10 hb, xk_st11 hb, xk_st12 hb, xk_st13 hb, xk_st14 hb, xk_st15 hb, xk_st16 hb, xk_st17 hb, xk_st18 hb, xk_st2 hb, xk_st3 hb, xk_st4 hb, xk_st5 hb, xk_st6 hb, xk_st7 hb, xk_st8 hb, xk_st9 hb, xk_wd0 hw, xk_wd1 hw, xk_wd2 hw, xk_wd3 hw, xk_wd4 hw, xk_wd5 hw, xk_wd6 hw, xk_wd7 hw, xk_wd8 hw, xm_0_0 hx, xm_0_10 hx, xm_0_11 hx, xm_0_12 hx, xm_0_13 hx, xm_0_14 hx, xm_0_15 hx, xm_0_2 hx, xm_0_9 hx, xm_40_0 hx, xm_40_1 hx, xm_41_0 hx, xm_44_0 hx, xm_44_1 hx, xm_73_4 hx, xm_73_5 hx, xm_73_6 hx, xm_77_1 hx, xm_77_2 hx, xm_77_3 hx, xm_77_4 hx, xm_77_5 hx, xm_77_6 hx, xm_77_7 hx, xm_77_8 hx, xm_77_9 hx, xm_87_2 hx, xm_87_3 hx, xm_87_4 hx, xm_87_5 hx, xm_87_6 hx, xm_87_7 hx, xm_87_8 hx, xm_lw2 hx hb, xm_lw3 hx hb, xm_lw4 hx hb, xm_lw5 hx hb, xm_st1 hx hb, xm_st10 hx hb, xm_st11 hx hb, xm_st13 hx hb, xm_st14 hx hb, xm_st15 hx hb, xm_st16 hx hb, xm_st17 hx hb, xm_st2 hx hb, xm_st4 hx hb, xm_st5 hx hb, xm_st6 hx hb, xm_st7 hx hb, xm_st9 hx hb, xm_wd10 hx hw, xm_wd11 hx hw, xm_wd4 hx hw, xm_wd5 hx hw, xm_wd6 hx hw, xm_wd7 hx hw, xm_wd8 hx hw, xm_wd9 hx hw, ite_self, Bool.false_eq_true, eq_self, isk_t, i20_t, w20_t, l23_t, b21_t, b22_t, w_t, bif_t, bif_f, bif_d, if_pos, if_neg, if_true, if_false, not_true_eq_false, not_false_eq_true, Option.bind_some, Option.toList_some, Option.toList_none, List.cons_append, List.nil_append, Int.toNat_natCast, Int.reduceToNat, up_eq, up_p, up_k, sN,  c4 ]
    · rw [show min p q = p by omega, show max p q = q by omega]
      simp (disch := omega) only [e117_0, hgs, hn5, xk_0, xk_1, xk_40, xk_41, xk_42, xk_43, xk_44, xk_45, xk_46, xk_47, xk_48, xk_49, xk_50, xk_51, xk_52, xk_53, xk_54, xk_55, xk_56, xk_57, xk_58, xk_59, xk_60, xk_61, xk_62, xk_63, xk_64, xk_65, xk_66, xk_67, xk_68, xk_69, xk_70, xk_71, xk_72, xk_73, xk_74, xk_75, xk_76, xk_77, xk_78, xk_79, xk_80, xk_81, xk_82, xk_83, xk_84, xk_85, xk_86, xk_87, xk_88, xk_89, xk_90, xk_91, xk_92, xk_93, xk_94, xk_95, xk_96, xk_97, xk_98, xk_st0 hb, xk_st1 hb, xk_st10 hb, xk_st11 hb, xk_st12 hb, xk_st13 hb, xk_st14 hb, xk_st15 hb, xk_st16 hb, xk_st17 hb, xk_st18 hb, xk_st2 hb, xk_st3 hb, xk_st4 hb, xk_st5 hb, xk_st6 hb, xk_st7 hb, xk_st8 hb, xk_st9 hb, xk_wd0 hw, xk_wd1 hw, xk_wd2 hw, xk_wd3 hw, xk_wd4 hw, xk_wd5 hw, xk_wd6 hw, xk_wd7 hw, xk_wd8 hw, xm_0_0 hx, xm_0_10 hx, xm_0_11 hx, xm_0_12 hx, xm_0_13 hx, xm_0_14 hx, xm_0_15 hx, xm_0_2 hx, xm_0_9 hx, xm_40_0 hx, xm_40_1 hx, xm_41_0 hx, xm_44_0 hx, xm_44_1 hx, xm_73_4 hx, xm_73_5 hx, xm_73_6 hx, xm_77_1 hx, xm_77_2 hx, xm_77_3 hx, xm_77_4 hx, xm_77_5 hx, xm_77_6 hx, xm_77_7 hx, xm_77_8 hx, xm_77_9 hx, xm_87_2 hx, xm_87_3 hx, xm_87_4 hx, xm_87_5 hx, xm_87_6 hx, xm_87_7 hx, xm_87_8 hx, xm_lw2 hx hb, xm_lw3 hx hb, xm_lw4 hx hb, xm_lw5 hx hb, xm_st1 hx hb, xm_st10 hx hb, xm_st11 hx hb, xm_st13 hx hb, xm_st14 hx hb, xm_st15 hx hb, xm_st16 hx hb, xm_st17 hx hb, xm_st2 hx hb, xm_st4 hx hb, xm_st5 hx hb, xm_st6 hx hb, xm_st7 hx hb, xm_st9 hx hb, xm_wd10 hx hw, xm_wd11 hx hw, xm_wd4 hx hw, xm_wd5 hx hw, xm_wd6 hx hw, xm_wd7 hx hw, xm_wd8 hx hw, xm_wd9 hx hw, ite_self, Bool.false_eq_true, eq_self, isk_t, i20_t, w20_t, l23_t, b21_t, b22_t, w_t, bif_t, bif_f, bif_d, if_pos, if_neg, if_true, if_false, not_true_eq_false, not_false_eq_true, Option.bind_some, Option.toList_some, Option.toList_none, List.cons_append, List.nil_append, Int.toNat_natCast, Int.reduceToNat, up_eq, up_p, up_k, sN,  c4 ]
  rw [e1]
  clear hx hρ hb hgs hX hW hn5 hn7 hw hu hSR hWR hWI hday h49 h51 h53 hw46 hu64 hS b0 b1
  have hst := c1.2.2.2.1
  have hwd := c1.2.2.2.2
  have h := h1
  obtain ⟨hx, hρ, hb, hgs, hw46, hu64, hSR, hS, hX, hWR, hWI, hW, hday, h49, h51, h53⟩ := h; have hw : w = 46 ∨ w = 55 ∨ w = 64 := Or.inl hw46; have hu : u = 46 ∨ u = 55 ∨ u = 64 := Or.inr (Or.inr hu64); have hn5 := (xm_0_5 hx).trans hw46.symm; have hn7 := (xm_0_7 hx).trans hu64.symm; have b0 := hS.1; have b1 := hS.2.1
  have bm := hWI.2.2.2.2.2 (min p q) t (by omega) (by omega) t0 (by omega)
  have hmin : W 5 (min p q) t ≠ -1 := by rcases (show min p q = p ∨ min p q = q by omega) with e | e <;> rw [e] <;> assumption
  have hmax : W 5 (max p q) t ≠ -1 := by rcases (show max p q = p ∨ max p q = q by omega) with e | e <;> rw [e] <;> assumption
  have hcl := chain_lt hWI (p := min p q) (t := t) (by omega) (by omega) t0 (by omega)
  have hch := fun d => X_chain (ρ := ρ1) (cs := cs) (d := d) (p := min p q) (t := t) hx hw hW (by omega) (by omega) t0 (by omega) (wi_from hWI t0 (by omega))
  have e5 := xw_hats hW (p := min p q) (t := t) (by omega) (by omega) t0 (by omega) hmin
  obtain ⟨μ2, k1, k2⟩ := X_fits (ρ := ρ1) (cs := cs) (d := d) (C := CR μ 0) (D := 10000) (p := max p q) (t := t) (hats := W 5 (min p q) t) (ch := chain W (min p q) t) hx hb hw hst hwd hS (gc_ci hS hG) (by omega) hWI hX hW hK (by omega) (by omega) t0 (by omega) hmax (by omega) (by omega) hcl
  refine ⟨ρ1, μ2, c1.2.2.1, fry_tr (fry_c c2) (fry_z k1), ?_⟩
  unfold pairB
  by_cases c : fitB S (CR μ 0) W (max p q) t (W 5 (min p q) t) (chain W (min p q) t) = true
  · rw [if_pos c] at k2 ⊢
    simp (disch := omega) only [e117_39, e117_59, e117_70, e117_73, hgs, hn5, xk_0, xk_1, xk_40, xk_41, xk_42, xk_43, xk_44, xk_45, xk_46, xk_47, xk_48, xk_49, xk_50, xk_51, xk_52, xk_53, xk_54, xk_55, xk_56, xk_57, xk_58, xk_59, xk_60, xk_61, xk_62, xk_63, xk_64, xk_65, xk_66, xk_67, xk_68, xk_69, xk_70, xk_71, xk_72, xk_73, xk_74, xk_75, xk_76, xk_77, xk_78, xk_79, xk_80, xk_81, xk_82, xk_83, xk_84, xk_85, xk_86, xk_87, xk_88, xk_89, xk_90, xk_91, xk_92, xk_93, xk_94, xk_95, xk_96, xk_97, xk_98, xk_st0 hb, xk_st1 hb, xk_st10 hb, xk_st11 hb, xk_st12 hb, xk_st13 hb, xk_st14 hb, xk_st15 hb, xk_st16 hb, xk_st17 hb, xk_st18 hb, xk_st2 hb, xk_st3 hb, xk_st4 hb, xk_st5 hb, xk_st6 hb, xk_st7 hb, xk_st8 hb, xk_st9 hb, xk_wd0 hw, xk_wd1 hw, xk_wd2 hw, xk_wd3 hw, xk_wd4 hw, xk_wd5 hw, xk_wd6 hw, xk_wd7 hw, xk_wd8 hw, xm_0_0 hx, xm_0_10 hx, xm_0_11 hx, xm_0_12 hx, xm_0_13 hx, xm_0_14 hx, xm_0_15 hx, xm_0_2 hx, xm_0_9 hx, xm_40_0 hx, xm_40_1 hx, xm_41_0 hx, xm_44_0 hx, xm_44_1 hx, xm_73_4 hx, xm_73_5 hx, xm_73_6 hx, xm_77_1 hx, xm_77_2 hx, xm_77_3 hx, xm_77_4 hx, xm_77_5 hx, xm_77_6 hx, xm_77_7 hx, xm_77_8 hx, xm_77_9 hx, xm_87_2 hx, xm_87_3 hx, xm_87_4 hx, xm_87_5 hx, xm_87_6 hx, xm_87_7 hx, xm_87_8 hx, xm_lw2 hx hb, xm_lw3 hx hb, xm_lw4 hx hb, xm_lw5 hx hb, xm_st1 hx hb, xm_st10 hx hb, xm_st11 hx hb, xm_st13 hx hb, xm_st14 hx hb, xm_st15 hx hb, xm_st16 hx hb, xm_st17 hx hb, xm_st2 hx hb, xm_st4 hx hb, xm_st5 hx hb, xm_st6 hx hb, xm_st7 hx hb, xm_st9 hx hb, xm_wd10 hx hw, xm_wd11 hx hw, xm_wd4 hx hw, xm_wd5 hx hw, xm_wd6 hx hw, xm_wd7 hx hw, xm_wd8 hx hw, xm_wd9 hx hw, ite_self, Bool.false_eq_true, eq_self, isk_t, i20_t, w20_t, l23_t, b21_t, b22_t, w_t, bif_t, bif_f, bif_d, if_pos, if_neg, if_true, if_false, not_true_eq_false, not_false_eq_true, Option.bind_some, Option.toList_some, Option.toList_none, List.cons_append, List.nil_append, Int.toNat_natCast, Int.reduceToNat, up_eq, up_p, up_k, sN,  X_cell, i20_c, e5, hch, k2, or_true, true_or ]
  · rw [if_neg c] at k2 ⊢
    simp (disch := omega) only [e117_39, e117_59, e117_70, e117_73, hgs, hn5, xk_0, xk_1, xk_40, xk_41, xk_42, xk_43, xk_44, xk_45, xk_46, xk_47, xk_48, xk_49, xk_50, xk_51, xk_52, xk_53, xk_54, xk_55, xk_56, xk_57, xk_58, xk_59, xk_60, xk_61, xk_62, xk_63, xk_64, xk_65, xk_66, xk_67, xk_68, xk_69, xk_70, xk_71, xk_72, xk_73, xk_74, xk_75, xk_76, xk_77, xk_78, xk_79, xk_80, xk_81, xk_82, xk_83, xk_84, xk_85, xk_86, xk_87, xk_88, xk_89, xk_90, xk_91, xk_92, xk_93, xk_94, xk_95, xk_96, xk_97, xk_98, xk_st0 hb, xk_st1 hb, xk_st10 hb, xk_st11 hb, xk_st12 hb, xk_st13 hb, xk_st14 hb, xk_st15 hb, xk_st16 hb, xk_st17 hb, xk_st18 hb, xk_st2 hb, xk_st3 hb, xk_st4 hb, xk_st5 hb, xk_st6 hb, xk_st7 hb, xk_st8 hb, xk_st9 hb, xk_wd0 hw, xk_wd1 hw, xk_wd2 hw, xk_wd3 hw, xk_wd4 hw, xk_wd5 hw, xk_wd6 hw, xk_wd7 hw, xk_wd8 hw, xm_0_0 hx, xm_0_10 hx, xm_0_11 hx, xm_0_12 hx, xm_0_13 hx, xm_0_14 hx, xm_0_15 hx, xm_0_2 hx, xm_0_9 hx, xm_40_0 hx, xm_40_1 hx, xm_41_0 hx, xm_44_0 hx, xm_44_1 hx, xm_73_4 hx, xm_73_5 hx, xm_73_6 hx, xm_77_1 hx, xm_77_2 hx, xm_77_3 hx, xm_77_4 hx, xm_77_5 hx, xm_77_6 hx, xm_77_7 hx, xm_77_8 hx, xm_77_9 hx, xm_87_2 hx, xm_87_3 hx, xm_87_4 hx, xm_87_5 hx, xm_87_6 hx, xm_87_7 hx, xm_87_8 hx, xm_lw2 hx hb, xm_lw3 hx hb, xm_lw4 hx hb, xm_lw5 hx hb, xm_st1 hx hb, xm_st10 hx hb, xm_st11 hx hb, xm_st13 hx hb, xm_st14 hx hb, xm_st15 hx hb, xm_st16 hx hb, xm_st17 hx hb, xm_st2 hx hb, xm_st4 hx hb, xm_st5 hx hb, xm_st6 hx hb, xm_st7 hx hb, xm_st9 hx hb, xm_wd10 hx hw, xm_wd11 hx hw, xm_wd4 hx hw, xm_wd5 hx hw, xm_wd6 hx hw, xm_wd7 hx hw, xm_wd8 hx hw, xm_wd9 hx hw, ite_self, Bool.false_eq_true, eq_self, isk_t, i20_t, w20_t, l23_t, b21_t, b22_t, w_t, bif_t, bif_f, bif_d, if_pos, if_neg, if_true, if_false, not_true_eq_false, not_false_eq_true, Option.bind_some, Option.toList_some, Option.toList_none, List.cons_append, List.nil_append, Int.toNat_natCast, Int.reduceToNat, up_eq, up_p, up_k, sN,  X_cell, i20_c, e5, hch, k2, or_true, true_or ]
theorem R_pairs_in {C : MC} {t p : Int} (t0 : 0 ≤ t) (t1 : t < S 0 1) (p0 : 0 ≤ p) (p1 : p < S 0 0) {a : Int} (ha : 0 ≤ a) (ha1 : a ≤ 1000) : ∀ (n : Nat) (k : Nat) (μ : Nat → Nat → Int), RLq ρ μ b w u S W → CR μ 0 = C → p < k → (k : Int) + n = S 0 0 → ∃ μ', FrN μ μ' ∧ am_E (d + 6) 225 34 [some (.inr (.inr 99)), some (.inl t), some (.inl (a + cnt (fun q => decide (p < q) && pairsF S C W t p q) k)), some (.inl p), some (.inl (k : Int))] [] (SH, ρ, μ, cs) = am_E (d + 6) 225 19 [some (.inr (.inr 99)), some (.inl t), some (.inl (a + cnt (fun q => decide (p < q) && pairsF S C W t p q) (men S))), some (.inl (p + 1)), some (.inl (S 0 0))] [] (SH, ρ, μ', cs) := by
  intro n
  induction n with
  | zero =>
    intro k μ h hC hk hkn
    obtain ⟨hx, hρ, hb, hgs, hw46, hu64, hSR, hS, hX, hWR, hWI, hW, hday, h49, h51, h53⟩ := h; have hw : w = 46 ∨ w = 55 ∨ w = 64 := Or.inl hw46; have hu : u = 46 ∨ u = 55 ∨ u = 64 := Or.inr (Or.inr hu64); have hn5 := (xm_0_5 hx).trans hw46.symm; have hn7 := (xm_0_7 hx).trans hu64.symm; have b0 := hS.1; have b1 := hS.2.1
    have hN : μ 101 0 = S 0 0 := by rw [← hSR]; rfl
    have e : men S = k := by unfold men; omega
    have e2 : (k : Int) = S 0 0 := by omega
    refine ⟨μ, frn_rf μ, ?_⟩
    rw [e, e2]
    rw [e225_34]; simp (disch := (first | omega | (simp (disch := omega) only [sr_up, wr_up_o]; omega))) only [ks_101, ks_99, rm_number hρ, ite_self, Bool.false_eq_true, eq_self, isk_t, i20_t, w20_t, l23_t, b21_t, b22_t, w_t, bif_t, bif_f, bif_d, if_pos, if_neg, if_true, if_false, not_true_eq_false, not_false_eq_true, Option.bind_some, Option.toList_some, Option.toList_none, List.cons_append, List.nil_append, Int.toNat_natCast, Int.reduceToNat, up_eq, up_p, up_k, sN,  hN ]
  | succ n ih =>
    intro k μ h hC hk hkn
    have h0 := h
    obtain ⟨hx, hρ, hb, hgs, hw46, hu64, hSR, hS, hX, hWR, hWI, hW, hday, h49, h51, h53⟩ := h; have hw : w = 46 ∨ w = 55 ∨ w = 64 := Or.inl hw46; have hu : u = 46 ∨ u = 55 ∨ u = 64 := Or.inr (Or.inr hu64); have hn5 := (xm_0_5 hx).trans hw46.symm; have hn7 := (xm_0_7 hx).trans hu64.symm; have b0 := hS.1; have b1 := hS.2.1
    have hN : μ 101 0 = S 0 0 := by rw [← hSR]; rfl
    have hcb := cnt_le (fun q => decide (p < q) && pairsF S C W t p q) k
    have ec : cnt (fun q => decide (p < q) && pairsF S C W t p q) (k + 1) = cnt (fun q => decide (p < q) && pairsF S C W t p q) k + (if (decide (p < (k : Int)) && pairsF S C W t p k) = true then 1 else 0) := rfl
    rw [decide_eq_true (show p < (k : Int) by omega), Bool.true_and] at ec
    have e2 : ((k + 1 : Nat) : Int) = (k : Int) + 1 := by omega
    by_cases q1 : W 5 p t = -1
    · obtain ⟨μ1, g1, g2⟩ := ih (k + 1) μ h0 hC (by omega) (by omega)
      rw [ec, if_neg (by unfold pairsF; simp [q1]), Int.add_zero, e2] at g2
      refine ⟨μ1, g1, ?_⟩
      rw [← g2]
      rw [e225_34]; simp (disch := (first | omega | (simp (disch := omega) only [sr_up, wr_up_o]; omega))) only [e225_52, ks_101, ks_99, rm_number hρ, ite_self, Bool.false_eq_true, eq_self, isk_t, i20_t, w20_t, l23_t, b21_t, b22_t, w_t, bif_t, bif_f, bif_d, if_pos, if_neg, if_true, if_false, not_true_eq_false, not_false_eq_true, Option.bind_some, Option.toList_some, Option.toList_none, List.cons_append, List.nil_append, Int.toNat_natCast, Int.reduceToNat, up_eq, up_p, up_k, sN,  hN, R_doesHave hρ, hWR, q1 ]
    · by_cases q2 : W 5 (k : Int) t = -1
      · obtain ⟨μ1, g1, g2⟩ := ih (k + 1) μ h0 hC (by omega) (by omega)
        rw [ec, if_neg (by unfold pairsF; simp [q2]), Int.add_zero, e2] at g2
        refine ⟨μ1, g1, ?_⟩
        rw [← g2]
        rw [e225_34]; simp (disch := (first | omega | (simp (disch := omega) only [sr_up, wr_up_o]; omega))) only [e225_52, e225_63, ks_101, ks_99, rm_number hρ, ite_self, Bool.false_eq_true, eq_self, isk_t, i20_t, w20_t, l23_t, b21_t, b22_t, w_t, bif_t, bif_f, bif_d, if_pos, if_neg, if_true, if_false, not_true_eq_false, not_false_eq_true, Option.bind_some, Option.toList_some, Option.toList_none, List.cons_append, List.nil_append, Int.toNat_natCast, Int.reduceToNat, up_eq, up_p, up_k, sN,  hN, R_doesHave hρ, hWR, q1, q2 ]
      · obtain ⟨μ1, g1, g2⟩ := R_doPair (cs := cs) (d := d) (p := p) (q := (k : Int)) h0 p0 p1 (by omega) (by omega) t0 t1
        rw [hC] at g2
        obtain ⟨μ2, k1, k2⟩ := ih (k + 1) μ1 (frn_r h0 g1) ((frn_CR g1 0).trans hC) (by omega) (by omega)
        by_cases q3 : pairB S C W p k t = true
        · rw [if_pos q3] at g2
          rw [ec, if_pos (by unfold pairsF; simp [q1, q2, q3]), e2, ← Int.add_assoc] at k2
          refine ⟨μ2, frn_tr g1 k1, ?_⟩
          rw [← k2]
          rw [e225_34]; simp (disch := (first | omega | (simp (disch := omega) only [sr_up, wr_up_o]; omega))) only [e225_52, e225_63, e225_74, ks_101, ks_99, rm_number hρ, ite_self, Bool.false_eq_true, eq_self, isk_t, i20_t, w20_t, l23_t, b21_t, b22_t, w_t, bif_t, bif_f, bif_d, if_pos, if_neg, if_true, if_false, not_true_eq_false, not_false_eq_true, Option.bind_some, Option.toList_some, Option.toList_none, List.cons_append, List.nil_append, Int.toNat_natCast, Int.reduceToNat, up_eq, up_p, up_k, sN,  hN, R_doesHave hρ, hWR, q1, q2, g2 ]
        · rw [if_neg q3] at g2
          rw [ec, if_neg (by unfold pairsF; simp [q3]), Int.add_zero, e2] at k2
          refine ⟨μ2, frn_tr g1 k1, ?_⟩
          rw [← k2]
          rw [e225_34]; simp (disch := (first | omega | (simp (disch := omega) only [sr_up, wr_up_o]; omega))) only [e225_52, e225_63, e225_74, ks_101, ks_99, rm_number hρ, ite_self, Bool.false_eq_true, eq_self, isk_t, i20_t, w20_t, l23_t, b21_t, b22_t, w_t, bif_t, bif_f, bif_d, if_pos, if_neg, if_true, if_false, not_true_eq_false, not_false_eq_true, Option.bind_some, Option.toList_some, Option.toList_none, List.cons_append, List.nil_append, Int.toNat_natCast, Int.reduceToNat, up_eq, up_p, up_k, sN,  hN, R_doesHave hρ, hWR, q1, q2, g2 ]
theorem R_pairs_out {C : MC} {t : Int} (t0 : 0 ≤ t) (t1 : t < S 0 1) : ∀ (n : Nat) (k : Nat) (μ : Nat → Nat → Int), RLq ρ μ b w u S W → CR μ 0 = C → (k : Int) + n = S 0 0 → ∃ μ', FrN μ μ' ∧ am_E (d + 6) 225 19 [some (.inr (.inr 99)), some (.inl t), some (.inl (sumN (fun p => cnt (fun q => decide (p < q) && pairsF S C W t p q) (men S)) k)), some (.inl (k : Int)), none] [] (SH, ρ, μ, cs) = some (some (.inl (sumN (fun p => cnt (fun q => decide (p < q) && pairsF S C W t p q) (men S)) (men S))), (SH, ρ, μ', cs)) := by
  intro n
  induction n with
  | zero =>
    intro k μ h hC hkn
    obtain ⟨hx, hρ, hb, hgs, hw46, hu64, hSR, hS, hX, hWR, hWI, hW, hday, h49, h51, h53⟩ := h; have hw : w = 46 ∨ w = 55 ∨ w = 64 := Or.inl hw46; have hu : u = 46 ∨ u = 55 ∨ u = 64 := Or.inr (Or.inr hu64); have hn5 := (xm_0_5 hx).trans hw46.symm; have hn7 := (xm_0_7 hx).trans hu64.symm; have b0 := hS.1; have b1 := hS.2.1
    have hN : μ 101 0 = S 0 0 := by rw [← hSR]; rfl
    have e : men S = k := by unfold men; omega
    refine ⟨μ, frn_rf μ, ?_⟩
    rw [e]
    rw [e225_19]; simp (disch := (first | omega | (simp (disch := omega) only [sr_up, wr_up_o]; omega))) only [ks_101, ks_99, rm_number hρ, ite_self, Bool.false_eq_true, eq_self, isk_t, i20_t, w20_t, l23_t, b21_t, b22_t, w_t, bif_t, bif_f, bif_d, if_pos, if_neg, if_true, if_false, not_true_eq_false, not_false_eq_true, Option.bind_some, Option.toList_some, Option.toList_none, List.cons_append, List.nil_append, Int.toNat_natCast, Int.reduceToNat, up_eq, up_p, up_k, sN,  hN ]
  | succ n ih =>
    intro k μ h hC hkn
    have h0 := h
    obtain ⟨hx, hρ, hb, hgs, hw46, hu64, hSR, hS, hX, hWR, hWI, hW, hday, h49, h51, h53⟩ := h; have hw : w = 46 ∨ w = 55 ∨ w = 64 := Or.inl hw46; have hu : u = 46 ∨ u = 55 ∨ u = 64 := Or.inr (Or.inr hu64); have hn5 := (xm_0_5 hx).trans hw46.symm; have hn7 := (xm_0_7 hx).trans hu64.symm; have b0 := hS.1; have b1 := hS.2.1
    have hN : μ 101 0 = S 0 0 := by rw [← hSR]; rfl
    have hb2 := sumN_bd (f := fun p => cnt (fun q => decide (p < q) && pairsF S C W t p q) (men S)) (B := 7) k (fun p _ _ => by
      have := cnt_le (fun q => decide (p < q) && pairsF S C W t p q) (men S)
      unfold men at this
      unfold men
      omega)
    obtain ⟨μ1, g1, g2⟩ := R_pairs_in (ρ := ρ) (cs := cs) (d := d) (b := b) (w := w) (u := u) (C := C) (W := W) (p := (k : Int)) t0 t1 (by omega) (by omega) hb2.1 (by omega) n (k + 1) μ h0 hC (by omega) (by omega)
    have ez : cnt (fun q => decide ((k : Int) < q) && pairsF S C W t k q) (k + 1) = 0 := by
      have := cnt_cut (f := fun q => decide ((k : Int) < q) && pairsF S C W t k q) (n := 0) (k + 1) (fun q h0 h1 => by
        have : ¬ (k : Int) < q := by omega
        simp [this])
      rw [Nat.zero_add] at this
      exact this
    have e2 : ((k + 1 : Nat) : Int) = (k : Int) + 1 := by omega
    rw [ez, Int.add_zero, e2] at g2
    obtain ⟨μ2, k1, k2⟩ := ih (k + 1) μ1 (frn_r h0 g1) ((frn_CR g1 0).trans hC) (by omega)
    rw [e2] at k2
    refine ⟨μ2, frn_tr g1 k1, ?_⟩
    have k3 := am_E_le (am_lq_of _ [some (.inr (.inr 99)), some (.inl t), some (.inl (sumN (fun p => cnt (fun q => decide (p < q) && pairsF S C W t p q) (men S)) (k + 1))), some (.inl ((k : Int) + 1)), some (.inl (S 0 0))] (by simp [am_leb])) k2
    rw [← k3]
    rw [e225_19]; simp (disch := (first | omega | (simp (disch := omega) only [sr_up, wr_up_o]; omega))) only [ks_101, ks_99, rm_number hρ, ite_self, Bool.false_eq_true, eq_self, isk_t, i20_t, w20_t, l23_t, b21_t, b22_t, w_t, bif_t, bif_f, bif_d, if_pos, if_neg, if_true, if_false, not_true_eq_false, not_false_eq_true, Option.bind_some, Option.toList_some, Option.toList_none, List.cons_append, List.nil_append, Int.toNat_natCast, Int.reduceToNat, up_eq, up_p, up_k, sN,  hN ]
    exact g2
theorem R_pairs (h : RLq ρ μ b w u S W) {t : Int} : ∃ μ', FrQ μ μ' ∧ am_E (d + 6) 225 0 [some (.inr (.inr 99)), some (.inl t), none, none, none] [] (SH, ρ, μ, cs) = some (some (.inl (pairsA S (CR μ 0) W t)), (SH, ρ, μ', cs)) := by
  have h0 := rl_q h (frr_rf ρ) (frq_t0 μ 0)
  obtain ⟨hx, hρ, hb, hgs, hw46, hu64, hSR, hS, hX, hWR, hWI, hW, hday, h49, h51, h53⟩ := h; have hw : w = 46 ∨ w = 55 ∨ w = 64 := Or.inl hw46; have hu : u = 46 ∨ u = 55 ∨ u = 64 := Or.inr (Or.inr hu64); have hn5 := (xm_0_5 hx).trans hw46.symm; have hn7 := (xm_0_7 hx).trans hu64.symm; have b0 := hS.1; have b1 := hS.2.1
  unfold pairsA
  by_cases c : 0 ≤ t ∧ t < S 0 1
  · rw [if_pos c]
    obtain ⟨μ1, g1, g2⟩ := R_pairs_out (ρ := ρ) (cs := cs) (d := d) (b := b) (w := w) (u := u) (C := CR μ 0) (W := W) c.1 c.2 (men S) 0 (am_up μ 99 0 0) h0 thr_CR (by unfold men; omega)
    refine ⟨μ1, frq_tr (frq_t0 μ 0) (frq_n g1), ?_⟩
    rw [← pairs_swap, ← g2]
    simp (disch := (first | omega | (simp (disch := omega) only [sr_up, wr_up_o]; omega))) only [e225_0, e225_10, ks_99, ite_self, Bool.false_eq_true, eq_self, isk_t, i20_t, w20_t, l23_t, b21_t, b22_t, w_t, bif_t, bif_f, bif_d, if_pos, if_neg, if_true, if_false, not_true_eq_false, not_false_eq_true, Option.bind_some, Option.toList_some, Option.toList_none, List.cons_append, List.nil_append, Int.toNat_natCast, Int.reduceToNat, up_eq, up_p, up_k, sN,  R_isMan hρ, R_isThing hρ, sr_up, hSR, wr_up_o, hWR ]
    all_goals rfl
  · rw [if_neg c]
    refine ⟨am_up μ 99 0 0, frq_t0 μ 0, ?_⟩
    simp (disch := (first | omega | (simp (disch := omega) only [sr_up, wr_up_o]; omega))) only [e225_0, e225_10, ks_99, ite_self, Bool.false_eq_true, eq_self, isk_t, i20_t, w20_t, l23_t, b21_t, b22_t, w_t, bif_t, bif_f, bif_d, if_pos, if_neg, if_true, if_false, not_true_eq_false, not_false_eq_true, Option.bind_some, Option.toList_some, Option.toList_none, List.cons_append, List.nil_append, Int.toNat_natCast, Int.reduceToNat, up_eq, up_p, up_k, sN,  R_isMan hρ, R_isThing hρ, sr_up, hSR, wr_up_o, hWR ]
end QC
