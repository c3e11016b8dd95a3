/-! MATCH: the class: who would be whose -/
theorem bnt_0 {F : Nat → Bool} (h : ∀ j, F j = false) : ∀ n, bnt F n = 0
  | 0 => rfl
  | n + 1 => by
    show (if F n = true then bnt F n ||| 2 ^ n else bnt F n) = 0
    rw [if_neg (by rw [h n]; simp), bnt_0 h n]
section MW1
variable {ρ : Nat → Nat → Nat} {μ : Nat → Nat → Int} {cs : Nat × Nat × Nat} {d b w u : Nat} {S : MS} {W V : MW} {C : MC}
theorem X_suit_in (hst : ρ 73 0 = b) (hwd : ρ 73 1 = w) {t : Nat} (ht : (t : Int) < S 0 1) (hnw : W 4 0 t = -2) (hC : CI S C) : ∀ (n m : Nat) (μ : Nat → Nat → Int), RLq ρ μ b w u S W → XC μ S C → m + n = men S → μ 95 t = ((bnt (suit S C W t) m : Nat) : Int) → ∃ μ1, (∀ q k, ¬ (q = 74 ∨ q = 75) → ¬ (q = 95 ∧ k = t) → μ1 q k = μ q k) ∧ μ1 95 t = ((wbF S C W t : Nat) : Int) ∧ ∀ res, am_E (d + 5) 110 17 [some (.inr (.inr 0)), some (.inl ((t : Int) + 1)), none] [] (SH, ρ, μ1, cs) = some res → am_E (d + 5) 110 32 [some (.inr (.inr 0)), some (.inl (t : Int)), some (.inl (m : Int))] [] (SH, ρ, μ, cs) = some res := by
  intro n
  induction n with
  | zero =>
    intro m μ h hK hm hv
    obtain ⟨hx, hρ, hb, hgs, hw46, hu64, hSR, hS, hX, hWR, hWI, hW, hday, h49, h51, h53⟩ := h; have hw : w = 46 ∨ w = 55 ∨ w = 64 := Or.inl hw46; have hu : u = 46 ∨ u = 55 ∨ u = 64 := Or.inr (Or.inr hu64); have hn5 := (xm_0_5 hx).trans hw46.symm; have hn7 := (xm_0_7 hx).trans hu64.symm; have b0 := hS.1; have b1 := hS.2.1
    have s1 := hS.2.1
    have hm' : m = men S := by omega
    subst hm'
    have hn : μ b 0 = ((men S : Nat) : Int) := by rw [hX.1.1]; exact (men_le hS).2.symm
    refine ⟨μ, fun _ _ _ _ => rfl, hv, fun res hr => ?_⟩
    rw [e110_32]; simp (disch := omega) only [hgs, hn5, hn7, hst, hwd, xk_0, xk_1, xk_40, xk_41, xk_42, xk_43, xk_44, xk_45, xk_46, xk_47, xk_48, xk_49, xk_50, xk_51, xk_52, xk_53, xk_54, xk_55, xk_56, xk_57, xk_58, xk_59, xk_60, xk_61, xk_62, xk_63, xk_64, xk_65, xk_66, xk_67, xk_68, xk_69, xk_70, xk_71, xk_72, xk_73, xk_74, xk_75, xk_76, xk_77, xk_78, xk_79, xk_80, xk_81, xk_82, xk_83, xk_84, xk_85, xk_86, xk_87, xk_88, xk_89, xk_90, xk_91, xk_92, xk_93, xk_94, xk_95, xk_96, xk_97, xk_98, xk_st0 hb, xk_st1 hb, xk_st10 hb, xk_st11 hb, xk_st12 hb, xk_st13 hb, xk_st14 hb, xk_st15 hb, xk_st16 hb, xk_st17 hb, xk_st18 hb, xk_st2 hb, xk_st3 hb, xk_st4 hb, xk_st5 hb, xk_st6 hb, xk_st7 hb, xk_st8 hb, xk_st9 hb, xk_wd0 hu, xk_wd0 hw, xk_wd1 hu, xk_wd1 hw, xk_wd2 hu, xk_wd2 hw, xk_wd3 hu, xk_wd3 hw, xk_wd4 hu, xk_wd4 hw, xk_wd5 hu, xk_wd5 hw, xk_wd6 hu, xk_wd6 hw, xk_wd7 hu, xk_wd7 hw, xk_wd8 hu, xk_wd8 hw, xm_0_0 hx, xm_0_10 hx, xm_0_11 hx, xm_0_12 hx, xm_0_13 hx, xm_0_14 hx, xm_0_15 hx, xm_0_2 hx, xm_0_9 hx, xm_40_0 hx, xm_40_1 hx, xm_41_0 hx, xm_44_0 hx, xm_44_1 hx, xm_73_4 hx, xm_73_5 hx, xm_73_6 hx, xm_77_1 hx, xm_77_2 hx, xm_77_3 hx, xm_77_4 hx, xm_77_5 hx, xm_77_6 hx, xm_77_7 hx, xm_77_8 hx, xm_77_9 hx, xm_87_2 hx, xm_87_3 hx, xm_87_4 hx, xm_87_5 hx, xm_87_6 hx, xm_87_7 hx, xm_87_8 hx, xm_lw2 hx hb, xm_lw3 hx hb, xm_lw4 hx hb, xm_lw5 hx hb, xm_st1 hx hb, xm_st10 hx hb, xm_st11 hx hb, xm_st13 hx hb, xm_st14 hx hb, xm_st15 hx hb, xm_st16 hx hb, xm_st17 hx hb, xm_st2 hx hb, xm_st4 hx hb, xm_st5 hx hb, xm_st6 hx hb, xm_st7 hx hb, xm_st9 hx hb, xm_wd10 hx hu, xm_wd10 hx hw, xm_wd11 hx hu, xm_wd11 hx hw, xm_wd4 hx hu, xm_wd4 hx hw, xm_wd5 hx hu, xm_wd5 hx hw, xm_wd6 hx hu, xm_wd6 hx hw, xm_wd7 hx hu, xm_wd7 hx hw, xm_wd8 hx hu, xm_wd8 hx hw, xm_wd9 hx hu, xm_wd9 hx hw, ite_self, Bool.false_eq_true, eq_self, isk_t, i20_t, w20_t, l23_t, b21_t, b22_t, w_t, bif_t, bif_f, bif_d, if_pos, if_neg, if_true, if_false, not_true_eq_false, not_false_eq_true, Option.bind_some, Option.toList_some, Option.toList_none, List.cons_append, List.nil_append, Int.toNat_natCast, Int.reduceToNat, up_eq, up_p, up_k, sN,  hn ]
    exact am_E_le (am_lq_of _ _ (by simp [am_leb])) hr
  | succ n ih =>
    intro m μ h hK hm hv
    have h0 := h
    obtain ⟨hx, hρ, hb, hgs, hw46, hu64, hSR, hS, hX, hWR, hWI, hW, hday, h49, h51, h53⟩ := h; have hw : w = 46 ∨ w = 55 ∨ w = 64 := Or.inl hw46; have hu : u = 46 ∨ u = 55 ∨ u = 64 := Or.inr (Or.inr hu64); have hn5 := (xm_0_5 hx).trans hw46.symm; have hn7 := (xm_0_7 hx).trans hu64.symm; have b0 := hS.1; have b1 := hS.2.1
    have s1 := hS.2.1
    have hml := men_le hS
    have hn : μ b 0 = S 0 0 := hX.1.1
    have hn3 : μ b 3 = S 0 1 := hX.1.2.1
    have hnw2 : μ (w + 1) t = -2 := by have := (hW.2.1 (t : Int) (by omega) (by omega)).1; rw [Int.toNat_natCast] at this; rw [this]; exact hnw
    have e1 : ((m + 1 : Nat) : Int) = (m : Int) + 1 := by omega
    have eB : bnt (suit S C W t) (m + 1) = if suit S C W t m = true then bnt (suit S C W t) m ||| 2 ^ m else bnt (suit S C W t) m := rfl
    by_cases c0 : W 5 m t ≠ -1 ∧ W 8 m t = -2
    · obtain ⟨μ1, g1, g2⟩ := X_firstFitting (ρ := ρ) (cs := cs) (d := d) (C := C) (p := (m : Int)) (t := (t : Int)) (D := 10000) hx hb hw hst hwd hS hC (by omega) hWI hX hW hK (by omega) (by omega) (by omega) (by omega) c0.1
      have fr1 : ∀ q k, ¬ (q = 74 ∨ q = 75) → μ1 q k = μ q k := fun q k hq => g1 q k (by omega) (by omega)
      have hR1 : RLq ρ μ1 b w u S W := rl_q h0 (frr_rf ρ) (fun q k hq => fr1 q k (by omega))
      have hK1 : XC μ1 S C := xc_fr hK (fun q k hq => fr1 q k (by omega))
      have hv1 : μ1 95 t = ((bnt (suit S C W t) m : Nat) : Int) := by rw [fr1 _ _ (by omega)]; exact hv
      have em := X_mayPrint (ρ := ρ) (cs := cs) (d := d + 3) (p := (m : Int)) (t := (t : Int)) hx hw hW (by omega) (by omega) (by omega) (by omega)
      rw [if_pos c0] at em
      by_cases c1 : ffit S C W m t (men S) 0 = -1
      · have es : suit S C W t m = false := decide_eq_false (fun g => g.2.2.2.2 c1)
        rw [es, if_neg (by simp)] at eB
        obtain ⟨μ2, k1, k2, k3⟩ := ih (m + 1) μ1 hR1 hK1 (by omega) (by rw [eB]; exact hv1)
        refine ⟨μ2, fun q k a0 a1 => by rw [k1 q k a0 a1, fr1 q k a0], k2, fun res hr => ?_⟩
        have j := k3 res hr
        rw [e1] at j
        rw [← j]
        rw [c1] at g2
        clear k3 ih hr j
        rw [e110_32]; simp (disch := omega) only [e110_75, e110_87, hgs, hn5, hn7, hst, hwd, xk_0, xk_1, xk_40, xk_41, xk_42, xk_43, xk_44, xk_45, xk_46, xk_47, xk_48, xk_49, xk_50, xk_51, xk_52, xk_53, xk_54, xk_55, xk_56, xk_57, xk_58, xk_59, xk_60, xk_61, xk_62, xk_63, xk_64, xk_65, xk_66, xk_67, xk_68, xk_69, xk_70, xk_71, xk_72, xk_73, xk_74, xk_75, xk_76, xk_77, xk_78, xk_79, xk_80, xk_81, xk_82, xk_83, xk_84, xk_85, xk_86, xk_87, xk_88, xk_89, xk_90, xk_91, xk_92, xk_93, xk_94, xk_95, xk_96, xk_97, xk_98, xk_st0 hb, xk_st1 hb, xk_st10 hb, xk_st11 hb, xk_st12 hb, xk_st13 hb, xk_st14 hb, xk_st15 hb, xk_st16 hb, xk_st17 hb, xk_st18 hb, xk_st2 hb, xk_st3 hb, xk_st4 hb, xk_st5 hb, xk_st6 hb, xk_st7 hb, xk_st8 hb, xk_st9 hb, xk_wd0 hu, xk_wd0 hw, xk_wd1 hu, xk_wd1 hw, xk_wd2 hu, xk_wd2 hw, xk_wd3 hu, xk_wd3 hw, xk_wd4 hu, xk_wd4 hw, xk_wd5 hu, xk_wd5 hw, xk_wd6 hu, xk_wd6 hw, xk_wd7 hu, xk_wd7 hw, xk_wd8 hu, xk_wd8 hw, xm_0_0 hx, xm_0_10 hx, xm_0_11 hx, xm_0_12 hx, xm_0_13 hx, xm_0_14 hx, xm_0_15 hx, xm_0_2 hx, xm_0_9 hx, xm_40_0 hx, xm_40_1 hx, xm_41_0 hx, xm_44_0 hx, xm_44_1 hx, xm_73_4 hx, xm_73_5 hx, xm_73_6 hx, xm_77_1 hx, xm_77_2 hx, xm_77_3 hx, xm_77_4 hx, xm_77_5 hx, xm_77_6 hx, xm_77_7 hx, xm_77_8 hx, xm_77_9 hx, xm_87_2 hx, xm_87_3 hx, xm_87_4 hx, xm_87_5 hx, xm_87_6 hx, xm_87_7 hx, xm_87_8 hx, xm_lw2 hx hb, xm_lw3 hx hb, xm_lw4 hx hb, xm_lw5 hx hb, xm_st1 hx hb, xm_st10 hx hb, xm_st11 hx hb, xm_st13 hx hb, xm_st14 hx hb, xm_st15 hx hb, xm_st16 hx hb, xm_st17 hx hb, xm_st2 hx hb, xm_st4 hx hb, xm_st5 hx hb, xm_st6 hx hb, xm_st7 hx hb, xm_st9 hx hb, xm_wd10 hx hu, xm_wd10 hx hw, xm_wd11 hx hu, xm_wd11 hx hw, xm_wd4 hx hu, xm_wd4 hx hw, xm_wd5 hx hu, xm_wd5 hx hw, xm_wd6 hx hu, xm_wd6 hx hw, xm_wd7 hx hu, xm_wd7 hx hw, xm_wd8 hx hu, xm_wd8 hx hw, xm_wd9 hx hu, xm_wd9 hx hw, ite_self, Bool.false_eq_true, eq_self, isk_t, i20_t, w20_t, l23_t, b21_t, b22_t, w_t, bif_t, bif_f, bif_d, if_pos, if_neg, if_true, if_false, not_true_eq_false, not_false_eq_true, Option.bind_some, Option.toList_some, Option.toList_none, List.cons_append, List.nil_append, Int.toNat_natCast, Int.reduceToNat, up_eq, up_p, up_k, sN,  hn, hn3, hnw2, em, g2 ]
      · have es : suit S C W t m = true := decide_eq_true ⟨ht, hnw, c0.1, c0.2, c1⟩
        rw [if_pos es] at eB
        have hz := bnt_l7 (F := suit S C W t) m (by omega)
        have e4 : am_or ((bnt (suit S C W t) m : Nat) : Int) (am_shl 1 (m : Int)) = ((bnt (suit S C W t) m ||| 2 ^ m : Nat) : Int) := by
          have := ib_or1 (a := bnt (suit S C W t) m) (k := (m : Int)) (by omega) (by omega) (by omega)
          rw [Int.toNat_natCast] at this
          exact this
        obtain ⟨μ2, k1, k2, k3⟩ := ih (m + 1) (am_up μ1 95 t ((bnt (suit S C W t) (m + 1) : Nat) : Int)) (rl_q hR1 (frr_rf ρ) (frq_up (frq_rf μ1) (by omega))) (xc_fr hK1 (fun q k hq => am_up_no (by omega))) (by omega) (up_eq ..)
        refine ⟨μ2, fun q k a0 a1 => by rw [k1 q k a0 a1, am_up_no a1, fr1 q k a0], k2, fun res hr => ?_⟩
        have j := k3 res hr
        rw [e1, eB] at j
        rw [← j]
        clear k3 ih hr j eB
        have hf : 0 ≤ ffit S C W m t (men S) 0 := by
          have : ∀ (n : Nat) (q : Int), 0 ≤ q → ffit S C W m t n q = -1 ∨ 0 ≤ ffit S C W m t n q := by
            intro n
            induction n with
            | zero => intro q hq; exact Or.inl rfl
            | succ n ih =>
              intro q hq
              show (if W 8 q t ≠ -2 ∧ fitB S C W m t (W 8 q t) (W 9 q t).toNat = true then q else ffit S C W m t n (q + 1)) = -1 ∨ 0 ≤ (if W 8 q t ≠ -2 ∧ fitB S C W m t (W 8 q t) (W 9 q t).toNat = true then q else ffit S C W m t n (q + 1))
              split
              · exact Or.inr hq
              · exact ih (q + 1) (by omega)
          rcases this (men S) 0 (by omega) with g | g
          · exact absurd g c1
          · exact g
        generalize ffit S C W m t (men S) 0 = y at g2 hf
        generalize bnt (suit S C W t) m = z at hv1 e4 ⊢
        rw [e110_32]; simp (disch := omega) only [e110_75, e110_87, hgs, hn5, hn7, hst, hwd, xk_0, xk_1, xk_40, xk_41, xk_42, xk_43, xk_44, xk_45, xk_46, xk_47, xk_48, xk_49, xk_50, xk_51, xk_52, xk_53, xk_54, xk_55, xk_56, xk_57, xk_58, xk_59, xk_60, xk_61, xk_62, xk_63, xk_64, xk_65, xk_66, xk_67, xk_68, xk_69, xk_70, xk_71, xk_72, xk_73, xk_74, xk_75, xk_76, xk_77, xk_78, xk_79, xk_80, xk_81, xk_82, xk_83, xk_84, xk_85, xk_86, xk_87, xk_88, xk_89, xk_90, xk_91, xk_92, xk_93, xk_94, xk_95, xk_96, xk_97, xk_98, xk_st0 hb, xk_st1 hb, xk_st10 hb, xk_st11 hb, xk_st12 hb, xk_st13 hb, xk_st14 hb, xk_st15 hb, xk_st16 hb, xk_st17 hb, xk_st18 hb, xk_st2 hb, xk_st3 hb, xk_st4 hb, xk_st5 hb, xk_st6 hb, xk_st7 hb, xk_st8 hb, xk_st9 hb, xk_wd0 hu, xk_wd0 hw, xk_wd1 hu, xk_wd1 hw, xk_wd2 hu, xk_wd2 hw, xk_wd3 hu, xk_wd3 hw, xk_wd4 hu, xk_wd4 hw, xk_wd5 hu, xk_wd5 hw, xk_wd6 hu, xk_wd6 hw, xk_wd7 hu, xk_wd7 hw, xk_wd8 hu, xk_wd8 hw, xm_0_0 hx, xm_0_10 hx, xm_0_11 hx, xm_0_12 hx, xm_0_13 hx, xm_0_14 hx, xm_0_15 hx, xm_0_2 hx, xm_0_9 hx, xm_40_0 hx, xm_40_1 hx, xm_41_0 hx, xm_44_0 hx, xm_44_1 hx, xm_73_4 hx, xm_73_5 hx, xm_73_6 hx, xm_77_1 hx, xm_77_2 hx, xm_77_3 hx, xm_77_4 hx, xm_77_5 hx, xm_77_6 hx, xm_77_7 hx, xm_77_8 hx, xm_77_9 hx, xm_87_2 hx, xm_87_3 hx, xm_87_4 hx, xm_87_5 hx, xm_87_6 hx, xm_87_7 hx, xm_87_8 hx, xm_lw2 hx hb, xm_lw3 hx hb, xm_lw4 hx hb, xm_lw5 hx hb, xm_st1 hx hb, xm_st10 hx hb, xm_st11 hx hb, xm_st13 hx hb, xm_st14 hx hb, xm_st15 hx hb, xm_st16 hx hb, xm_st17 hx hb, xm_st2 hx hb, xm_st4 hx hb, xm_st5 hx hb, xm_st6 hx hb, xm_st7 hx hb, xm_st9 hx hb, xm_wd10 hx hu, xm_wd10 hx hw, xm_wd11 hx hu, xm_wd11 hx hw, xm_wd4 hx hu, xm_wd4 hx hw, xm_wd5 hx hu, xm_wd5 hx hw, xm_wd6 hx hu, xm_wd6 hx hw, xm_wd7 hx hu, xm_wd7 hx hw, xm_wd8 hx hu, xm_wd8 hx hw, xm_wd9 hx hu, xm_wd9 hx hw, ite_self, Bool.false_eq_true, eq_self, isk_t, i20_t, w20_t, l23_t, b21_t, b22_t, w_t, bif_t, bif_f, bif_d, if_pos, if_neg, if_true, if_false, not_true_eq_false, not_false_eq_true, Option.bind_some, Option.toList_some, Option.toList_none, List.cons_append, List.nil_append, Int.toNat_natCast, Int.reduceToNat, up_eq, up_p, up_k, sN,  hn, hn3, hnw2, em, g2, hv1, e4 ]
    · have es : suit S C W t m = false := decide_eq_false (fun g => c0 ⟨g.2.2.1, g.2.2.2.1⟩)
      rw [es, if_neg (by simp)] at eB
      obtain ⟨μ2, k1, k2, k3⟩ := ih (m + 1) μ h0 hK (by omega) (by rw [eB]; exact hv)
      refine ⟨μ2, k1, k2, fun res hr => ?_⟩
      have j := k3 res hr
      rw [e1] at j
      rw [← j]
      have em := X_mayPrint (ρ := ρ) (cs := cs) (d := d + 3) (p := (m : Int)) (t := (t : Int)) hx hw hW (by omega) (by omega) (by omega) (by omega)
      rw [if_neg c0] at em
      clear k3 ih hr j
      rw [e110_32]; simp (disch := omega) only [e110_75, hgs, hn5, hn7, hst, hwd, xk_0, xk_1, xk_40, xk_41, xk_42, xk_43, xk_44, xk_45, xk_46, xk_47, xk_48, xk_49, xk_50, xk_51, xk_52, xk_53, xk_54, xk_55, xk_56, xk_57, xk_58, xk_59, xk_60, xk_61, xk_62, xk_63, xk_64, xk_65, xk_66, xk_67, xk_68, xk_69, xk_70, xk_71, xk_72, xk_73, xk_74, xk_75, xk_76, xk_77, xk_78, xk_79, xk_80, xk_81, xk_82, xk_83, xk_84, xk_85, xk_86, xk_87, xk_88, xk_89, xk_90, xk_91, xk_92, xk_93, xk_94, xk_95, xk_96, xk_97, xk_98, xk_st0 hb, xk_st1 hb, xk_st10 hb, xk_st11 hb, xk_st12 hb, xk_st13 hb, xk_st14 hb, xk_st15 hb, xk_st16 hb, xk_st17 hb, xk_st18 hb, xk_st2 hb, xk_st3 hb, xk_st4 hb, xk_st5 hb, xk_st6 hb, xk_st7 hb, xk_st8 hb, xk_st9 hb, xk_wd0 hu, xk_wd0 hw, xk_wd1 hu, xk_wd1 hw, xk_wd2 hu, xk_wd2 hw, xk_wd3 hu, xk_wd3 hw, xk_wd4 hu, xk_wd4 hw, xk_wd5 hu, xk_wd5 hw, xk_wd6 hu, xk_wd6 hw, xk_wd7 hu, xk_wd7 hw, xk_wd8 hu, xk_wd8 hw, xm_0_0 hx, xm_0_10 hx, xm_0_11 hx, xm_0_12 hx, xm_0_13 hx, xm_0_14 hx, xm_0_15 hx, xm_0_2 hx, xm_0_9 hx, xm_40_0 hx, xm_40_1 hx, xm_41_0 hx, xm_44_0 hx, xm_44_1 hx, xm_73_4 hx, xm_73_5 hx, xm_73_6 hx, xm_77_1 hx, xm_77_2 hx, xm_77_3 hx, xm_77_4 hx, xm_77_5 hx, xm_77_6 hx, xm_77_7 hx, xm_77_8 hx, xm_77_9 hx, xm_87_2 hx, xm_87_3 hx, xm_87_4 hx, xm_87_5 hx, xm_87_6 hx, xm_87_7 hx, xm_87_8 hx, xm_lw2 hx hb, xm_lw3 hx hb, xm_lw4 hx hb, xm_lw5 hx hb, xm_st1 hx hb, xm_st10 hx hb, xm_st11 hx hb, xm_st13 hx hb, xm_st14 hx hb, xm_st15 hx hb, xm_st16 hx hb, xm_st17 hx hb, xm_st2 hx hb, xm_st4 hx hb, xm_st5 hx hb, xm_st6 hx hb, xm_st7 hx hb, xm_st9 hx hb, xm_wd10 hx hu, xm_wd10 hx hw, xm_wd11 hx hu, xm_wd11 hx hw, xm_wd4 hx hu, xm_wd4 hx hw, xm_wd5 hx hu, xm_wd5 hx hw, xm_wd6 hx hu, xm_wd6 hx hw, xm_wd7 hx hu, xm_wd7 hx hw, xm_wd8 hx hu, xm_wd8 hx hw, xm_wd9 hx hu, xm_wd9 hx hw, ite_self, Bool.false_eq_true, eq_self, isk_t, i20_t, w20_t, l23_t, b21_t, b22_t, w_t, bif_t, bif_f, bif_d, if_pos, if_neg, if_true, if_false, not_true_eq_false, not_false_eq_true, Option.bind_some, Option.toList_some, Option.toList_none, List.cons_append, List.nil_append, Int.toNat_natCast, Int.reduceToNat, up_eq, up_p, up_k, sN,  hn, hn3, hnw2, em ]
theorem X_suit_out (hst : ρ 73 0 = b) (hwd : ρ 73 1 = w) (hC : CI S C) : ∀ (n t : Nat) (μ : Nat → Nat → Int), RLq ρ μ b w u S W → XC μ S C → t + n = 6 → (∀ i, i < t → μ 95 i = ((wbF S C W i : Nat) : Int)) → ∃ μ1, (∀ q k, ¬ (q = 74 ∨ q = 75) → ¬ (q = 95) → μ1 q k = μ q k) ∧ (∀ i, i < 6 → μ1 95 i = ((wbF S C W i : Nat) : Int)) ∧ am_E (d + 5) 110 17 [some (.inr (.inr 0)), some (.inl (t : Int)), none] [] (SH, ρ, μ, cs) = some (none, (SH, ρ, μ1, cs)) := by
  intro n
  induction n with
  | zero =>
    intro t μ h hK ht hv
    have ht' : t = 6 := by omega
    subst ht'
    refine ⟨μ, fun _ _ _ _ => rfl, hv, ?_⟩
    obtain ⟨hx, hρ, hb, hgs, hw46, hu64, hSR, hS, hX, hWR, hWI, hW, hday, h49, h51, h53⟩ := h; have hw : w = 46 ∨ w = 55 ∨ w = 64 := Or.inl hw46; have hu : u = 46 ∨ u = 55 ∨ u = 64 := Or.inr (Or.inr hu64); have hn5 := (xm_0_5 hx).trans hw46.symm; have hn7 := (xm_0_7 hx).trans hu64.symm; have b0 := hS.1; have b1 := hS.2.1
    rw [e110_17]; simp (disch := omega) only [hgs, hn5, hn7, hst, hwd, xk_0, xk_1, xk_40, xk_41, xk_42, xk_43, xk_44, xk_45, xk_46, xk_47, xk_48, xk_49, xk_50, xk_51, xk_52, xk_53, xk_54, xk_55, xk_56, xk_57, xk_58, xk_59, xk_60, xk_61, xk_62, xk_63, xk_64, xk_65, xk_66, xk_67, xk_68, xk_69, xk_70, xk_71, xk_72, xk_73, xk_74, xk_75, xk_76, xk_77, xk_78, xk_79, xk_80, xk_81, xk_82, xk_83, xk_84, xk_85, xk_86, xk_87, xk_88, xk_89, xk_90, xk_91, xk_92, xk_93, xk_94, xk_95, xk_96, xk_97, xk_98, xk_st0 hb, xk_st1 hb, xk_st10 hb, xk_st11 hb, xk_st12 hb, xk_st13 hb, xk_st14 hb, xk_st15 hb, xk_st16 hb, xk_st17 hb, xk_st18 hb, xk_st2 hb, xk_st3 hb, xk_st4 hb, xk_st5 hb, xk_st6 hb, xk_st7 hb, xk_st8 hb, xk_st9 hb, xk_wd0 hu, xk_wd0 hw, xk_wd1 hu, xk_wd1 hw, xk_wd2 hu, xk_wd2 hw, xk_wd3 hu, xk_wd3 hw, xk_wd4 hu, xk_wd4 hw, xk_wd5 hu, xk_wd5 hw, xk_wd6 hu, xk_wd6 hw, xk_wd7 hu, xk_wd7 hw, xk_wd8 hu, xk_wd8 hw, xm_0_0 hx, xm_0_10 hx, xm_0_11 hx, xm_0_12 hx, xm_0_13 hx, xm_0_14 hx, xm_0_15 hx, xm_0_2 hx, xm_0_9 hx, xm_40_0 hx, xm_40_1 hx, xm_41_0 hx, xm_44_0 hx, xm_44_1 hx, xm_73_4 hx, xm_73_5 hx, xm_73_6 hx, xm_77_1 hx, xm_77_2 hx, xm_77_3 hx, xm_77_4 hx, xm_77_5 hx, xm_77_6 hx, xm_77_7 hx, xm_77_8 hx, xm_77_9 hx, xm_87_2 hx, xm_87_3 hx, xm_87_4 hx, xm_87_5 hx, xm_87_6 hx, xm_87_7 hx, xm_87_8 hx, xm_lw2 hx hb, xm_lw3 hx hb, xm_lw4 hx hb, xm_lw5 hx hb, xm_st1 hx hb, xm_st10 hx hb, xm_st11 hx hb, xm_st13 hx hb, xm_st14 hx hb, xm_st15 hx hb, xm_st16 hx hb, xm_st17 hx hb, xm_st2 hx hb, xm_st4 hx hb, xm_st5 hx hb, xm_st6 hx hb, xm_st7 hx hb, xm_st9 hx hb, xm_wd10 hx hu, xm_wd10 hx hw, xm_wd11 hx hu, xm_wd11 hx hw, xm_wd4 hx hu, xm_wd4 hx hw, xm_wd5 hx hu, xm_wd5 hx hw, xm_wd6 hx hu, xm_wd6 hx hw, xm_wd7 hx hu, xm_wd7 hx hw, xm_wd8 hx hu, xm_wd8 hx hw, xm_wd9 hx hu, xm_wd9 hx hw, ite_self, Bool.false_eq_true, eq_self, isk_t, i20_t, w20_t, l23_t, b21_t, b22_t, w_t, bif_t, bif_f, bif_d, if_pos, if_neg, if_true, if_false, not_true_eq_false, not_false_eq_true, Option.bind_some, Option.toList_some, Option.toList_none, List.cons_append, List.nil_append, Int.toNat_natCast, Int.reduceToNat, up_eq, up_p, up_k, sN]
  | succ n ih =>
    intro t μ h hK ht hv
    have e1 : ((t + 1 : Nat) : Int) = (t : Int) + 1 := by omega
    have hR1 : RLq ρ (am_up μ 95 t 0) b w u S W := rl_q h (frr_rf ρ) (frq_up (frq_rf μ) (by omega))
    have hK1 : XC (am_up μ 95 t 0) S C := xc_fr hK (fun q k hq => am_up_no (by omega))
    by_cases c : (t : Int) < S 0 1 ∧ W 4 0 t = -2
    · obtain ⟨μ1, f1, f2, f3⟩ := X_suit_in (cs := cs) (d := d) hst hwd c.1 c.2 hC (men S) 0 (am_up μ 95 t 0) hR1 hK1 (by omega) (up_eq ..)
      have fr : ∀ q k, ¬ (q = 74 ∨ q = 75) → ¬ (q = 95 ∧ k = t) → μ1 q k = μ q k := fun q k a0 a1 => by rw [f1 q k a0 a1, am_up_no a1]
      obtain ⟨μ2, k1, k2, k3⟩ := ih (t + 1) μ1 (rl_q h (frr_rf ρ) (fun q k hq => fr q k (by omega) (by omega))) (xc_fr hK (fun q k hq => fr q k (by omega) (by omega))) (by omega) (fun i hi => by
        by_cases e : i = t
        · subst e; exact f2
        · rw [fr _ _ (by omega) (by omega)]; exact hv i (by omega))
      refine ⟨μ2, fun q k a0 a1 => by rw [k1 q k a0 a1, fr q k a0 (by omega)], k2, ?_⟩
      rw [e1] at k3
      have j := f3 _ k3
      have e0 : ((0 : Nat) : Int) = 0 := rfl
      rw [e0] at j
      rw [← j]
      clear j f3 k3 ih
      obtain ⟨hx, hρ, hb, hgs, hw46, hu64, hSR, hS, hX, hWR, hWI, hW, hday, h49, h51, h53⟩ := h; have hw : w = 46 ∨ w = 55 ∨ w = 64 := Or.inl hw46; have hu : u = 46 ∨ u = 55 ∨ u = 64 := Or.inr (Or.inr hu64); have hn5 := (xm_0_5 hx).trans hw46.symm; have hn7 := (xm_0_7 hx).trans hu64.symm; have b0 := hS.1; have b1 := hS.2.1
      rw [e110_17]; simp (disch := omega) only [hgs, hn5, hn7, hst, hwd, xk_0, xk_1, xk_40, xk_41, xk_42, xk_43, xk_44, xk_45, xk_46, xk_47, xk_48, xk_49, xk_50, xk_51, xk_52, xk_53, xk_54, xk_55, xk_56, xk_57, xk_58, xk_59, xk_60, xk_61, xk_62, xk_63, xk_64, xk_65, xk_66, xk_67, xk_68, xk_69, xk_70, xk_71, xk_72, xk_73, xk_74, xk_75, xk_76, xk_77, xk_78, xk_79, xk_80, xk_81, xk_82, xk_83, xk_84, xk_85, xk_86, xk_87, xk_88, xk_89, xk_90, xk_91, xk_92, xk_93, xk_94, xk_95, xk_96, xk_97, xk_98, xk_st0 hb, xk_st1 hb, xk_st10 hb, xk_st11 hb, xk_st12 hb, xk_st13 hb, xk_st14 hb, xk_st15 hb, xk_st16 hb, xk_st17 hb, xk_st18 hb, xk_st2 hb, xk_st3 hb, xk_st4 hb, xk_st5 hb, xk_st6 hb, xk_st7 hb, xk_st8 hb, xk_st9 hb, xk_wd0 hu, xk_wd0 hw, xk_wd1 hu, xk_wd1 hw, xk_wd2 hu, xk_wd2 hw, xk_wd3 hu, xk_wd3 hw, xk_wd4 hu, xk_wd4 hw, xk_wd5 hu, xk_wd5 hw, xk_wd6 hu, xk_wd6 hw, xk_wd7 hu, xk_wd7 hw, xk_wd8 hu, xk_wd8 hw, xm_0_0 hx, xm_0_10 hx, xm_0_11 hx, xm_0_12 hx, xm_0_13 hx, xm_0_14 hx, xm_0_15 hx, xm_0_2 hx, xm_0_9 hx, xm_40_0 hx, xm_40_1 hx, xm_41_0 hx, xm_44_0 hx, xm_44_1 hx, xm_73_4 hx, xm_73_5 hx, xm_73_6 hx, xm_77_1 hx, xm_77_2 hx, xm_77_3 hx, xm_77_4 hx, xm_77_5 hx, xm_77_6 hx, xm_77_7 hx, xm_77_8 hx, xm_77_9 hx, xm_87_2 hx, xm_87_3 hx, xm_87_4 hx, xm_87_5 hx, xm_87_6 hx, xm_87_7 hx, xm_87_8 hx, xm_lw2 hx hb, xm_lw3 hx hb, xm_lw4 hx hb, xm_lw5 hx hb, xm_st1 hx hb, xm_st10 hx hb, xm_st11 hx hb, xm_st13 hx hb, xm_st14 hx hb, xm_st15 hx hb, xm_st16 hx hb, xm_st17 hx hb, xm_st2 hx hb, xm_st4 hx hb, xm_st5 hx hb, xm_st6 hx hb, xm_st7 hx hb, xm_st9 hx hb, xm_wd10 hx hu, xm_wd10 hx hw, xm_wd11 hx hu, xm_wd11 hx hw, xm_wd4 hx hu, xm_wd4 hx hw, xm_wd5 hx hu, xm_wd5 hx hw, xm_wd6 hx hu, xm_wd6 hx hw, xm_wd7 hx hu, xm_wd7 hx hw, xm_wd8 hx hu, xm_wd8 hx hw, xm_wd9 hx hu, xm_wd9 hx hw, ite_self, Bool.false_eq_true, eq_self, isk_t, i20_t, w20_t, l23_t, b21_t, b22_t, w_t, bif_t, bif_f, bif_d, if_pos, if_neg, if_true, if_false, not_true_eq_false, not_false_eq_true, Option.bind_some, Option.toList_some, Option.toList_none, List.cons_append, List.nil_append, Int.toNat_natCast, Int.reduceToNat, up_eq, up_p, up_k, sN]
    · have hz : wbF S C W t = 0 := bnt_0 (fun j => decide_eq_false (fun g => c ⟨g.1, g.2.1⟩)) _
      obtain ⟨μ2, k1, k2, k3⟩ := ih (t + 1) (am_up μ 95 t 0) hR1 hK1 (by omega) (fun i hi => by
        by_cases e : i = t
        · subst e; rw [up_eq, hz]; rfl
        · rw [up_k e]; exact hv i (by omega))
      refine ⟨μ2, fun q k a0 a1 => by rw [k1 q k a0 a1, am_up_no (by omega)], k2, ?_⟩
      rw [e1] at k3
      have h0 := h
      obtain ⟨hx, hρ, hb, hgs, hw46, hu64, hSR, hS, hX, hWR, hWI, hW, hday, h49, h51, h53⟩ := h; have hw : w = 46 ∨ w = 55 ∨ w = 64 := Or.inl hw46; have hu : u = 46 ∨ u = 55 ∨ u = 64 := Or.inr (Or.inr hu64); have hn5 := (xm_0_5 hx).trans hw46.symm; have hn7 := (xm_0_7 hx).trans hu64.symm; have b0 := hS.1; have b1 := hS.2.1
      have s0 := hS.1
      have s1 := hS.2.1
      have hn : μ b 0 = S 0 0 := hX.1.1
      have hn3 : μ b 3 = S 0 1 := hX.1.2.1
      have hwt := (hW.2.1 (t : Int) (by omega) (by omega)).1
      rw [Int.toNat_natCast] at hwt
      have hwv := (hWI.2.2.2.2.1 (t : Int) (by omega) (by omega)).1
      by_cases c1 : S 0 0 = 0
      · rw [e110_17]; simp (disch := omega) only [e110_32, hgs, hn5, hn7, hst, hwd, xk_0, xk_1, xk_40, xk_41, xk_42, xk_43, xk_44, xk_45, xk_46, xk_47, xk_48, xk_49, xk_50, xk_51, xk_52, xk_53, xk_54, xk_55, xk_56, xk_57, xk_58, xk_59, xk_60, xk_61, xk_62, xk_63, xk_64, xk_65, xk_66, xk_67, xk_68, xk_69, xk_70, xk_71, xk_72, xk_73, xk_74, xk_75, xk_76, xk_77, xk_78, xk_79, xk_80, xk_81, xk_82, xk_83, xk_84, xk_85, xk_86, xk_87, xk_88, xk_89, xk_90, xk_91, xk_92, xk_93, xk_94, xk_95, xk_96, xk_97, xk_98, xk_st0 hb, xk_st1 hb, xk_st10 hb, xk_st11 hb, xk_st12 hb, xk_st13 hb, xk_st14 hb, xk_st15 hb, xk_st16 hb, xk_st17 hb, xk_st18 hb, xk_st2 hb, xk_st3 hb, xk_st4 hb, xk_st5 hb, xk_st6 hb, xk_st7 hb, xk_st8 hb, xk_st9 hb, xk_wd0 hu, xk_wd0 hw, xk_wd1 hu, xk_wd1 hw, xk_wd2 hu, xk_wd2 hw, xk_wd3 hu, xk_wd3 hw, xk_wd4 hu, xk_wd4 hw, xk_wd5 hu, xk_wd5 hw, xk_wd6 hu, xk_wd6 hw, xk_wd7 hu, xk_wd7 hw, xk_wd8 hu, xk_wd8 hw, xm_0_0 hx, xm_0_10 hx, xm_0_11 hx, xm_0_12 hx, xm_0_13 hx, xm_0_14 hx, xm_0_15 hx, xm_0_2 hx, xm_0_9 hx, xm_40_0 hx, xm_40_1 hx, xm_41_0 hx, xm_44_0 hx, xm_44_1 hx, xm_73_4 hx, xm_73_5 hx, xm_73_6 hx, xm_77_1 hx, xm_77_2 hx, xm_77_3 hx, xm_77_4 hx, xm_77_5 hx, xm_77_6 hx, xm_77_7 hx, xm_77_8 hx, xm_77_9 hx, xm_87_2 hx, xm_87_3 hx, xm_87_4 hx, xm_87_5 hx, xm_87_6 hx, xm_87_7 hx, xm_87_8 hx, xm_lw2 hx hb, xm_lw3 hx hb, xm_lw4 hx hb, xm_lw5 hx hb, xm_st1 hx hb, xm_st10 hx hb, xm_st11 hx hb, xm_st13 hx hb, xm_st14 hx hb, xm_st15 hx hb, xm_st16 hx hb, xm_st17 hx hb, xm_st2 hx hb, xm_st4 hx hb, xm_st5 hx hb, xm_st6 hx hb, xm_st7 hx hb, xm_st9 hx hb, xm_wd10 hx hu, xm_wd10 hx hw, xm_wd11 hx hu, xm_wd11 hx hw, xm_wd4 hx hu, xm_wd4 hx hw, xm_wd5 hx hu, xm_wd5 hx hw, xm_wd6 hx hu, xm_wd6 hx hw, xm_wd7 hx hu, xm_wd7 hx hw, xm_wd8 hx hu, xm_wd8 hx hw, xm_wd9 hx hu, xm_wd9 hx hw, ite_self, Bool.false_eq_true, eq_self, isk_t, i20_t, w20_t, l23_t, b21_t, b22_t, w_t, bif_t, bif_f, bif_d, if_pos, if_neg, if_true, if_false, not_true_eq_false, not_false_eq_true, Option.bind_some, Option.toList_some, Option.toList_none, List.cons_append, List.nil_append, Int.toNat_natCast, Int.reduceToNat, up_eq, up_p, up_k, sN,  hn, hn3, c1 ]
        exact am_E_le (am_lq_of _ _ (by simp [am_leb])) k3
      · by_cases c2 : (t : Int) < S 0 1
        · have c3 : 0 ≤ W 4 0 t := by
            rcases hwv with g | g
            · exact absurd ⟨c2, g⟩ c
            · exact g
          rw [e110_17]; simp (disch := omega) only [e110_32, hgs, hn5, hn7, hst, hwd, xk_0, xk_1, xk_40, xk_41, xk_42, xk_43, xk_44, xk_45, xk_46, xk_47, xk_48, xk_49, xk_50, xk_51, xk_52, xk_53, xk_54, xk_55, xk_56, xk_57, xk_58, xk_59, xk_60, xk_61, xk_62, xk_63, xk_64, xk_65, xk_66, xk_67, xk_68, xk_69, xk_70, xk_71, xk_72, xk_73, xk_74, xk_75, xk_76, xk_77, xk_78, xk_79, xk_80, xk_81, xk_82, xk_83, xk_84, xk_85, xk_86, xk_87, xk_88, xk_89, xk_90, xk_91, xk_92, xk_93, xk_94, xk_95, xk_96, xk_97, xk_98, xk_st0 hb, xk_st1 hb, xk_st10 hb, xk_st11 hb, xk_st12 hb, xk_st13 hb, xk_st14 hb, xk_st15 hb, xk_st16 hb, xk_st17 hb, xk_st18 hb, xk_st2 hb, xk_st3 hb, xk_st4 hb, xk_st5 hb, xk_st6 hb, xk_st7 hb, xk_st8 hb, xk_st9 hb, xk_wd0 hu, xk_wd0 hw, xk_wd1 hu, xk_wd1 hw, xk_wd2 hu, xk_wd2 hw, xk_wd3 hu, xk_wd3 hw, xk_wd4 hu, xk_wd4 hw, xk_wd5 hu, xk_wd5 hw, xk_wd6 hu, xk_wd6 hw, xk_wd7 hu, xk_wd7 hw, xk_wd8 hu, xk_wd8 hw, xm_0_0 hx, xm_0_10 hx, xm_0_11 hx, xm_0_12 hx, xm_0_13 hx, xm_0_14 hx, xm_0_15 hx, xm_0_2 hx, xm_0_9 hx, xm_40_0 hx, xm_40_1 hx, xm_41_0 hx, xm_44_0 hx, xm_44_1 hx, xm_73_4 hx, xm_73_5 hx, xm_73_6 hx, xm_77_1 hx, xm_77_2 hx, xm_77_3 hx, xm_77_4 hx, xm_77_5 hx, xm_77_6 hx, xm_77_7 hx, xm_77_8 hx, xm_77_9 hx, xm_87_2 hx, xm_87_3 hx, xm_87_4 hx, xm_87_5 hx, xm_87_6 hx, xm_87_7 hx, xm_87_8 hx, xm_lw2 hx hb, xm_lw3 hx hb, xm_lw4 hx hb, xm_lw5 hx hb, xm_st1 hx hb, xm_st10 hx hb, xm_st11 hx hb, xm_st13 hx hb, xm_st14 hx hb, xm_st15 hx hb, xm_st16 hx hb, xm_st17 hx hb, xm_st2 hx hb, xm_st4 hx hb, xm_st5 hx hb, xm_st6 hx hb, xm_st7 hx hb, xm_st9 hx hb, xm_wd10 hx hu, xm_wd10 hx hw, xm_wd11 hx hu, xm_wd11 hx hw, xm_wd4 hx hu, xm_wd4 hx hw, xm_wd5 hx hu, xm_wd5 hx hw, xm_wd6 hx hu, xm_wd6 hx hw, xm_wd7 hx hu, xm_wd7 hx hw, xm_wd8 hx hu, xm_wd8 hx hw, xm_wd9 hx hu, xm_wd9 hx hw, ite_self, Bool.false_eq_true, eq_self, isk_t, i20_t, w20_t, l23_t, b21_t, b22_t, w_t, bif_t, bif_f, bif_d, if_pos, if_neg, if_true, if_false, not_true_eq_false, not_false_eq_true, Option.bind_some, Option.toList_some, Option.toList_none, List.cons_append, List.nil_append, Int.toNat_natCast, Int.reduceToNat, up_eq, up_p, up_k, sN,  hn, hn3, hwt ]
          exact am_E_le (am_lq_of _ _ (by simp [am_leb])) k3
        · rw [e110_17]; simp (disch := omega) only [e110_32, hgs, hn5, hn7, hst, hwd, xk_0, xk_1, xk_40, xk_41, xk_42, xk_43, xk_44, xk_45, xk_46, xk_47, xk_48, xk_49, xk_50, xk_51, xk_52, xk_53, xk_54, xk_55, xk_56, xk_57, xk_58, xk_59, xk_60, xk_61, xk_62, xk_63, xk_64, xk_65, xk_66, xk_67, xk_68, xk_69, xk_70, xk_71, xk_72, xk_73, xk_74, xk_75, xk_76, xk_77, xk_78, xk_79, xk_80, xk_81, xk_82, xk_83, xk_84, xk_85, xk_86, xk_87, xk_88, xk_89, xk_90, xk_91, xk_92, xk_93, xk_94, xk_95, xk_96, xk_97, xk_98, xk_st0 hb, xk_st1 hb, xk_st10 hb, xk_st11 hb, xk_st12 hb, xk_st13 hb, xk_st14 hb, xk_st15 hb, xk_st16 hb, xk_st17 hb, xk_st18 hb, xk_st2 hb, xk_st3 hb, xk_st4 hb, xk_st5 hb, xk_st6 hb, xk_st7 hb, xk_st8 hb, xk_st9 hb, xk_wd0 hu, xk_wd0 hw, xk_wd1 hu, xk_wd1 hw, xk_wd2 hu, xk_wd2 hw, xk_wd3 hu, xk_wd3 hw, xk_wd4 hu, xk_wd4 hw, xk_wd5 hu, xk_wd5 hw, xk_wd6 hu, xk_wd6 hw, xk_wd7 hu, xk_wd7 hw, xk_wd8 hu, xk_wd8 hw, xm_0_0 hx, xm_0_10 hx, xm_0_11 hx, xm_0_12 hx, xm_0_13 hx, xm_0_14 hx, xm_0_15 hx, xm_0_2 hx, xm_0_9 hx, xm_40_0 hx, xm_40_1 hx, xm_41_0 hx, xm_44_0 hx, xm_44_1 hx, xm_73_4 hx, xm_73_5 hx, xm_73_6 hx, xm_77_1 hx, xm_77_2 hx, xm_77_3 hx, xm_77_4 hx, xm_77_5 hx, xm_77_6 hx, xm_77_7 hx, xm_77_8 hx, xm_77_9 hx, xm_87_2 hx, xm_87_3 hx, xm_87_4 hx, xm_87_5 hx, xm_87_6 hx, xm_87_7 hx, xm_87_8 hx, xm_lw2 hx hb, xm_lw3 hx hb, xm_lw4 hx hb, xm_lw5 hx hb, xm_st1 hx hb, xm_st10 hx hb, xm_st11 hx hb, xm_st13 hx hb, xm_st14 hx hb, xm_st15 hx hb, xm_st16 hx hb, xm_st17 hx hb, xm_st2 hx hb, xm_st4 hx hb, xm_st5 hx hb, xm_st6 hx hb, xm_st7 hx hb, xm_st9 hx hb, xm_wd10 hx hu, xm_wd10 hx hw, xm_wd11 hx hu, xm_wd11 hx hw, xm_wd4 hx hu, xm_wd4 hx hw, xm_wd5 hx hu, xm_wd5 hx hw, xm_wd6 hx hu, xm_wd6 hx hw, xm_wd7 hx hu, xm_wd7 hx hw, xm_wd8 hx hu, xm_wd8 hx hw, xm_wd9 hx hu, xm_wd9 hx hw, ite_self, Bool.false_eq_true, eq_self, isk_t, i20_t, w20_t, l23_t, b21_t, b22_t, w_t, bif_t, bif_f, bif_d, if_pos, if_neg, if_true, if_false, not_true_eq_false, not_false_eq_true, Option.bind_some, Option.toList_some, Option.toList_none, List.cons_append, List.nil_append, Int.toNat_natCast, Int.reduceToNat, up_eq, up_p, up_k, sN,  hn, hn3 ]
          exact am_E_le (am_lq_of _ _ (by simp [am_leb])) k3
end MW1
