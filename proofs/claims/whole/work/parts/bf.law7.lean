/-! LAW: the ops of the script -/
section LOR
variable {ρ : Nat → Nat → Nat} {μ : Nat → Nat → Int} {cs : Nat × Nat × Nat} {d : Nat}
theorem LW_7 (h : RA ρ μ) {i : Int} (i0 : 0 ≤ i) (iL : i + 6 ≤ cs.2.2) (hL : cs.2.2 < 2147483648) (hop : am_and (μ 1000000 i.toNat) 63 = 7) : ∃ ρ' μ', RA ρ' μ' ∧ (∀ j, μ' 1000000 j = μ 1000000 j) ∧ am_E (d + 301) 276 23 [some (.inr (.inr 1000000)), some (.inr (.inr 0)), some (.inr (.inr 99)), some (.inr (.inr 141)), some (.inl i), none, none] [] (SH, ρ, μ, cs) = am_E (d + 301) 276 1533 [some (.inr (.inr 1000000)), some (.inr (.inr 0)), some (.inr (.inr 99)), some (.inr (.inr 141)), some (.inl i), none, none] [] (SH, ρ', μ', cs) := by
  have hx : XM ρ := by
    obtain ⟨b, w, u, S, W, h⟩ := h
    exact h.1.1
  obtain ⟨v, ρ', μ1, μ2, e1, e2, hR⟩ : BT ρ μ cs (fun H => am_E (d + 300) 93 0 [some (.inr (.inr 0)), some (.inl (μ 1000000 (i + 1).toNat)), some (.inl (μ 1000000 (i + 2).toNat)), some (.inl (μ 1000000 (i + 3).toNat)), some (.inl (μ 1000000 (i + 4).toNat))] [] H) (fun H => am_E (d + 300) 213 0 [some (.inr (.inr 99)), some (.inl (μ 1000000 (i + 1).toNat)), some (.inl (μ 1000000 (i + 2).toNat)), some (.inl (μ 1000000 (i + 3).toNat)), some (.inl (μ 1000000 (i + 4).toNat))] [] H) := C_law (d := d + 280) (cs := cs) h
  have e1 : am_E (d + 300) 93 0 [some (.inr (.inr 0)), some (.inl (μ 1000000 (i + 1).toNat)), some (.inl (μ 1000000 (i + 2).toNat)), some (.inl (μ 1000000 (i + 3).toNat)), some (.inl (μ 1000000 (i + 4).toNat))] [] (SH, ρ, μ, cs) = some (some v, (SH, ρ', μ1, cs)) := e1
  have e2 : am_E (d + 300) 213 0 [some (.inr (.inr 99)), some (.inl (μ 1000000 (i + 1).toNat)), some (.inl (μ 1000000 (i + 2).toNat)), some (.inl (μ 1000000 (i + 3).toNat)), some (.inl (μ 1000000 (i + 4).toNat))] [] (SH, ρ', μ1, cs) = some (some v, (SH, ρ', μ2, cs)) := e2
  obtain ⟨z, hz⟩ := (am_E_rk (by decide) e1).2 rfl
  have hz : v = .inr (.inl z) := Option.some.inj hz
  subst hz
  have k1 : ∀ j, μ1 1000000 j = μ 1000000 j := fun j => am_E_keep e1 1000000 j (Nat.le_refl _)
  have k2 : ∀ j, μ2 1000000 j = μ1 1000000 j := fun j => am_E_keep e2 1000000 j (Nat.le_refl _)
  refine ⟨ρ', μ2, hR, fun j => (k2 j).trans (k1 j), ?_⟩
  have hlk := lnk_24 hL
  have w6 : ¬ ((cs.2.2 : Nat) : Int) - 6 < i := by omega
  rw [e276_23]; simp (disch := omega) only [e276_40_c7, e276_530, e276_558, xk_0, xk_1, xk_40, xk_41, xk_42, xk_43, xk_44, xk_45, xk_46, xk_47, xk_48, xk_49, xk_50, xk_51, xk_52, xk_53, xk_54, xk_55, xk_56, xk_57, xk_58, xk_59, xk_60, xk_61, xk_62, xk_63, xk_64, xk_65, xk_66, xk_67, xk_68, xk_69, xk_70, xk_71, xk_72, xk_73, xk_74, xk_75, xk_76, xk_77, xk_78, xk_79, xk_80, xk_81, xk_82, xk_83, xk_84, xk_85, xk_86, xk_87, xk_88, xk_89, xk_90, xk_91, xk_92, xk_93, xk_94, xk_95, xk_96, xk_97, xk_98, xm_0_0 hx, xm_0_10 hx, xm_0_11 hx, xm_0_12 hx, xm_0_13 hx, xm_0_14 hx, xm_0_15 hx, xm_0_2 hx, xm_0_9 hx, xm_40_0 hx, xm_40_1 hx, xm_41_0 hx, xm_44_0 hx, xm_44_1 hx, xm_73_4 hx, xm_73_5 hx, xm_73_6 hx, xm_77_1 hx, xm_77_2 hx, xm_77_3 hx, xm_77_4 hx, xm_77_5 hx, xm_77_6 hx, xm_77_7 hx, xm_77_8 hx, xm_77_9 hx, xm_87_2 hx, xm_87_3 hx, xm_87_4 hx, xm_87_5 hx, xm_87_6 hx, xm_87_7 hx, xm_87_8 hx, ite_self, Bool.false_eq_true, eq_self, isk_t, i20_t, w20_t, l23_t, b21_t, b22_t, w_t, bif_t, bif_f, bif_d, if_pos, if_neg, if_true, if_false, not_true_eq_false, not_false_eq_true, Option.bind_some, Option.toList_some, Option.toList_none, List.cons_append, List.nil_append, Int.toNat_natCast, Int.reduceToNat, up_eq, up_p, up_k, sN,  ks_S, i24_t, hlk, w6, hop, k1, e1, e2, ks_99, am_lc_s ]
theorem LW_25 (h : RA ρ μ) {i : Int} (i0 : 0 ≤ i) (iL : i + 6 ≤ cs.2.2) (hL : cs.2.2 < 2147483648) (hop : am_and (μ 1000000 i.toNat) 63 = 25) : ∃ ρ' μ', RA ρ' μ' ∧ (∀ j, μ' 1000000 j = μ 1000000 j) ∧ am_E (d + 301) 276 23 [some (.inr (.inr 1000000)), some (.inr (.inr 0)), some (.inr (.inr 99)), some (.inr (.inr 141)), some (.inl i), none, none] [] (SH, ρ, μ, cs) = am_E (d + 301) 276 1533 [some (.inr (.inr 1000000)), some (.inr (.inr 0)), some (.inr (.inr 99)), some (.inr (.inr 141)), some (.inl i), none, none] [] (SH, ρ', μ', cs) := by
  have hx : XM ρ := by
    obtain ⟨b, w, u, S, W, h⟩ := h
    exact h.1.1
  have hlk := lnk_24 hL
  have w6 : ¬ ((cs.2.2 : Nat) : Int) - 6 < i := by omega
  by_cases c5 : μ 1000000 (i + 5).toNat = 0
  · obtain ⟨v, ρ', μ1, μ2, e1, e2, hR⟩ : BT ρ μ cs (fun H => am_E (d + 300) 120 0 [some (.inr (.inr 0)), some (.inl (μ 1000000 (i + 1).toNat)), some (.inl (μ 1000000 (i + 2).toNat)), some (.inl (μ 1000000 (i + 3).toNat)), some (.inl (μ 1000000 (i + 4).toNat)), some (.inl 0)] [] H) (fun H => am_E (d + 300) 241 0 [some (.inr (.inr 99)), some (.inl (μ 1000000 (i + 1).toNat)), some (.inl (μ 1000000 (i + 2).toNat)), some (.inl (μ 1000000 (i + 3).toNat)), some (.inl (μ 1000000 (i + 4).toNat)), some (.inl 0)] [] H) := C_see (d := d + 280) (cs := cs) h (Or.inl rfl)
    have e1 : am_E (d + 300) 120 0 [some (.inr (.inr 0)), some (.inl (μ 1000000 (i + 1).toNat)), some (.inl (μ 1000000 (i + 2).toNat)), some (.inl (μ 1000000 (i + 3).toNat)), some (.inl (μ 1000000 (i + 4).toNat)), some (.inl 0)] [] (SH, ρ, μ, cs) = some (some v, (SH, ρ', μ1, cs)) := e1
    have e2 : am_E (d + 300) 241 0 [some (.inr (.inr 99)), some (.inl (μ 1000000 (i + 1).toNat)), some (.inl (μ 1000000 (i + 2).toNat)), some (.inl (μ 1000000 (i + 3).toNat)), some (.inl (μ 1000000 (i + 4).toNat)), some (.inl 0)] [] (SH, ρ', μ1, cs) = some (some v, (SH, ρ', μ2, cs)) := e2
    obtain ⟨z, hz⟩ := (am_E_rk (by decide) e1).1 (by first | exact Or.inl rfl | exact Or.inr rfl)
    have hz : v = .inl z := Option.some.inj hz
    subst hz
    have k1 : ∀ j, μ1 1000000 j = μ 1000000 j := fun j => am_E_keep e1 1000000 j (Nat.le_refl _)
    have k2 : ∀ j, μ2 1000000 j = μ1 1000000 j := fun j => am_E_keep e2 1000000 j (Nat.le_refl _)
    refine ⟨ρ', μ2, hR, fun j => (k2 j).trans (k1 j), ?_⟩
    rw [e276_23]; simp (disch := omega) only [e276_40_c25, e276_1188, e276_1230, xk_0, xk_1, xk_40, xk_41, xk_42, xk_43, xk_44, xk_45, xk_46, xk_47, xk_48, xk_49, xk_50, xk_51, xk_52, xk_53, xk_54, xk_55, xk_56, xk_57, xk_58, xk_59, xk_60, xk_61, xk_62, xk_63, xk_64, xk_65, xk_66, xk_67, xk_68, xk_69, xk_70, xk_71, xk_72, xk_73, xk_74, xk_75, xk_76, xk_77, xk_78, xk_79, xk_80, xk_81, xk_82, xk_83, xk_84, xk_85, xk_86, xk_87, xk_88, xk_89, xk_90, xk_91, xk_92, xk_93, xk_94, xk_95, xk_96, xk_97, xk_98, xm_0_0 hx, xm_0_10 hx, xm_0_11 hx, xm_0_12 hx, xm_0_13 hx, xm_0_14 hx, xm_0_15 hx, xm_0_2 hx, xm_0_9 hx, xm_40_0 hx, xm_40_1 hx, xm_41_0 hx, xm_44_0 hx, xm_44_1 hx, xm_73_4 hx, xm_73_5 hx, xm_73_6 hx, xm_77_1 hx, xm_77_2 hx, xm_77_3 hx, xm_77_4 hx, xm_77_5 hx, xm_77_6 hx, xm_77_7 hx, xm_77_8 hx, xm_77_9 hx, xm_87_2 hx, xm_87_3 hx, xm_87_4 hx, xm_87_5 hx, xm_87_6 hx, xm_87_7 hx, xm_87_8 hx, ite_self, Bool.false_eq_true, eq_self, isk_t, i20_t, w20_t, l23_t, b21_t, b22_t, w_t, bif_t, bif_f, bif_d, if_pos, if_neg, if_true, if_false, not_true_eq_false, not_false_eq_true, Option.bind_some, Option.toList_some, Option.toList_none, List.cons_append, List.nil_append, Int.toNat_natCast, Int.reduceToNat, up_eq, up_p, up_k, sN,  ks_S, i24_t, hlk, w6, hop, k1, c5, e1, e2, ks_99 ]
  · obtain ⟨v, ρ', μ1, μ2, e1, e2, hR⟩ : BT ρ μ cs (fun H => am_E (d + 300) 120 0 [some (.inr (.inr 0)), some (.inl (μ 1000000 (i + 1).toNat)), some (.inl (μ 1000000 (i + 2).toNat)), some (.inl (μ 1000000 (i + 3).toNat)), some (.inl (μ 1000000 (i + 4).toNat)), some (.inl 1)] [] H) (fun H => am_E (d + 300) 241 0 [some (.inr (.inr 99)), some (.inl (μ 1000000 (i + 1).toNat)), some (.inl (μ 1000000 (i + 2).toNat)), some (.inl (μ 1000000 (i + 3).toNat)), some (.inl (μ 1000000 (i + 4).toNat)), some (.inl 1)] [] H) := C_see (d := d + 280) (cs := cs) h (Or.inr rfl)
    have e1 : am_E (d + 300) 120 0 [some (.inr (.inr 0)), some (.inl (μ 1000000 (i + 1).toNat)), some (.inl (μ 1000000 (i + 2).toNat)), some (.inl (μ 1000000 (i + 3).toNat)), some (.inl (μ 1000000 (i + 4).toNat)), some (.inl 1)] [] (SH, ρ, μ, cs) = some (some v, (SH, ρ', μ1, cs)) := e1
    have e2 : am_E (d + 300) 241 0 [some (.inr (.inr 99)), some (.inl (μ 1000000 (i + 1).toNat)), some (.inl (μ 1000000 (i + 2).toNat)), some (.inl (μ 1000000 (i + 3).toNat)), some (.inl (μ 1000000 (i + 4).toNat)), some (.inl 1)] [] (SH, ρ', μ1, cs) = some (some v, (SH, ρ', μ2, cs)) := e2
    obtain ⟨z, hz⟩ := (am_E_rk (by decide) e1).1 (by first | exact Or.inl rfl | exact Or.inr rfl)
    have hz : v = .inl z := Option.some.inj hz
    subst hz
    have k1 : ∀ j, μ1 1000000 j = μ 1000000 j := fun j => am_E_keep e1 1000000 j (Nat.le_refl _)
    have k2 : ∀ j, μ2 1000000 j = μ1 1000000 j := fun j => am_E_keep e2 1000000 j (Nat.le_refl _)
    refine ⟨ρ', μ2, hR, fun j => (k2 j).trans (k1 j), ?_⟩
    rw [e276_23]; simp (disch := omega) only [e276_40_c25, e276_1188, e276_1230, xk_0, xk_1, xk_40, xk_41, xk_42, xk_43, xk_44, xk_45, xk_46, xk_47, xk_48, xk_49, xk_50, xk_51, xk_52, xk_53, xk_54, xk_55, xk_56, xk_57, xk_58, xk_59, xk_60, xk_61, xk_62, xk_63, xk_64, xk_65, xk_66, xk_67, xk_68, xk_69, xk_70, xk_71, xk_72, xk_73, xk_74, xk_75, xk_76, xk_77, xk_78, xk_79, xk_80, xk_81, xk_82, xk_83, xk_84, xk_85, xk_86, xk_87, xk_88, xk_89, xk_90, xk_91, xk_92, xk_93, xk_94, xk_95, xk_96, xk_97, xk_98, xm_0_0 hx, xm_0_10 hx, xm_0_11 hx, xm_0_12 hx, xm_0_13 hx, xm_0_14 hx, xm_0_15 hx, xm_0_2 hx, xm_0_9 hx, xm_40_0 hx, xm_40_1 hx, xm_41_0 hx, xm_44_0 hx, xm_44_1 hx, xm_73_4 hx, xm_73_5 hx, xm_73_6 hx, xm_77_1 hx, xm_77_2 hx, xm_77_3 hx, xm_77_4 hx, xm_77_5 hx, xm_77_6 hx, xm_77_7 hx, xm_77_8 hx, xm_77_9 hx, xm_87_2 hx, xm_87_3 hx, xm_87_4 hx, xm_87_5 hx, xm_87_6 hx, xm_87_7 hx, xm_87_8 hx, ite_self, Bool.false_eq_true, eq_self, isk_t, i20_t, w20_t, l23_t, b21_t, b22_t, w_t, bif_t, bif_f, bif_d, if_pos, if_neg, if_true, if_false, not_true_eq_false, not_false_eq_true, Option.bind_some, Option.toList_some, Option.toList_none, List.cons_append, List.nil_append, Int.toNat_natCast, Int.reduceToNat, up_eq, up_p, up_k, sN,  ks_S, i24_t, hlk, w6, hop, k1, c5, e1, e2, ks_99 ]
theorem LW_d (h : RA ρ μ) {i : Int} (i0 : 0 ≤ i) (iL : i + 6 ≤ cs.2.2) (hL : cs.2.2 < 2147483648) (hop : ¬ (0 ≤ am_and (μ 1000000 i.toNat) 63 ∧ am_and (μ 1000000 i.toNat) 63 ≤ 35)) : ∃ ρ' μ', RA ρ' μ' ∧ (∀ j, μ' 1000000 j = μ 1000000 j) ∧ am_E (d + 301) 276 23 [some (.inr (.inr 1000000)), some (.inr (.inr 0)), some (.inr (.inr 99)), some (.inr (.inr 141)), some (.inl i), none, none] [] (SH, ρ, μ, cs) = am_E (d + 301) 276 1533 [some (.inr (.inr 1000000)), some (.inr (.inr 0)), some (.inr (.inr 99)), some (.inr (.inr 141)), some (.inl i), none, none] [] (SH, ρ', μ', cs) := by
  have hlk := lnk_24 hL
  have w6 : ¬ ((cs.2.2 : Nat) : Int) - 6 < i := by omega
  refine ⟨ρ, μ, h, fun j => rfl, ?_⟩
  rw [e276_23]; simp (disch := omega) only [ite_self, Bool.false_eq_true, eq_self, isk_t, i20_t, w20_t, l23_t, b21_t, b22_t, w_t, bif_t, bif_f, bif_d, if_pos, if_neg, if_true, if_false, not_true_eq_false, not_false_eq_true, Option.bind_some, Option.toList_some, Option.toList_none, List.cons_append, List.nil_append, Int.toNat_natCast, Int.reduceToNat, up_eq, up_p, up_k, sN,  ks_S, i24_t, hlk, w6, ks_99 ]
  exact e276_40_d _ _ _ _ _ _ _ _ _ _ _ (by omega)
theorem am_h1533 {H : am_H} {i : Int} {a b : Option am_V} (i0 : 0 ≤ i) : am_E d 276 1533 [some (.inr (.inr 1000000)), some (.inr (.inr 0)), some (.inr (.inr 99)), some (.inr (.inr 141)), some (.inl i), a, b] [] H = some (some (.inr (.inr (2 * i.toNat))), H) := by
  rw [am_E_fix]
  have hc : am_code 276 1533 = some (.iinc 4 6, 3) := rfl
  unfold am_F am_act
  rw [hc]
  simp [am_act1, am_hl, am_hi, am_lb, i0]
theorem LW_4 {i : Int} (i0 : 0 ≤ i) (iL : i + 6 ≤ cs.2.2) (hL : cs.2.2 < 2147483648) (hop : am_and (μ 1000000 i.toNat) 63 = 4) : am_E (d + 301) 276 23 [some (.inr (.inr 1000000)), some (.inr (.inr 0)), some (.inr (.inr 99)), some (.inr (.inr 141)), some (.inl i), none, none] [] (SH, ρ, μ, cs) = some (some (.inr (.inr (2 * i.toNat + 1))), (SH, ρ, μ, cs)) := by
  have hlk := lnk_24 hL
  have w6 : ¬ ((cs.2.2 : Nat) : Int) - 6 < i := by omega
  rw [e276_23]; simp (disch := omega) only [e276_40_c4, ite_self, Bool.false_eq_true, eq_self, isk_t, i20_t, w20_t, l23_t, b21_t, b22_t, w_t, bif_t, bif_f, bif_d, if_pos, if_neg, if_true, if_false, not_true_eq_false, not_false_eq_true, Option.bind_some, Option.toList_some, Option.toList_none, List.cons_append, List.nil_append, Int.toNat_natCast, Int.reduceToNat, up_eq, up_p, up_k, sN,  ks_S, i24_t, hlk, w6, hop, ks_99 ]
  rw [am_E_fix]
  have hc : ∃ idx, am_code 276 374 = some (.invokestatic idx, 3) ∧ am_pool 276 idx = none := ⟨_, rfl, rfl⟩
  obtain ⟨idx, hc, hp⟩ := hc
  have t1 : (i + 1).toNat = i.toNat + 1 := by omega
  have t2 : (i + 2).toNat = i.toNat + 2 := by omega
  unfold am_F am_act
  rw [hc]
  simp [am_act1, hp, am_hT, am_hi, am_lb, i0, t1, t2]
end LOR
