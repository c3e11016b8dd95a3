/-! LAW: the ops of the script -/
theorem am_lc_s (z : Int) : am_lc z z = 0 := by unfold am_lc; rw [if_neg (by omega), if_pos rfl]
section LOQ
variable {ρ : Nat → Nat → Nat} {μ : Nat → Nat → Int} {cs : Nat × Nat × Nat} {d : Nat}
theorem LW_0 (h : RA ρ μ) {i : Int} (i0 : 0 ≤ i) (iL : i + 6 ≤ cs.2.2) (hL : cs.2.2 < 2147483648) (hop : am_and (μ 1000000 i.toNat) 63 = 0) : ∃ ρ' μ', RA ρ' μ' ∧ (∀ j, μ' 1000000 j = μ 1000000 j) ∧ am_E (d + 301) 276 23 [some (.inr (.inr 1000000)), some (.inr (.inr 0)), some (.inr (.inr 99)), some (.inr (.inr 141)), some (.inl i), none, none] [] (SH, ρ, μ, cs) = am_E (d + 301) 276 1533 [some (.inr (.inr 1000000)), some (.inr (.inr 0)), some (.inr (.inr 99)), some (.inr (.inr 141)), some (.inl i), none, none] [] (SH, ρ', μ', cs) := by
  have hx : XM ρ := by
    obtain ⟨b, w, u, S, W, h⟩ := h
    exact h.1.1
  obtain ⟨v, ρ', μ1, μ2, e1, e2, hR⟩ : BT ρ μ cs (fun H => am_E (d + 300) 85 0 [some (.inr (.inr 0)), some (.inl (μ 1000000 (i + 1).toNat)), some (.inl (μ 1000000 (i + 2).toNat)), some (.inl (μ 1000000 (i + 3).toNat)), some (.inl (μ 1000000 (i + 4).toNat)), some (.inl (μ 1000000 (i + 5).toNat))] [] H) (fun H => am_E (d + 300) 141 0 [some (.inr (.inr 99)), some (.inl (μ 1000000 (i + 1).toNat)), some (.inl (μ 1000000 (i + 2).toNat)), some (.inl (μ 1000000 (i + 3).toNat)), some (.inl (μ 1000000 (i + 4).toNat)), some (.inl (μ 1000000 (i + 5).toNat)), none, none] [] H) := C_feed (d := d + 280) (cs := cs) h
  have e1 : am_E (d + 300) 85 0 [some (.inr (.inr 0)), some (.inl (μ 1000000 (i + 1).toNat)), some (.inl (μ 1000000 (i + 2).toNat)), some (.inl (μ 1000000 (i + 3).toNat)), some (.inl (μ 1000000 (i + 4).toNat)), some (.inl (μ 1000000 (i + 5).toNat))] [] (SH, ρ, μ, cs) = some (some v, (SH, ρ', μ1, cs)) := e1
  have e2 : am_E (d + 300) 141 0 [some (.inr (.inr 99)), some (.inl (μ 1000000 (i + 1).toNat)), some (.inl (μ 1000000 (i + 2).toNat)), some (.inl (μ 1000000 (i + 3).toNat)), some (.inl (μ 1000000 (i + 4).toNat)), some (.inl (μ 1000000 (i + 5).toNat)), none, none] [] (SH, ρ', μ1, cs) = some (some v, (SH, ρ', μ2, cs)) := e2
  obtain ⟨z, hz⟩ := (am_E_rk (by decide) e1).1 (by first | exact Or.inl rfl | exact Or.inr rfl)
  have hz : v = .inl z := Option.some.inj hz
  subst hz
  have k1 : ∀ j, μ1 1000000 j = μ 1000000 j := fun j => am_E_keep e1 1000000 j (Nat.le_refl _)
  have k2 : ∀ j, μ2 1000000 j = μ1 1000000 j := fun j => am_E_keep e2 1000000 j (Nat.le_refl _)
  refine ⟨ρ', μ2, hR, fun j => (k2 j).trans (k1 j), ?_⟩
  have hlk := lnk_24 hL
  have w6 : ¬ ((cs.2.2 : Nat) : Int) - 6 < i := by omega
  rw [e276_23]; simp (disch := omega) only [e276_40_c0, e276_234, e276_268, xk_0, xk_1, xk_40, xk_41, xk_42, xk_43, xk_44, xk_45, xk_46, xk_47, xk_48, xk_49, xk_50, xk_51, xk_52, xk_53, xk_54, xk_55, xk_56, xk_57, xk_58, xk_59, xk_60, xk_61, xk_62, xk_63, xk_64, xk_65, xk_66, xk_67, xk_68, xk_69, xk_70, xk_71, xk_72, xk_73, xk_74, xk_75, xk_76, xk_77, xk_78, xk_79, xk_80, xk_81, xk_82, xk_83, xk_84, xk_85, xk_86, xk_87, xk_88, xk_89, xk_90, xk_91, xk_92, xk_93, xk_94, xk_95, xk_96, xk_97, xk_98, xm_0_0 hx, xm_0_10 hx, xm_0_11 hx, xm_0_12 hx, xm_0_13 hx, xm_0_14 hx, xm_0_15 hx, xm_0_2 hx, xm_0_9 hx, xm_40_0 hx, xm_40_1 hx, xm_41_0 hx, xm_44_0 hx, xm_44_1 hx, xm_73_4 hx, xm_73_5 hx, xm_73_6 hx, xm_77_1 hx, xm_77_2 hx, xm_77_3 hx, xm_77_4 hx, xm_77_5 hx, xm_77_6 hx, xm_77_7 hx, xm_77_8 hx, xm_77_9 hx, xm_87_2 hx, xm_87_3 hx, xm_87_4 hx, xm_87_5 hx, xm_87_6 hx, xm_87_7 hx, xm_87_8 hx, ite_self, Bool.false_eq_true, eq_self, isk_t, i20_t, w20_t, l23_t, b21_t, b22_t, w_t, bif_t, bif_f, bif_d, if_pos, if_neg, if_true, if_false, not_true_eq_false, not_false_eq_true, Option.bind_some, Option.toList_some, Option.toList_none, List.cons_append, List.nil_append, Int.toNat_natCast, Int.reduceToNat, up_eq, up_p, up_k, sN,  ks_S, i24_t, hlk, w6, hop, k1, e1, e2, ks_99 ]
theorem LW_2 (h : RA ρ μ) {i : Int} (i0 : 0 ≤ i) (iL : i + 6 ≤ cs.2.2) (hL : cs.2.2 < 2147483648) (hop : am_and (μ 1000000 i.toNat) 63 = 2) : ∃ ρ' μ', RA ρ' μ' ∧ (∀ j, μ' 1000000 j = μ 1000000 j) ∧ am_E (d + 301) 276 23 [some (.inr (.inr 1000000)), some (.inr (.inr 0)), some (.inr (.inr 99)), some (.inr (.inr 141)), some (.inl i), none, none] [] (SH, ρ, μ, cs) = am_E (d + 301) 276 1533 [some (.inr (.inr 1000000)), some (.inr (.inr 0)), some (.inr (.inr 99)), some (.inr (.inr 141)), some (.inl i), none, none] [] (SH, ρ', μ', cs) := by
  have hx : XM ρ := by
    obtain ⟨b, w, u, S, W, h⟩ := h
    exact h.1.1
  obtain ⟨v, ρ', μ1, μ2, e1, e2, hR⟩ : BT ρ μ cs (fun H => am_E (d + 300) 88 0 [some (.inr (.inr 0)), some (.inl (μ 1000000 (i + 1).toNat))] [] H) (fun H => am_E (d + 300) 176 0 [some (.inr (.inr 99)), some (.inl (μ 1000000 (i + 1).toNat))] [] H) := C_fault (d := d + 280) (cs := cs) h
  have e1 : am_E (d + 300) 88 0 [some (.inr (.inr 0)), some (.inl (μ 1000000 (i + 1).toNat))] [] (SH, ρ, μ, cs) = some (some v, (SH, ρ', μ1, cs)) := e1
  have e2 : am_E (d + 300) 176 0 [some (.inr (.inr 99)), some (.inl (μ 1000000 (i + 1).toNat))] [] (SH, ρ', μ1, cs) = some (some v, (SH, ρ', μ2, cs)) := e2
  obtain ⟨z, hz⟩ := (am_E_rk (by decide) e1).1 (by first | exact Or.inl rfl | exact Or.inr rfl)
  have hz : v = .inl z := Option.some.inj hz
  subst hz
  have k1 : ∀ j, μ1 1000000 j = μ 1000000 j := fun j => am_E_keep e1 1000000 j (Nat.le_refl _)
  have k2 : ∀ j, μ2 1000000 j = μ1 1000000 j := fun j => am_E_keep e2 1000000 j (Nat.le_refl _)
  refine ⟨ρ', μ2, hR, fun j => (k2 j).trans (k1 j), ?_⟩
  have hlk := lnk_24 hL
  have w6 : ¬ ((cs.2.2 : Nat) : Int) - 6 < i := by omega
  rw [e276_23]; simp (disch := omega) only [e276_40_c2, e276_308, e276_318, xk_0, xk_1, xk_40, xk_41, xk_42, xk_43, xk_44, xk_45, xk_46, xk_47, xk_48, xk_49, xk_50, xk_51, xk_52, xk_53, xk_54, xk_55, xk_56, xk_57, xk_58, xk_59, xk_60, xk_61, xk_62, xk_63, xk_64, xk_65, xk_66, xk_67, xk_68, xk_69, xk_70, xk_71, xk_72, xk_73, xk_74, xk_75, xk_76, xk_77, xk_78, xk_79, xk_80, xk_81, xk_82, xk_83, xk_84, xk_85, xk_86, xk_87, xk_88, xk_89, xk_90, xk_91, xk_92, xk_93, xk_94, xk_95, xk_96, xk_97, xk_98, xm_0_0 hx, xm_0_10 hx, xm_0_11 hx, xm_0_12 hx, xm_0_13 hx, xm_0_14 hx, xm_0_15 hx, xm_0_2 hx, xm_0_9 hx, xm_40_0 hx, xm_40_1 hx, xm_41_0 hx, xm_44_0 hx, xm_44_1 hx, xm_73_4 hx, xm_73_5 hx, xm_73_6 hx, xm_77_1 hx, xm_77_2 hx, xm_77_3 hx, xm_77_4 hx, xm_77_5 hx, xm_77_6 hx, xm_77_7 hx, xm_77_8 hx, xm_77_9 hx, xm_87_2 hx, xm_87_3 hx, xm_87_4 hx, xm_87_5 hx, xm_87_6 hx, xm_87_7 hx, xm_87_8 hx, ite_self, Bool.false_eq_true, eq_self, isk_t, i20_t, w20_t, l23_t, b21_t, b22_t, w_t, bif_t, bif_f, bif_d, if_pos, if_neg, if_true, if_false, not_true_eq_false, not_false_eq_true, Option.bind_some, Option.toList_some, Option.toList_none, List.cons_append, List.nil_append, Int.toNat_natCast, Int.reduceToNat, up_eq, up_p, up_k, sN,  ks_S, i24_t, hlk, w6, hop, k1, e1, e2, ks_99 ]
theorem LW_3 (h : RA ρ μ) {i : Int} (i0 : 0 ≤ i) (iL : i + 6 ≤ cs.2.2) (hL : cs.2.2 < 2147483648) (hop : am_and (μ 1000000 i.toNat) 63 = 3) : ∃ ρ' μ', RA ρ' μ' ∧ (∀ j, μ' 1000000 j = μ 1000000 j) ∧ am_E (d + 301) 276 23 [some (.inr (.inr 1000000)), some (.inr (.inr 0)), some (.inr (.inr 99)), some (.inr (.inr 141)), some (.inl i), none, none] [] (SH, ρ, μ, cs) = am_E (d + 301) 276 1533 [some (.inr (.inr 1000000)), some (.inr (.inr 0)), some (.inr (.inr 99)), some (.inr (.inr 141)), some (.inl i), none, none] [] (SH, ρ', μ', cs) := by
  have hx : XM ρ := by
    obtain ⟨b, w, u, S, W, h⟩ := h
    exact h.1.1
  obtain ⟨v, ρ', μ1, μ2, e1, e2, hR⟩ : BT ρ μ cs (fun H => am_E (d + 300) 89 0 [some (.inr (.inr 0)), some (.inl (μ 1000000 (i + 1).toNat)), some (.inl (μ 1000000 (i + 2).toNat))] [] H) (fun H => am_E (d + 300) 177 0 [some (.inr (.inr 99)), some (.inl (μ 1000000 (i + 1).toNat)), some (.inl (μ 1000000 (i + 2).toNat))] [] H) := C_named (d := d + 280) (cs := cs) h
  have e1 : am_E (d + 300) 89 0 [some (.inr (.inr 0)), some (.inl (μ 1000000 (i + 1).toNat)), some (.inl (μ 1000000 (i + 2).toNat))] [] (SH, ρ, μ, cs) = some (some v, (SH, ρ', μ1, cs)) := e1
  have e2 : am_E (d + 300) 177 0 [some (.inr (.inr 99)), some (.inl (μ 1000000 (i + 1).toNat)), some (.inl (μ 1000000 (i + 2).toNat))] [] (SH, ρ', μ1, cs) = some (some v, (SH, ρ', μ2, cs)) := e2
  obtain ⟨z, hz⟩ := (am_E_rk (by decide) e1).1 (by first | exact Or.inl rfl | exact Or.inr rfl)
  have hz : v = .inl z := Option.some.inj hz
  subst hz
  have k1 : ∀ j, μ1 1000000 j = μ 1000000 j := fun j => am_E_keep e1 1000000 j (Nat.le_refl _)
  have k2 : ∀ j, μ2 1000000 j = μ1 1000000 j := fun j => am_E_keep e2 1000000 j (Nat.le_refl _)
  refine ⟨ρ', μ2, hR, fun j => (k2 j).trans (k1 j), ?_⟩
  have hlk := lnk_24 hL
  have w6 : ¬ ((cs.2.2 : Nat) : Int) - 6 < i := by omega
  rw [e276_23]; simp (disch := omega) only [e276_40_c3, e276_339, e276_355, xk_0, xk_1, xk_40, xk_41, xk_42, xk_43, xk_44, xk_45, xk_46, xk_47, xk_48, xk_49, xk_50, xk_51, xk_52, xk_53, xk_54, xk_55, xk_56, xk_57, xk_58, xk_59, xk_60, xk_61, xk_62, xk_63, xk_64, xk_65, xk_66, xk_67, xk_68, xk_69, xk_70, xk_71, xk_72, xk_73, xk_74, xk_75, xk_76, xk_77, xk_78, xk_79, xk_80, xk_81, xk_82, xk_83, xk_84, xk_85, xk_86, xk_87, xk_88, xk_89, xk_90, xk_91, xk_92, xk_93, xk_94, xk_95, xk_96, xk_97, xk_98, xm_0_0 hx, xm_0_10 hx, xm_0_11 hx, xm_0_12 hx, xm_0_13 hx, xm_0_14 hx, xm_0_15 hx, xm_0_2 hx, xm_0_9 hx, xm_40_0 hx, xm_40_1 hx, xm_41_0 hx, xm_44_0 hx, xm_44_1 hx, xm_73_4 hx, xm_73_5 hx, xm_73_6 hx, xm_77_1 hx, xm_77_2 hx, xm_77_3 hx, xm_77_4 hx, xm_77_5 hx, xm_77_6 hx, xm_77_7 hx, xm_77_8 hx, xm_77_9 hx, xm_87_2 hx, xm_87_3 hx, xm_87_4 hx, xm_87_5 hx, xm_87_6 hx, xm_87_7 hx, xm_87_8 hx, ite_self, Bool.false_eq_true, eq_self, isk_t, i20_t, w20_t, l23_t, b21_t, b22_t, w_t, bif_t, bif_f, bif_d, if_pos, if_neg, if_true, if_false, not_true_eq_false, not_false_eq_true, Option.bind_some, Option.toList_some, Option.toList_none, List.cons_append, List.nil_append, Int.toNat_natCast, Int.reduceToNat, up_eq, up_p, up_k, sN,  ks_S, i24_t, hlk, w6, hop, k1, e1, e2, ks_99 ]
theorem LW_5 (h : RA ρ μ) {i : Int} (i0 : 0 ≤ i) (iL : i + 6 ≤ cs.2.2) (hL : cs.2.2 < 2147483648) (hop : am_and (μ 1000000 i.toNat) 63 = 5) : ∃ ρ' μ', RA ρ' μ' ∧ (∀ j, μ' 1000000 j = μ 1000000 j) ∧ am_E (d + 301) 276 23 [some (.inr (.inr 1000000)), some (.inr (.inr 0)), some (.inr (.inr 99)), some (.inr (.inr 141)), some (.inl i), none, none] [] (SH, ρ, μ, cs) = am_E (d + 301) 276 1533 [some (.inr (.inr 1000000)), some (.inr (.inr 0)), some (.inr (.inr 99)), some (.inr (.inr 141)), some (.inl i), none, none] [] (SH, ρ', μ', cs) := by
  have hx : XM ρ := by
    obtain ⟨b, w, u, S, W, h⟩ := h
    exact h.1.1
  obtain ⟨v, ρ', μ1, μ2, e1, e2, hR⟩ : BT ρ μ cs (fun H => am_E (d + 300) 91 0 [some (.inr (.inr 0)), some (.inl (μ 1000000 (i + 1).toNat)), some (.inl (μ 1000000 (i + 2).toNat)), some (.inl (μ 1000000 (i + 3).toNat)), none] [] H) (fun H => am_E (d + 300) 211 0 [some (.inr (.inr 99)), some (.inl (μ 1000000 (i + 1).toNat)), some (.inl (μ 1000000 (i + 2).toNat)), some (.inl (μ 1000000 (i + 3).toNat))] [] H) := C_has (d := d + 280) (cs := cs) h
  have e1 : am_E (d + 300) 91 0 [some (.inr (.inr 0)), some (.inl (μ 1000000 (i + 1).toNat)), some (.inl (μ 1000000 (i + 2).toNat)), some (.inl (μ 1000000 (i + 3).toNat)), none] [] (SH, ρ, μ, cs) = some (some v, (SH, ρ', μ1, cs)) := e1
  have e2 : am_E (d + 300) 211 0 [some (.inr (.inr 99)), some (.inl (μ 1000000 (i + 1).toNat)), some (.inl (μ 1000000 (i + 2).toNat)), some (.inl (μ 1000000 (i + 3).toNat))] [] (SH, ρ', μ1, cs) = some (some v, (SH, ρ', μ2, cs)) := e2
  obtain ⟨z, hz⟩ := (am_E_rk (by decide) e1).1 (by first | exact Or.inl rfl | exact Or.inr rfl)
  have hz : v = .inl z := Option.some.inj hz
  subst hz
  have k1 : ∀ j, μ1 1000000 j = μ 1000000 j := fun j => am_E_keep e1 1000000 j (Nat.le_refl _)
  have k2 : ∀ j, μ2 1000000 j = μ1 1000000 j := fun j => am_E_keep e2 1000000 j (Nat.le_refl _)
  refine ⟨ρ', μ2, hR, fun j => (k2 j).trans (k1 j), ?_⟩
  have hlk := lnk_24 hL
  have w6 : ¬ ((cs.2.2 : Nat) : Int) - 6 < i := by omega
  rw [e276_23]; simp (disch := omega) only [e276_40_c5, e276_450, e276_472, xk_0, xk_1, xk_40, xk_41, xk_42, xk_43, xk_44, xk_45, xk_46, xk_47, xk_48, xk_49, xk_50, xk_51, xk_52, xk_53, xk_54, xk_55, xk_56, xk_57, xk_58, xk_59, xk_60, xk_61, xk_62, xk_63, xk_64, xk_65, xk_66, xk_67, xk_68, xk_69, xk_70, xk_71, xk_72, xk_73, xk_74, xk_75, xk_76, xk_77, xk_78, xk_79, xk_80, xk_81, xk_82, xk_83, xk_84, xk_85, xk_86, xk_87, xk_88, xk_89, xk_90, xk_91, xk_92, xk_93, xk_94, xk_95, xk_96, xk_97, xk_98, xm_0_0 hx, xm_0_10 hx, xm_0_11 hx, xm_0_12 hx, xm_0_13 hx, xm_0_14 hx, xm_0_15 hx, xm_0_2 hx, xm_0_9 hx, xm_40_0 hx, xm_40_1 hx, xm_41_0 hx, xm_44_0 hx, xm_44_1 hx, xm_73_4 hx, xm_73_5 hx, xm_73_6 hx, xm_77_1 hx, xm_77_2 hx, xm_77_3 hx, xm_77_4 hx, xm_77_5 hx, xm_77_6 hx, xm_77_7 hx, xm_77_8 hx, xm_77_9 hx, xm_87_2 hx, xm_87_3 hx, xm_87_4 hx, xm_87_5 hx, xm_87_6 hx, xm_87_7 hx, xm_87_8 hx, ite_self, Bool.false_eq_true, eq_self, isk_t, i20_t, w20_t, l23_t, b21_t, b22_t, w_t, bif_t, bif_f, bif_d, if_pos, if_neg, if_true, if_false, not_true_eq_false, not_false_eq_true, Option.bind_some, Option.toList_some, Option.toList_none, List.cons_append, List.nil_append, Int.toNat_natCast, Int.reduceToNat, up_eq, up_p, up_k, sN,  ks_S, i24_t, hlk, w6, hop, k1, e1, e2, ks_99 ]
theorem LW_6 (h : RA ρ μ) {i : Int} (i0 : 0 ≤ i) (iL : i + 6 ≤ cs.2.2) (hL : cs.2.2 < 2147483648) (hop : am_and (μ 1000000 i.toNat) 63 = 6) : ∃ ρ' μ', RA ρ' μ' ∧ (∀ j, μ' 1000000 j = μ 1000000 j) ∧ am_E (d + 301) 276 23 [some (.inr (.inr 1000000)), some (.inr (.inr 0)), some (.inr (.inr 99)), some (.inr (.inr 141)), some (.inl i), none, none] [] (SH, ρ, μ, cs) = am_E (d + 301) 276 1533 [some (.inr (.inr 1000000)), some (.inr (.inr 0)), some (.inr (.inr 99)), some (.inr (.inr 141)), some (.inl i), none, none] [] (SH, ρ', μ', cs) := by
  have hx : XM ρ := by
    obtain ⟨b, w, u, S, W, h⟩ := h
    exact h.1.1
  obtain ⟨v, ρ', μ1, μ2, e1, e2, hR⟩ : BT ρ μ cs (fun H => am_E (d + 300) 92 0 [some (.inr (.inr 0)), some (.inl (μ 1000000 (i + 1).toNat))] [] H) (fun H => am_E (d + 300) 212 0 [some (.inr (.inr 99)), some (.inl (μ 1000000 (i + 1).toNat))] [] H) := C_bent (d := d + 280) (cs := cs) h
  have e1 : am_E (d + 300) 92 0 [some (.inr (.inr 0)), some (.inl (μ 1000000 (i + 1).toNat))] [] (SH, ρ, μ, cs) = some (some v, (SH, ρ', μ1, cs)) := e1
  have e2 : am_E (d + 300) 212 0 [some (.inr (.inr 99)), some (.inl (μ 1000000 (i + 1).toNat))] [] (SH, ρ', μ1, cs) = some (some v, (SH, ρ', μ2, cs)) := e2
  obtain ⟨z, hz⟩ := (am_E_rk (by decide) e1).1 (by first | exact Or.inl rfl | exact Or.inr rfl)
  have hz : v = .inl z := Option.some.inj hz
  subst hz
  have k1 : ∀ j, μ1 1000000 j = μ 1000000 j := fun j => am_E_keep e1 1000000 j (Nat.le_refl _)
  have k2 : ∀ j, μ2 1000000 j = μ1 1000000 j := fun j => am_E_keep e2 1000000 j (Nat.le_refl _)
  refine ⟨ρ', μ2, hR, fun j => (k2 j).trans (k1 j), ?_⟩
  have hlk := lnk_24 hL
  have w6 : ¬ ((cs.2.2 : Nat) : Int) - 6 < i := by omega
  rw [e276_23]; simp (disch := omega) only [e276_40_c6, e276_487, e276_497, xk_0, xk_1, xk_40, xk_41, xk_42, xk_43, xk_44, xk_45, xk_46, xk_47, xk_48, xk_49, xk_50, xk_51, xk_52, xk_53, xk_54, xk_55, xk_56, xk_57, xk_58, xk_59, xk_60, xk_61, xk_62, xk_63, xk_64, xk_65, xk_66, xk_67, xk_68, xk_69, xk_70, xk_71, xk_72, xk_73, xk_74, xk_75, xk_76, xk_77, xk_78, xk_79, xk_80, xk_81, xk_82, xk_83, xk_84, xk_85, xk_86, xk_87, xk_88, xk_89, xk_90, xk_91, xk_92, xk_93, xk_94, xk_95, xk_96, xk_97, xk_98, xm_0_0 hx, xm_0_10 hx, xm_0_11 hx, xm_0_12 hx, xm_0_13 hx, xm_0_14 hx, xm_0_15 hx, xm_0_2 hx, xm_0_9 hx, xm_40_0 hx, xm_40_1 hx, xm_41_0 hx, xm_44_0 hx, xm_44_1 hx, xm_73_4 hx, xm_73_5 hx, xm_73_6 hx, xm_77_1 hx, xm_77_2 hx, xm_77_3 hx, xm_77_4 hx, xm_77_5 hx, xm_77_6 hx, xm_77_7 hx, xm_77_8 hx, xm_77_9 hx, xm_87_2 hx, xm_87_3 hx, xm_87_4 hx, xm_87_5 hx, xm_87_6 hx, xm_87_7 hx, xm_87_8 hx, ite_self, Bool.false_eq_true, eq_self, isk_t, i20_t, w20_t, l23_t, b21_t, b22_t, w_t, bif_t, bif_f, bif_d, if_pos, if_neg, if_true, if_false, not_true_eq_false, not_false_eq_true, Option.bind_some, Option.toList_some, Option.toList_none, List.cons_append, List.nil_append, Int.toNat_natCast, Int.reduceToNat, up_eq, up_p, up_k, sN,  ks_S, i24_t, hlk, w6, hop, k1, e1, e2, ks_99 ]
theorem LW_8 (h : RA ρ μ) {i : Int} (i0 : 0 ≤ i) (iL : i + 6 ≤ cs.2.2) (hL : cs.2.2 < 2147483648) (hop : am_and (μ 1000000 i.toNat) 63 = 8) : ∃ ρ' μ', RA ρ' μ' ∧ (∀ j, μ' 1000000 j = μ 1000000 j) ∧ am_E (d + 301) 276 23 [some (.inr (.inr 1000000)), some (.inr (.inr 0)), some (.inr (.inr 99)), some (.inr (.inr 141)), some (.inl i), none, none] [] (SH, ρ, μ, cs) = am_E (d + 301) 276 1533 [some (.inr (.inr 1000000)), some (.inr (.inr 0)), some (.inr (.inr 99)), some (.inr (.inr 141)), some (.inl i), none, none] [] (SH, ρ', μ', cs) := by
  have hx : XM ρ := by
    obtain ⟨b, w, u, S, W, h⟩ := h
    exact h.1.1
  obtain ⟨v, ρ', μ1, μ2, e1, e2, hR⟩ : BT ρ μ cs (fun H => am_E (d + 300) 94 0 [some (.inr (.inr 0)), some (.inl (μ 1000000 (i + 1).toNat)), some (.inl (μ 1000000 (i + 2).toNat)), some (.inl (μ 1000000 (i + 3).toNat))] [] H) (fun H => am_E (d + 300) 215 0 [some (.inr (.inr 99)), some (.inl (μ 1000000 (i + 1).toNat)), some (.inl (μ 1000000 (i + 2).toNat)), some (.inl (μ 1000000 (i + 3).toNat))] [] H) := C_hear (d := d + 280) (cs := cs) h
  have e1 : am_E (d + 300) 94 0 [some (.inr (.inr 0)), some (.inl (μ 1000000 (i + 1).toNat)), some (.inl (μ 1000000 (i + 2).toNat)), some (.inl (μ 1000000 (i + 3).toNat))] [] (SH, ρ, μ, cs) = some (some v, (SH, ρ', μ1, cs)) := e1
  have e2 : am_E (d + 300) 215 0 [some (.inr (.inr 99)), some (.inl (μ 1000000 (i + 1).toNat)), some (.inl (μ 1000000 (i + 2).toNat)), some (.inl (μ 1000000 (i + 3).toNat))] [] (SH, ρ', μ1, cs) = some (some v, (SH, ρ', μ2, cs)) := e2
  obtain ⟨z, hz⟩ := (am_E_rk (by decide) e1).1 (by first | exact Or.inl rfl | exact Or.inr rfl)
  have hz : v = .inl z := Option.some.inj hz
  subst hz
  have k1 : ∀ j, μ1 1000000 j = μ 1000000 j := fun j => am_E_keep e1 1000000 j (Nat.le_refl _)
  have k2 : ∀ j, μ2 1000000 j = μ1 1000000 j := fun j => am_E_keep e2 1000000 j (Nat.le_refl _)
  refine ⟨ρ', μ2, hR, fun j => (k2 j).trans (k1 j), ?_⟩
  have hlk := lnk_24 hL
  have w6 : ¬ ((cs.2.2 : Nat) : Int) - 6 < i := by omega
  rw [e276_23]; simp (disch := omega) only [e276_40_c8, e276_586, e276_608, xk_0, xk_1, xk_40, xk_41, xk_42, xk_43, xk_44, xk_45, xk_46, xk_47, xk_48, xk_49, xk_50, xk_51, xk_52, xk_53, xk_54, xk_55, xk_56, xk_57, xk_58, xk_59, xk_60, xk_61, xk_62, xk_63, xk_64, xk_65, xk_66, xk_67, xk_68, xk_69, xk_70, xk_71, xk_72, xk_73, xk_74, xk_75, xk_76, xk_77, xk_78, xk_79, xk_80, xk_81, xk_82, xk_83, xk_84, xk_85, xk_86, xk_87, xk_88, xk_89, xk_90, xk_91, xk_92, xk_93, xk_94, xk_95, xk_96, xk_97, xk_98, xm_0_0 hx, xm_0_10 hx, xm_0_11 hx, xm_0_12 hx, xm_0_13 hx, xm_0_14 hx, xm_0_15 hx, xm_0_2 hx, xm_0_9 hx, xm_40_0 hx, xm_40_1 hx, xm_41_0 hx, xm_44_0 hx, xm_44_1 hx, xm_73_4 hx, xm_73_5 hx, xm_73_6 hx, xm_77_1 hx, xm_77_2 hx, xm_77_3 hx, xm_77_4 hx, xm_77_5 hx, xm_77_6 hx, xm_77_7 hx, xm_77_8 hx, xm_77_9 hx, xm_87_2 hx, xm_87_3 hx, xm_87_4 hx, xm_87_5 hx, xm_87_6 hx, xm_87_7 hx, xm_87_8 hx, ite_self, Bool.false_eq_true, eq_self, isk_t, i20_t, w20_t, l23_t, b21_t, b22_t, w_t, bif_t, bif_f, bif_d, if_pos, if_neg, if_true, if_false, not_true_eq_false, not_false_eq_true, Option.bind_some, Option.toList_some, Option.toList_none, List.cons_append, List.nil_append, Int.toNat_natCast, Int.reduceToNat, up_eq, up_p, up_k, sN,  ks_S, i24_t, hlk, w6, hop, k1, e1, e2, ks_99 ]
theorem LW_9 (h : RA ρ μ) {i : Int} (i0 : 0 ≤ i) (iL : i + 6 ≤ cs.2.2) (hL : cs.2.2 < 2147483648) (hop : am_and (μ 1000000 i.toNat) 63 = 9) : ∃ ρ' μ', RA ρ' μ' ∧ (∀ j, μ' 1000000 j = μ 1000000 j) ∧ am_E (d + 301) 276 23 [some (.inr (.inr 1000000)), some (.inr (.inr 0)), some (.inr (.inr 99)), some (.inr (.inr 141)), some (.inl i), none, none] [] (SH, ρ, μ, cs) = am_E (d + 301) 276 1533 [some (.inr (.inr 1000000)), some (.inr (.inr 0)), some (.inr (.inr 99)), some (.inr (.inr 141)), some (.inl i), none, none] [] (SH, ρ', μ', cs) := by
  have hx : XM ρ := by
    obtain ⟨b, w, u, S, W, h⟩ := h
    exact h.1.1
  obtain ⟨v, ρ', μ1, μ2, e1, e2, hR⟩ : BT ρ μ cs (fun H => am_E (d + 300) 95 0 [some (.inr (.inr 0)), some (.inl (μ 1000000 (i + 1).toNat)), some (.inl (μ 1000000 (i + 2).toNat))] [] H) (fun H => am_E (d + 300) 216 0 [some (.inr (.inr 99)), some (.inl (μ 1000000 (i + 1).toNat)), some (.inl (μ 1000000 (i + 2).toNat))] [] H) := C_tell (d := d + 280) (cs := cs) h
  have e1 : am_E (d + 300) 95 0 [some (.inr (.inr 0)), some (.inl (μ 1000000 (i + 1).toNat)), some (.inl (μ 1000000 (i + 2).toNat))] [] (SH, ρ, μ, cs) = some (some v, (SH, ρ', μ1, cs)) := e1
  have e2 : am_E (d + 300) 216 0 [some (.inr (.inr 99)), some (.inl (μ 1000000 (i + 1).toNat)), some (.inl (μ 1000000 (i + 2).toNat))] [] (SH, ρ', μ1, cs) = some (some v, (SH, ρ', μ2, cs)) := e2
  obtain ⟨z, hz⟩ := (am_E_rk (by decide) e1).1 (by first | exact Or.inl rfl | exact Or.inr rfl)
  have hz : v = .inl z := Option.some.inj hz
  subst hz
  have k1 : ∀ j, μ1 1000000 j = μ 1000000 j := fun j => am_E_keep e1 1000000 j (Nat.le_refl _)
  have k2 : ∀ j, μ2 1000000 j = μ1 1000000 j := fun j => am_E_keep e2 1000000 j (Nat.le_refl _)
  refine ⟨ρ', μ2, hR, fun j => (k2 j).trans (k1 j), ?_⟩
  have hlk := lnk_24 hL
  have w6 : ¬ ((cs.2.2 : Nat) : Int) - 6 < i := by omega
  rw [e276_23]; simp (disch := omega) only [e276_40_c9, e276_629, e276_645, xk_0, xk_1, xk_40, xk_41, xk_42, xk_43, xk_44, xk_45, xk_46, xk_47, xk_48, xk_49, xk_50, xk_51, xk_52, xk_53, xk_54, xk_55, xk_56, xk_57, xk_58, xk_59, xk_60, xk_61, xk_62, xk_63, xk_64, xk_65, xk_66, xk_67, xk_68, xk_69, xk_70, xk_71, xk_72, xk_73, xk_74, xk_75, xk_76, xk_77, xk_78, xk_79, xk_80, xk_81, xk_82, xk_83, xk_84, xk_85, xk_86, xk_87, xk_88, xk_89, xk_90, xk_91, xk_92, xk_93, xk_94, xk_95, xk_96, xk_97, xk_98, xm_0_0 hx, xm_0_10 hx, xm_0_11 hx, xm_0_12 hx, xm_0_13 hx, xm_0_14 hx, xm_0_15 hx, xm_0_2 hx, xm_0_9 hx, xm_40_0 hx, xm_40_1 hx, xm_41_0 hx, xm_44_0 hx, xm_44_1 hx, xm_73_4 hx, xm_73_5 hx, xm_73_6 hx, xm_77_1 hx, xm_77_2 hx, xm_77_3 hx, xm_77_4 hx, xm_77_5 hx, xm_77_6 hx, xm_77_7 hx, xm_77_8 hx, xm_77_9 hx, xm_87_2 hx, xm_87_3 hx, xm_87_4 hx, xm_87_5 hx, xm_87_6 hx, xm_87_7 hx, xm_87_8 hx, ite_self, Bool.false_eq_true, eq_self, isk_t, i20_t, w20_t, l23_t, b21_t, b22_t, w_t, bif_t, bif_f, bif_d, if_pos, if_neg, if_true, if_false, not_true_eq_false, not_false_eq_true, Option.bind_some, Option.toList_some, Option.toList_none, List.cons_append, List.nil_append, Int.toNat_natCast, Int.reduceToNat, up_eq, up_p, up_k, sN,  ks_S, i24_t, hlk, w6, hop, k1, e1, e2, ks_99 ]
theorem LW_10 (h : RA ρ μ) {i : Int} (i0 : 0 ≤ i) (iL : i + 6 ≤ cs.2.2) (hL : cs.2.2 < 2147483648) (hop : am_and (μ 1000000 i.toNat) 63 = 10) : ∃ ρ' μ', RA ρ' μ' ∧ (∀ j, μ' 1000000 j = μ 1000000 j) ∧ am_E (d + 301) 276 23 [some (.inr (.inr 1000000)), some (.inr (.inr 0)), some (.inr (.inr 99)), some (.inr (.inr 141)), some (.inl i), none, none] [] (SH, ρ, μ, cs) = am_E (d + 301) 276 1533 [some (.inr (.inr 1000000)), some (.inr (.inr 0)), some (.inr (.inr 99)), some (.inr (.inr 141)), some (.inl i), none, none] [] (SH, ρ', μ', cs) := by
  have hx : XM ρ := by
    obtain ⟨b, w, u, S, W, h⟩ := h
    exact h.1.1
  obtain ⟨v, ρ', μ1, μ2, e1, e2, hR⟩ : BT ρ μ cs (fun H => am_E (d + 300) 96 0 [some (.inr (.inr 0)), some (.inl (μ 1000000 (i + 1).toNat)), some (.inl (μ 1000000 (i + 2).toNat))] [] H) (fun H => am_E (d + 300) 217 0 [some (.inr (.inr 99)), some (.inl (μ 1000000 (i + 1).toNat)), some (.inl (μ 1000000 (i + 2).toNat))] [] H) := C_forget (d := d + 280) (cs := cs) h
  have e1 : am_E (d + 300) 96 0 [some (.inr (.inr 0)), some (.inl (μ 1000000 (i + 1).toNat)), some (.inl (μ 1000000 (i + 2).toNat))] [] (SH, ρ, μ, cs) = some (some v, (SH, ρ', μ1, cs)) := e1
  have e2 : am_E (d + 300) 217 0 [some (.inr (.inr 99)), some (.inl (μ 1000000 (i + 1).toNat)), some (.inl (μ 1000000 (i + 2).toNat))] [] (SH, ρ', μ1, cs) = some (some v, (SH, ρ', μ2, cs)) := e2
  obtain ⟨z, hz⟩ := (am_E_rk (by decide) e1).1 (by first | exact Or.inl rfl | exact Or.inr rfl)
  have hz : v = .inl z := Option.some.inj hz
  subst hz
  have k1 : ∀ j, μ1 1000000 j = μ 1000000 j := fun j => am_E_keep e1 1000000 j (Nat.le_refl _)
  have k2 : ∀ j, μ2 1000000 j = μ1 1000000 j := fun j => am_E_keep e2 1000000 j (Nat.le_refl _)
  refine ⟨ρ', μ2, hR, fun j => (k2 j).trans (k1 j), ?_⟩
  have hlk := lnk_24 hL
  have w6 : ¬ ((cs.2.2 : Nat) : Int) - 6 < i := by omega
  rw [e276_23]; simp (disch := omega) only [e276_40_c10, e276_666, e276_682, xk_0, xk_1, xk_40, xk_41, xk_42, xk_43, xk_44, xk_45, xk_46, xk_47, xk_48, xk_49, xk_50, xk_51, xk_52, xk_53, xk_54, xk_55, xk_56, xk_57, xk_58, xk_59, xk_60, xk_61, xk_62, xk_63, xk_64, xk_65, xk_66, xk_67, xk_68, xk_69, xk_70, xk_71, xk_72, xk_73, xk_74, xk_75, xk_76, xk_77, xk_78, xk_79, xk_80, xk_81, xk_82, xk_83, xk_84, xk_85, xk_86, xk_87, xk_88, xk_89, xk_90, xk_91, xk_92, xk_93, xk_94, xk_95, xk_96, xk_97, xk_98, xm_0_0 hx, xm_0_10 hx, xm_0_11 hx, xm_0_12 hx, xm_0_13 hx, xm_0_14 hx, xm_0_15 hx, xm_0_2 hx, xm_0_9 hx, xm_40_0 hx, xm_40_1 hx, xm_41_0 hx, xm_44_0 hx, xm_44_1 hx, xm_73_4 hx, xm_73_5 hx, xm_73_6 hx, xm_77_1 hx, xm_77_2 hx, xm_77_3 hx, xm_77_4 hx, xm_77_5 hx, xm_77_6 hx, xm_77_7 hx, xm_77_8 hx, xm_77_9 hx, xm_87_2 hx, xm_87_3 hx, xm_87_4 hx, xm_87_5 hx, xm_87_6 hx, xm_87_7 hx, xm_87_8 hx, ite_self, Bool.false_eq_true, eq_self, isk_t, i20_t, w20_t, l23_t, b21_t, b22_t, w_t, bif_t, bif_f, bif_d, if_pos, if_neg, if_true, if_false, not_true_eq_false, not_false_eq_true, Option.bind_some, Option.toList_some, Option.toList_none, List.cons_append, List.nil_append, Int.toNat_natCast, Int.reduceToNat, up_eq, up_p, up_k, sN,  ks_S, i24_t, hlk, w6, hop, k1, e1, e2, ks_99 ]
theorem LW_11 (h : RA ρ μ) {i : Int} (i0 : 0 ≤ i) (iL : i + 6 ≤ cs.2.2) (hL : cs.2.2 < 2147483648) (hop : am_and (μ 1000000 i.toNat) 63 = 11) : ∃ ρ' μ', RA ρ' μ' ∧ (∀ j, μ' 1000000 j = μ 1000000 j) ∧ am_E (d + 301) 276 23 [some (.inr (.inr 1000000)), some (.inr (.inr 0)), some (.inr (.inr 99)), some (.inr (.inr 141)), some (.inl i), none, none] [] (SH, ρ, μ, cs) = am_E (d + 301) 276 1533 [some (.inr (.inr 1000000)), some (.inr (.inr 0)), some (.inr (.inr 99)), some (.inr (.inr 141)), some (.inl i), none, none] [] (SH, ρ', μ', cs) := by
  have hx : XM ρ := by
    obtain ⟨b, w, u, S, W, h⟩ := h
    exact h.1.1
  obtain ⟨v, ρ', μ1, μ2, e1, e2, hR⟩ : BT ρ μ cs (fun H => am_E (d + 300) 97 0 [some (.inr (.inr 0)), some (.inl (μ 1000000 (i + 1).toNat)), none] [] H) (fun H => am_E (d + 300) 218 0 [some (.inr (.inr 99)), some (.inl (μ 1000000 (i + 1).toNat)), none] [] H) := C_go (d := d + 280) (cs := cs) h
  have e1 : am_E (d + 300) 97 0 [some (.inr (.inr 0)), some (.inl (μ 1000000 (i + 1).toNat)), none] [] (SH, ρ, μ, cs) = some (some v, (SH, ρ', μ1, cs)) := e1
  have e2 : am_E (d + 300) 218 0 [some (.inr (.inr 99)), some (.inl (μ 1000000 (i + 1).toNat)), none] [] (SH, ρ', μ1, cs) = some (some v, (SH, ρ', μ2, cs)) := e2
  obtain ⟨z, hz⟩ := (am_E_rk (by decide) e1).1 (by first | exact Or.inl rfl | exact Or.inr rfl)
  have hz : v = .inl z := Option.some.inj hz
  subst hz
  have k1 : ∀ j, μ1 1000000 j = μ 1000000 j := fun j => am_E_keep e1 1000000 j (Nat.le_refl _)
  have k2 : ∀ j, μ2 1000000 j = μ1 1000000 j := fun j => am_E_keep e2 1000000 j (Nat.le_refl _)
  refine ⟨ρ', μ2, hR, fun j => (k2 j).trans (k1 j), ?_⟩
  have hlk := lnk_24 hL
  have w6 : ¬ ((cs.2.2 : Nat) : Int) - 6 < i := by omega
  rw [e276_23]; simp (disch := omega) only [e276_40_c11, e276_697, e276_707, xk_0, xk_1, xk_40, xk_41, xk_42, xk_43, xk_44, xk_45, xk_46, xk_47, xk_48, xk_49, xk_50, xk_51, xk_52, xk_53, xk_54, xk_55, xk_56, xk_57, xk_58, xk_59, xk_60, xk_61, xk_62, xk_63, xk_64, xk_65, xk_66, xk_67, xk_68, xk_69, xk_70, xk_71, xk_72, xk_73, xk_74, xk_75, xk_76, xk_77, xk_78, xk_79, xk_80, xk_81, xk_82, xk_83, xk_84, xk_85, xk_86, xk_87, xk_88, xk_89, xk_90, xk_91, xk_92, xk_93, xk_94, xk_95, xk_96, xk_97, xk_98, xm_0_0 hx, xm_0_10 hx, xm_0_11 hx, xm_0_12 hx, xm_0_13 hx, xm_0_14 hx, xm_0_15 hx, xm_0_2 hx, xm_0_9 hx, xm_40_0 hx, xm_40_1 hx, xm_41_0 hx, xm_44_0 hx, xm_44_1 hx, xm_73_4 hx, xm_73_5 hx, xm_73_6 hx, xm_77_1 hx, xm_77_2 hx, xm_77_3 hx, xm_77_4 hx, xm_77_5 hx, xm_77_6 hx, xm_77_7 hx, xm_77_8 hx, xm_77_9 hx, xm_87_2 hx, xm_87_3 hx, xm_87_4 hx, xm_87_5 hx, xm_87_6 hx, xm_87_7 hx, xm_87_8 hx, ite_self, Bool.false_eq_true, eq_self, isk_t, i20_t, w20_t, l23_t, b21_t, b22_t, w_t, bif_t, bif_f, bif_d, if_pos, if_neg, if_true, if_false, not_true_eq_false, not_false_eq_true, Option.bind_some, Option.toList_some, Option.toList_none, List.cons_append, List.nil_append, Int.toNat_natCast, Int.reduceToNat, up_eq, up_p, up_k, sN,  ks_S, i24_t, hlk, w6, hop, k1, e1, e2, ks_99 ]
theorem LW_12 (h : RA ρ μ) {i : Int} (i0 : 0 ≤ i) (iL : i + 6 ≤ cs.2.2) (hL : cs.2.2 < 2147483648) (hop : am_and (μ 1000000 i.toNat) 63 = 12) : ∃ ρ' μ', RA ρ' μ' ∧ (∀ j, μ' 1000000 j = μ 1000000 j) ∧ am_E (d + 301) 276 23 [some (.inr (.inr 1000000)), some (.inr (.inr 0)), some (.inr (.inr 99)), some (.inr (.inr 141)), some (.inl i), none, none] [] (SH, ρ, μ, cs) = am_E (d + 301) 276 1533 [some (.inr (.inr 1000000)), some (.inr (.inr 0)), some (.inr (.inr 99)), some (.inr (.inr 141)), some (.inl i), none, none] [] (SH, ρ', μ', cs) := by
  have hx : XM ρ := by
    obtain ⟨b, w, u, S, W, h⟩ := h
    exact h.1.1
  obtain ⟨v, ρ', μ1, μ2, e1, e2, hR⟩ : BT ρ μ cs (fun H => am_E (d + 300) 98 0 [some (.inr (.inr 0)), some (.inl (μ 1000000 (i + 1).toNat)), some (.inl (μ 1000000 (i + 2).toNat)), some (.inl (μ 1000000 (i + 3).toNat)), none] [] H) (fun H => am_E (d + 300) 219 0 [some (.inr (.inr 99)), some (.inl (μ 1000000 (i + 1).toNat)), some (.inl (μ 1000000 (i + 2).toNat)), some (.inl (μ 1000000 (i + 3).toNat))] [] H) := C_ahead (d := d + 280) (cs := cs) h
  have e1 : am_E (d + 300) 98 0 [some (.inr (.inr 0)), some (.inl (μ 1000000 (i + 1).toNat)), some (.inl (μ 1000000 (i + 2).toNat)), some (.inl (μ 1000000 (i + 3).toNat)), none] [] (SH, ρ, μ, cs) = some (some v, (SH, ρ', μ1, cs)) := e1
  have e2 : am_E (d + 300) 219 0 [some (.inr (.inr 99)), some (.inl (μ 1000000 (i + 1).toNat)), some (.inl (μ 1000000 (i + 2).toNat)), some (.inl (μ 1000000 (i + 3).toNat))] [] (SH, ρ', μ1, cs) = some (some v, (SH, ρ', μ2, cs)) := e2
  obtain ⟨z, hz⟩ := (am_E_rk (by decide) e1).1 (by first | exact Or.inl rfl | exact Or.inr rfl)
  have hz : v = .inl z := Option.some.inj hz
  subst hz
  have k1 : ∀ j, μ1 1000000 j = μ 1000000 j := fun j => am_E_keep e1 1000000 j (Nat.le_refl _)
  have k2 : ∀ j, μ2 1000000 j = μ1 1000000 j := fun j => am_E_keep e2 1000000 j (Nat.le_refl _)
  refine ⟨ρ', μ2, hR, fun j => (k2 j).trans (k1 j), ?_⟩
  have hlk := lnk_24 hL
  have w6 : ¬ ((cs.2.2 : Nat) : Int) - 6 < i := by omega
  rw [e276_23]; simp (disch := omega) only [e276_40_c12, e276_734, e276_756, xk_0, xk_1, xk_40, xk_41, xk_42, xk_43, xk_44, xk_45, xk_46, xk_47, xk_48, xk_49, xk_50, xk_51, xk_52, xk_53, xk_54, xk_55, xk_56, xk_57, xk_58, xk_59, xk_60, xk_61, xk_62, xk_63, xk_64, xk_65, xk_66, xk_67, xk_68, xk_69, xk_70, xk_71, xk_72, xk_73, xk_74, xk_75, xk_76, xk_77, xk_78, xk_79, xk_80, xk_81, xk_82, xk_83, xk_84, xk_85, xk_86, xk_87, xk_88, xk_89, xk_90, xk_91, xk_92, xk_93, xk_94, xk_95, xk_96, xk_97, xk_98, xm_0_0 hx, xm_0_10 hx, xm_0_11 hx, xm_0_12 hx, xm_0_13 hx, xm_0_14 hx, xm_0_15 hx, xm_0_2 hx, xm_0_9 hx, xm_40_0 hx, xm_40_1 hx, xm_41_0 hx, xm_44_0 hx, xm_44_1 hx, xm_73_4 hx, xm_73_5 hx, xm_73_6 hx, xm_77_1 hx, xm_77_2 hx, xm_77_3 hx, xm_77_4 hx, xm_77_5 hx, xm_77_6 hx, xm_77_7 hx, xm_77_8 hx, xm_77_9 hx, xm_87_2 hx, xm_87_3 hx, xm_87_4 hx, xm_87_5 hx, xm_87_6 hx, xm_87_7 hx, xm_87_8 hx, ite_self, Bool.false_eq_true, eq_self, isk_t, i20_t, w20_t, l23_t, b21_t, b22_t, w_t, bif_t, bif_f, bif_d, if_pos, if_neg, if_true, if_false, not_true_eq_false, not_false_eq_true, Option.bind_some, Option.toList_some, Option.toList_none, List.cons_append, List.nil_append, Int.toNat_natCast, Int.reduceToNat, up_eq, up_p, up_k, sN,  ks_S, i24_t, hlk, w6, hop, k1, e1, e2, ks_99 ]
theorem LW_13 (h : RA ρ μ) {i : Int} (i0 : 0 ≤ i) (iL : i + 6 ≤ cs.2.2) (hL : cs.2.2 < 2147483648) (hop : am_and (μ 1000000 i.toNat) 63 = 13) : ∃ ρ' μ', RA ρ' μ' ∧ (∀ j, μ' 1000000 j = μ 1000000 j) ∧ am_E (d + 301) 276 23 [some (.inr (.inr 1000000)), some (.inr (.inr 0)), some (.inr (.inr 99)), some (.inr (.inr 141)), some (.inl i), none, none] [] (SH, ρ, μ, cs) = am_E (d + 301) 276 1533 [some (.inr (.inr 1000000)), some (.inr (.inr 0)), some (.inr (.inr 99)), some (.inr (.inr 141)), some (.inl i), none, none] [] (SH, ρ', μ', cs) := by
  have hx : XM ρ := by
    obtain ⟨b, w, u, S, W, h⟩ := h
    exact h.1.1
  obtain ⟨v, ρ', μ1, μ2, e1, e2, hR⟩ : BT ρ μ cs (fun H => am_E (d + 300) 99 0 [some (.inr (.inr 0)), some (.inl (μ 1000000 (i + 1).toNat)), none] [] H) (fun H => am_E (d + 300) 220 0 [some (.inr (.inr 99)), some (.inl (μ 1000000 (i + 1).toNat)), none] [] H) := C_when (d := d + 280) (cs := cs) h
  have e1 : am_E (d + 300) 99 0 [some (.inr (.inr 0)), some (.inl (μ 1000000 (i + 1).toNat)), none] [] (SH, ρ, μ, cs) = some (some v, (SH, ρ', μ1, cs)) := e1
  have e2 : am_E (d + 300) 220 0 [some (.inr (.inr 99)), some (.inl (μ 1000000 (i + 1).toNat)), none] [] (SH, ρ', μ1, cs) = some (some v, (SH, ρ', μ2, cs)) := e2
  obtain ⟨z, hz⟩ := (am_E_rk (by decide) e1).1 (by first | exact Or.inl rfl | exact Or.inr rfl)
  have hz : v = .inl z := Option.some.inj hz
  subst hz
  have k1 : ∀ j, μ1 1000000 j = μ 1000000 j := fun j => am_E_keep e1 1000000 j (Nat.le_refl _)
  have k2 : ∀ j, μ2 1000000 j = μ1 1000000 j := fun j => am_E_keep e2 1000000 j (Nat.le_refl _)
  refine ⟨ρ', μ2, hR, fun j => (k2 j).trans (k1 j), ?_⟩
  have hlk := lnk_24 hL
  have w6 : ¬ ((cs.2.2 : Nat) : Int) - 6 < i := by omega
  rw [e276_23]; simp (disch := omega) only [e276_40_c13, e276_771, e276_781, xk_0, xk_1, xk_40, xk_41, xk_42, xk_43, xk_44, xk_45, xk_46, xk_47, xk_48, xk_49, xk_50, xk_51, xk_52, xk_53, xk_54, xk_55, xk_56, xk_57, xk_58, xk_59, xk_60, xk_61, xk_62, xk_63, xk_64, xk_65, xk_66, xk_67, xk_68, xk_69, xk_70, xk_71, xk_72, xk_73, xk_74, xk_75, xk_76, xk_77, xk_78, xk_79, xk_80, xk_81, xk_82, xk_83, xk_84, xk_85, xk_86, xk_87, xk_88, xk_89, xk_90, xk_91, xk_92, xk_93, xk_94, xk_95, xk_96, xk_97, xk_98, xm_0_0 hx, xm_0_10 hx, xm_0_11 hx, xm_0_12 hx, xm_0_13 hx, xm_0_14 hx, xm_0_15 hx, xm_0_2 hx, xm_0_9 hx, xm_40_0 hx, xm_40_1 hx, xm_41_0 hx, xm_44_0 hx, xm_44_1 hx, xm_73_4 hx, xm_73_5 hx, xm_73_6 hx, xm_77_1 hx, xm_77_2 hx, xm_77_3 hx, xm_77_4 hx, xm_77_5 hx, xm_77_6 hx, xm_77_7 hx, xm_77_8 hx, xm_77_9 hx, xm_87_2 hx, xm_87_3 hx, xm_87_4 hx, xm_87_5 hx, xm_87_6 hx, xm_87_7 hx, xm_87_8 hx, ite_self, Bool.false_eq_true, eq_self, isk_t, i20_t, w20_t, l23_t, b21_t, b22_t, w_t, bif_t, bif_f, bif_d, if_pos, if_neg, if_true, if_false, not_true_eq_false, not_false_eq_true, Option.bind_some, Option.toList_some, Option.toList_none, List.cons_append, List.nil_append, Int.toNat_natCast, Int.reduceToNat, up_eq, up_p, up_k, sN,  ks_S, i24_t, hlk, w6, hop, k1, e1, e2, ks_99 ]
theorem LW_14 (h : RA ρ μ) {i : Int} (i0 : 0 ≤ i) (iL : i + 6 ≤ cs.2.2) (hL : cs.2.2 < 2147483648) (hop : am_and (μ 1000000 i.toNat) 63 = 14) : ∃ ρ' μ', RA ρ' μ' ∧ (∀ j, μ' 1000000 j = μ 1000000 j) ∧ am_E (d + 301) 276 23 [some (.inr (.inr 1000000)), some (.inr (.inr 0)), some (.inr (.inr 99)), some (.inr (.inr 141)), some (.inl i), none, none] [] (SH, ρ, μ, cs) = am_E (d + 301) 276 1533 [some (.inr (.inr 1000000)), some (.inr (.inr 0)), some (.inr (.inr 99)), some (.inr (.inr 141)), some (.inl i), none, none] [] (SH, ρ', μ', cs) := by
  have hx : XM ρ := by
    obtain ⟨b, w, u, S, W, h⟩ := h
    exact h.1.1
  obtain ⟨v, ρ', μ1, μ2, e1, e2, hR⟩ : BT ρ μ cs (fun H => am_E (d + 300) 100 0 [some (.inr (.inr 0)), some (.inl (μ 1000000 (i + 1).toNat)), some (.inl (μ 1000000 (i + 2).toNat)), none] [] H) (fun H => am_E (d + 300) 221 0 [some (.inr (.inr 99)), some (.inl (μ 1000000 (i + 1).toNat)), some (.inl (μ 1000000 (i + 2).toNat)), none] [] H) := C_hears (d := d + 280) (cs := cs) h
  have e1 : am_E (d + 300) 100 0 [some (.inr (.inr 0)), some (.inl (μ 1000000 (i + 1).toNat)), some (.inl (μ 1000000 (i + 2).toNat)), none] [] (SH, ρ, μ, cs) = some (some v, (SH, ρ', μ1, cs)) := e1
  have e2 : am_E (d + 300) 221 0 [some (.inr (.inr 99)), some (.inl (μ 1000000 (i + 1).toNat)), some (.inl (μ 1000000 (i + 2).toNat)), none] [] (SH, ρ', μ1, cs) = some (some v, (SH, ρ', μ2, cs)) := e2
  obtain ⟨z, hz⟩ := (am_E_rk (by decide) e1).1 (by first | exact Or.inl rfl | exact Or.inr rfl)
  have hz : v = .inl z := Option.some.inj hz
  subst hz
  have k1 : ∀ j, μ1 1000000 j = μ 1000000 j := fun j => am_E_keep e1 1000000 j (Nat.le_refl _)
  have k2 : ∀ j, μ2 1000000 j = μ1 1000000 j := fun j => am_E_keep e2 1000000 j (Nat.le_refl _)
  refine ⟨ρ', μ2, hR, fun j => (k2 j).trans (k1 j), ?_⟩
  have hlk := lnk_24 hL
  have w6 : ¬ ((cs.2.2 : Nat) : Int) - 6 < i := by omega
  rw [e276_23]; simp (disch := omega) only [e276_40_c14, e276_802, e276_818, xk_0, xk_1, xk_40, xk_41, xk_42, xk_43, xk_44, xk_45, xk_46, xk_47, xk_48, xk_49, xk_50, xk_51, xk_52, xk_53, xk_54, xk_55, xk_56, xk_57, xk_58, xk_59, xk_60, xk_61, xk_62, xk_63, xk_64, xk_65, xk_66, xk_67, xk_68, xk_69, xk_70, xk_71, xk_72, xk_73, xk_74, xk_75, xk_76, xk_77, xk_78, xk_79, xk_80, xk_81, xk_82, xk_83, xk_84, xk_85, xk_86, xk_87, xk_88, xk_89, xk_90, xk_91, xk_92, xk_93, xk_94, xk_95, xk_96, xk_97, xk_98, xm_0_0 hx, xm_0_10 hx, xm_0_11 hx, xm_0_12 hx, xm_0_13 hx, xm_0_14 hx, xm_0_15 hx, xm_0_2 hx, xm_0_9 hx, xm_40_0 hx, xm_40_1 hx, xm_41_0 hx, xm_44_0 hx, xm_44_1 hx, xm_73_4 hx, xm_73_5 hx, xm_73_6 hx, xm_77_1 hx, xm_77_2 hx, xm_77_3 hx, xm_77_4 hx, xm_77_5 hx, xm_77_6 hx, xm_77_7 hx, xm_77_8 hx, xm_77_9 hx, xm_87_2 hx, xm_87_3 hx, xm_87_4 hx, xm_87_5 hx, xm_87_6 hx, xm_87_7 hx, xm_87_8 hx, ite_self, Bool.false_eq_true, eq_self, isk_t, i20_t, w20_t, l23_t, b21_t, b22_t, w_t, bif_t, bif_f, bif_d, if_pos, if_neg, if_true, if_false, not_true_eq_false, not_false_eq_true, Option.bind_some, Option.toList_some, Option.toList_none, List.cons_append, List.nil_append, Int.toNat_natCast, Int.reduceToNat, up_eq, up_p, up_k, sN,  ks_S, i24_t, hlk, w6, hop, k1, e1, e2, ks_99 ]
theorem LW_15 (h : RA ρ μ) {i : Int} (i0 : 0 ≤ i) (iL : i + 6 ≤ cs.2.2) (hL : cs.2.2 < 2147483648) (hop : am_and (μ 1000000 i.toNat) 63 = 15) : ∃ ρ' μ', RA ρ' μ' ∧ (∀ j, μ' 1000000 j = μ 1000000 j) ∧ am_E (d + 301) 276 23 [some (.inr (.inr 1000000)), some (.inr (.inr 0)), some (.inr (.inr 99)), some (.inr (.inr 141)), some (.inl i), none, none] [] (SH, ρ, μ, cs) = am_E (d + 301) 276 1533 [some (.inr (.inr 1000000)), some (.inr (.inr 0)), some (.inr (.inr 99)), some (.inr (.inr 141)), some (.inl i), none, none] [] (SH, ρ', μ', cs) := by
  have hx : XM ρ := by
    obtain ⟨b, w, u, S, W, h⟩ := h
    exact h.1.1
  obtain ⟨v, ρ', μ1, μ2, e1, e2, hR⟩ : BT ρ μ cs (fun H => am_E (d + 300) 101 0 [some (.inr (.inr 0)), some (.inl (μ 1000000 (i + 1).toNat)), some (.inl (μ 1000000 (i + 2).toNat)), some (.inl (μ 1000000 (i + 3).toNat))] [] H) (fun H => am_E (d + 300) 223 0 [some (.inr (.inr 99)), some (.inl (μ 1000000 (i + 1).toNat)), some (.inl (μ 1000000 (i + 2).toNat)), some (.inl (μ 1000000 (i + 3).toNat))] [] H) := C_joined (d := d + 280) (cs := cs) h
  have e1 : am_E (d + 300) 101 0 [some (.inr (.inr 0)), some (.inl (μ 1000000 (i + 1).toNat)), some (.inl (μ 1000000 (i + 2).toNat)), some (.inl (μ 1000000 (i + 3).toNat))] [] (SH, ρ, μ, cs) = some (some v, (SH, ρ', μ1, cs)) := e1
  have e2 : am_E (d + 300) 223 0 [some (.inr (.inr 99)), some (.inl (μ 1000000 (i + 1).toNat)), some (.inl (μ 1000000 (i + 2).toNat)), some (.inl (μ 1000000 (i + 3).toNat))] [] (SH, ρ', μ1, cs) = some (some v, (SH, ρ', μ2, cs)) := e2
  obtain ⟨z, hz⟩ := (am_E_rk (by decide) e1).1 (by first | exact Or.inl rfl | exact Or.inr rfl)
  have hz : v = .inl z := Option.some.inj hz
  subst hz
  have k1 : ∀ j, μ1 1000000 j = μ 1000000 j := fun j => am_E_keep e1 1000000 j (Nat.le_refl _)
  have k2 : ∀ j, μ2 1000000 j = μ1 1000000 j := fun j => am_E_keep e2 1000000 j (Nat.le_refl _)
  refine ⟨ρ', μ2, hR, fun j => (k2 j).trans (k1 j), ?_⟩
  have hlk := lnk_24 hL
  have w6 : ¬ ((cs.2.2 : Nat) : Int) - 6 < i := by omega
  rw [e276_23]; simp (disch := omega) only [e276_40_c15, e276_845, e276_867, xk_0, xk_1, xk_40, xk_41, xk_42, xk_43, xk_44, xk_45, xk_46, xk_47, xk_48, xk_49, xk_50, xk_51, xk_52, xk_53, xk_54, xk_55, xk_56, xk_57, xk_58, xk_59, xk_60, xk_61, xk_62, xk_63, xk_64, xk_65, xk_66, xk_67, xk_68, xk_69, xk_70, xk_71, xk_72, xk_73, xk_74, xk_75, xk_76, xk_77, xk_78, xk_79, xk_80, xk_81, xk_82, xk_83, xk_84, xk_85, xk_86, xk_87, xk_88, xk_89, xk_90, xk_91, xk_92, xk_93, xk_94, xk_95, xk_96, xk_97, xk_98, xm_0_0 hx, xm_0_10 hx, xm_0_11 hx, xm_0_12 hx, xm_0_13 hx, xm_0_14 hx, xm_0_15 hx, xm_0_2 hx, xm_0_9 hx, xm_40_0 hx, xm_40_1 hx, xm_41_0 hx, xm_44_0 hx, xm_44_1 hx, xm_73_4 hx, xm_73_5 hx, xm_73_6 hx, xm_77_1 hx, xm_77_2 hx, xm_77_3 hx, xm_77_4 hx, xm_77_5 hx, xm_77_6 hx, xm_77_7 hx, xm_77_8 hx, xm_77_9 hx, xm_87_2 hx, xm_87_3 hx, xm_87_4 hx, xm_87_5 hx, xm_87_6 hx, xm_87_7 hx, xm_87_8 hx, ite_self, Bool.false_eq_true, eq_self, isk_t, i20_t, w20_t, l23_t, b21_t, b22_t, w_t, bif_t, bif_f, bif_d, if_pos, if_neg, if_true, if_false, not_true_eq_false, not_false_eq_true, Option.bind_some, Option.toList_some, Option.toList_none, List.cons_append, List.nil_append, Int.toNat_natCast, Int.reduceToNat, up_eq, up_p, up_k, sN,  ks_S, i24_t, hlk, w6, hop, k1, e1, e2, ks_99 ]
theorem LW_16 (h : RA ρ μ) {i : Int} (i0 : 0 ≤ i) (iL : i + 6 ≤ cs.2.2) (hL : cs.2.2 < 2147483648) (hop : am_and (μ 1000000 i.toNat) 63 = 16) : ∃ ρ' μ', RA ρ' μ' ∧ (∀ j, μ' 1000000 j = μ 1000000 j) ∧ am_E (d + 301) 276 23 [some (.inr (.inr 1000000)), some (.inr (.inr 0)), some (.inr (.inr 99)), some (.inr (.inr 141)), some (.inl i), none, none] [] (SH, ρ, μ, cs) = am_E (d + 301) 276 1533 [some (.inr (.inr 1000000)), some (.inr (.inr 0)), some (.inr (.inr 99)), some (.inr (.inr 141)), some (.inl i), none, none] [] (SH, ρ', μ', cs) := by
  have hx : XM ρ := by
    obtain ⟨b, w, u, S, W, h⟩ := h
    exact h.1.1
  obtain ⟨v, ρ', μ1, μ2, e1, e2, hR⟩ : BT ρ μ cs (fun H => am_E (d + 300) 102 0 [some (.inr (.inr 0)), some (.inl (μ 1000000 (i + 1).toNat)), none, none, none] [] H) (fun H => am_E (d + 300) 225 0 [some (.inr (.inr 99)), some (.inl (μ 1000000 (i + 1).toNat)), none, none, none] [] H) := C_pairs (d := d + 280) (cs := cs) h
  have e1 : am_E (d + 300) 102 0 [some (.inr (.inr 0)), some (.inl (μ 1000000 (i + 1).toNat)), none, none, none] [] (SH, ρ, μ, cs) = some (some v, (SH, ρ', μ1, cs)) := e1
  have e2 : am_E (d + 300) 225 0 [some (.inr (.inr 99)), some (.inl (μ 1000000 (i + 1).toNat)), none, none, none] [] (SH, ρ', μ1, cs) = some (some v, (SH, ρ', μ2, cs)) := e2
  obtain ⟨z, hz⟩ := (am_E_rk (by decide) e1).1 (by first | exact Or.inl rfl | exact Or.inr rfl)
  have hz : v = .inl z := Option.some.inj hz
  subst hz
  have k1 : ∀ j, μ1 1000000 j = μ 1000000 j := fun j => am_E_keep e1 1000000 j (Nat.le_refl _)
  have k2 : ∀ j, μ2 1000000 j = μ1 1000000 j := fun j => am_E_keep e2 1000000 j (Nat.le_refl _)
  refine ⟨ρ', μ2, hR, fun j => (k2 j).trans (k1 j), ?_⟩
  have hlk := lnk_24 hL
  have w6 : ¬ ((cs.2.2 : Nat) : Int) - 6 < i := by omega
  rw [e276_23]; simp (disch := omega) only [e276_40_c16, e276_882, e276_892, xk_0, xk_1, xk_40, xk_41, xk_42, xk_43, xk_44, xk_45, xk_46, xk_47, xk_48, xk_49, xk_50, xk_51, xk_52, xk_53, xk_54, xk_55, xk_56, xk_57, xk_58, xk_59, xk_60, xk_61, xk_62, xk_63, xk_64, xk_65, xk_66, xk_67, xk_68, xk_69, xk_70, xk_71, xk_72, xk_73, xk_74, xk_75, xk_76, xk_77, xk_78, xk_79, xk_80, xk_81, xk_82, xk_83, xk_84, xk_85, xk_86, xk_87, xk_88, xk_89, xk_90, xk_91, xk_92, xk_93, xk_94, xk_95, xk_96, xk_97, xk_98, xm_0_0 hx, xm_0_10 hx, xm_0_11 hx, xm_0_12 hx, xm_0_13 hx, xm_0_14 hx, xm_0_15 hx, xm_0_2 hx, xm_0_9 hx, xm_40_0 hx, xm_40_1 hx, xm_41_0 hx, xm_44_0 hx, xm_44_1 hx, xm_73_4 hx, xm_73_5 hx, xm_73_6 hx, xm_77_1 hx, xm_77_2 hx, xm_77_3 hx, xm_77_4 hx, xm_77_5 hx, xm_77_6 hx, xm_77_7 hx, xm_77_8 hx, xm_77_9 hx, xm_87_2 hx, xm_87_3 hx, xm_87_4 hx, xm_87_5 hx, xm_87_6 hx, xm_87_7 hx, xm_87_8 hx, ite_self, Bool.false_eq_true, eq_self, isk_t, i20_t, w20_t, l23_t, b21_t, b22_t, w_t, bif_t, bif_f, bif_d, if_pos, if_neg, if_true, if_false, not_true_eq_false, not_false_eq_true, Option.bind_some, Option.toList_some, Option.toList_none, List.cons_append, List.nil_append, Int.toNat_natCast, Int.reduceToNat, up_eq, up_p, up_k, sN,  ks_S, i24_t, hlk, w6, hop, k1, e1, e2, ks_99 ]
theorem LW_17 (h : RA ρ μ) {i : Int} (i0 : 0 ≤ i) (iL : i + 6 ≤ cs.2.2) (hL : cs.2.2 < 2147483648) (hop : am_and (μ 1000000 i.toNat) 63 = 17) : ∃ ρ' μ', RA ρ' μ' ∧ (∀ j, μ' 1000000 j = μ 1000000 j) ∧ am_E (d + 301) 276 23 [some (.inr (.inr 1000000)), some (.inr (.inr 0)), some (.inr (.inr 99)), some (.inr (.inr 141)), some (.inl i), none, none] [] (SH, ρ, μ, cs) = am_E (d + 301) 276 1533 [some (.inr (.inr 1000000)), some (.inr (.inr 0)), some (.inr (.inr 99)), some (.inr (.inr 141)), some (.inl i), none, none] [] (SH, ρ', μ', cs) := by
  have hx : XM ρ := by
    obtain ⟨b, w, u, S, W, h⟩ := h
    exact h.1.1
  obtain ⟨v, ρ', μ1, μ2, e1, e2, hR⟩ : BT ρ μ cs (fun H => am_E (d + 300) 103 0 [some (.inr (.inr 0)), some (.inl (μ 1000000 (i + 1).toNat))] [] H) (fun H => am_E (d + 300) 227 0 [some (.inr (.inr 99)), some (.inl (μ 1000000 (i + 1).toNat))] [] H) := C_reach (d := d + 280) (cs := cs) h
  have e1 : am_E (d + 300) 103 0 [some (.inr (.inr 0)), some (.inl (μ 1000000 (i + 1).toNat))] [] (SH, ρ, μ, cs) = some (some v, (SH, ρ', μ1, cs)) := e1
  have e2 : am_E (d + 300) 227 0 [some (.inr (.inr 99)), some (.inl (μ 1000000 (i + 1).toNat))] [] (SH, ρ', μ1, cs) = some (some v, (SH, ρ', μ2, cs)) := e2
  obtain ⟨z, hz⟩ := (am_E_rk (by decide) e1).1 (by first | exact Or.inl rfl | exact Or.inr rfl)
  have hz : v = .inl z := Option.some.inj hz
  subst hz
  have k1 : ∀ j, μ1 1000000 j = μ 1000000 j := fun j => am_E_keep e1 1000000 j (Nat.le_refl _)
  have k2 : ∀ j, μ2 1000000 j = μ1 1000000 j := fun j => am_E_keep e2 1000000 j (Nat.le_refl _)
  refine ⟨ρ', μ2, hR, fun j => (k2 j).trans (k1 j), ?_⟩
  have hlk := lnk_24 hL
  have w6 : ¬ ((cs.2.2 : Nat) : Int) - 6 < i := by omega
  rw [e276_23]; simp (disch := omega) only [e276_40_c17, e276_907, e276_917, xk_0, xk_1, xk_40, xk_41, xk_42, xk_43, xk_44, xk_45, xk_46, xk_47, xk_48, xk_49, xk_50, xk_51, xk_52, xk_53, xk_54, xk_55, xk_56, xk_57, xk_58, xk_59, xk_60, xk_61, xk_62, xk_63, xk_64, xk_65, xk_66, xk_67, xk_68, xk_69, xk_70, xk_71, xk_72, xk_73, xk_74, xk_75, xk_76, xk_77, xk_78, xk_79, xk_80, xk_81, xk_82, xk_83, xk_84, xk_85, xk_86, xk_87, xk_88, xk_89, xk_90, xk_91, xk_92, xk_93, xk_94, xk_95, xk_96, xk_97, xk_98, xm_0_0 hx, xm_0_10 hx, xm_0_11 hx, xm_0_12 hx, xm_0_13 hx, xm_0_14 hx, xm_0_15 hx, xm_0_2 hx, xm_0_9 hx, xm_40_0 hx, xm_40_1 hx, xm_41_0 hx, xm_44_0 hx, xm_44_1 hx, xm_73_4 hx, xm_73_5 hx, xm_73_6 hx, xm_77_1 hx, xm_77_2 hx, xm_77_3 hx, xm_77_4 hx, xm_77_5 hx, xm_77_6 hx, xm_77_7 hx, xm_77_8 hx, xm_77_9 hx, xm_87_2 hx, xm_87_3 hx, xm_87_4 hx, xm_87_5 hx, xm_87_6 hx, xm_87_7 hx, xm_87_8 hx, ite_self, Bool.false_eq_true, eq_self, isk_t, i20_t, w20_t, l23_t, b21_t, b22_t, w_t, bif_t, bif_f, bif_d, if_pos, if_neg, if_true, if_false, not_true_eq_false, not_false_eq_true, Option.bind_some, Option.toList_some, Option.toList_none, List.cons_append, List.nil_append, Int.toNat_natCast, Int.reduceToNat, up_eq, up_p, up_k, sN,  ks_S, i24_t, hlk, w6, hop, k1, e1, e2, ks_99 ]
theorem LW_18 (h : RA ρ μ) {i : Int} (i0 : 0 ≤ i) (iL : i + 6 ≤ cs.2.2) (hL : cs.2.2 < 2147483648) (hop : am_and (μ 1000000 i.toNat) 63 = 18) : ∃ ρ' μ', RA ρ' μ' ∧ (∀ j, μ' 1000000 j = μ 1000000 j) ∧ am_E (d + 301) 276 23 [some (.inr (.inr 1000000)), some (.inr (.inr 0)), some (.inr (.inr 99)), some (.inr (.inr 141)), some (.inl i), none, none] [] (SH, ρ, μ, cs) = am_E (d + 301) 276 1533 [some (.inr (.inr 1000000)), some (.inr (.inr 0)), some (.inr (.inr 99)), some (.inr (.inr 141)), some (.inl i), none, none] [] (SH, ρ', μ', cs) := by
  have hx : XM ρ := by
    obtain ⟨b, w, u, S, W, h⟩ := h
    exact h.1.1
  obtain ⟨v, ρ', μ1, μ2, e1, e2, hR⟩ : BT ρ μ cs (fun H => am_E (d + 300) 104 0 [some (.inr (.inr 0)), some (.inl (μ 1000000 (i + 1).toNat)), none, none, none] [] H) (fun H => am_E (d + 300) 229 0 [some (.inr (.inr 99)), some (.inl (μ 1000000 (i + 1).toNat)), none, none] [] H) := C_hush (d := d + 280) (cs := cs) h
  have e1 : am_E (d + 300) 104 0 [some (.inr (.inr 0)), some (.inl (μ 1000000 (i + 1).toNat)), none, none, none] [] (SH, ρ, μ, cs) = some (some v, (SH, ρ', μ1, cs)) := e1
  have e2 : am_E (d + 300) 229 0 [some (.inr (.inr 99)), some (.inl (μ 1000000 (i + 1).toNat)), none, none] [] (SH, ρ', μ1, cs) = some (some v, (SH, ρ', μ2, cs)) := e2
  obtain ⟨z, hz⟩ := (am_E_rk (by decide) e1).1 (by first | exact Or.inl rfl | exact Or.inr rfl)
  have hz : v = .inl z := Option.some.inj hz
  subst hz
  have k1 : ∀ j, μ1 1000000 j = μ 1000000 j := fun j => am_E_keep e1 1000000 j (Nat.le_refl _)
  have k2 : ∀ j, μ2 1000000 j = μ1 1000000 j := fun j => am_E_keep e2 1000000 j (Nat.le_refl _)
  refine ⟨ρ', μ2, hR, fun j => (k2 j).trans (k1 j), ?_⟩
  have hlk := lnk_24 hL
  have w6 : ¬ ((cs.2.2 : Nat) : Int) - 6 < i := by omega
  rw [e276_23]; simp (disch := omega) only [e276_40_c18, e276_932, e276_942, xk_0, xk_1, xk_40, xk_41, xk_42, xk_43, xk_44, xk_45, xk_46, xk_47, xk_48, xk_49, xk_50, xk_51, xk_52, xk_53, xk_54, xk_55, xk_56, xk_57, xk_58, xk_59, xk_60, xk_61, xk_62, xk_63, xk_64, xk_65, xk_66, xk_67, xk_68, xk_69, xk_70, xk_71, xk_72, xk_73, xk_74, xk_75, xk_76, xk_77, xk_78, xk_79, xk_80, xk_81, xk_82, xk_83, xk_84, xk_85, xk_86, xk_87, xk_88, xk_89, xk_90, xk_91, xk_92, xk_93, xk_94, xk_95, xk_96, xk_97, xk_98, xm_0_0 hx, xm_0_10 hx, xm_0_11 hx, xm_0_12 hx, xm_0_13 hx, xm_0_14 hx, xm_0_15 hx, xm_0_2 hx, xm_0_9 hx, xm_40_0 hx, xm_40_1 hx, xm_41_0 hx, xm_44_0 hx, xm_44_1 hx, xm_73_4 hx, xm_73_5 hx, xm_73_6 hx, xm_77_1 hx, xm_77_2 hx, xm_77_3 hx, xm_77_4 hx, xm_77_5 hx, xm_77_6 hx, xm_77_7 hx, xm_77_8 hx, xm_77_9 hx, xm_87_2 hx, xm_87_3 hx, xm_87_4 hx, xm_87_5 hx, xm_87_6 hx, xm_87_7 hx, xm_87_8 hx, ite_self, Bool.false_eq_true, eq_self, isk_t, i20_t, w20_t, l23_t, b21_t, b22_t, w_t, bif_t, bif_f, bif_d, if_pos, if_neg, if_true, if_false, not_true_eq_false, not_false_eq_true, Option.bind_some, Option.toList_some, Option.toList_none, List.cons_append, List.nil_append, Int.toNat_natCast, Int.reduceToNat, up_eq, up_p, up_k, sN,  ks_S, i24_t, hlk, w6, hop, k1, e1, e2, ks_99 ]
theorem LW_19 (h : RA ρ μ) {i : Int} (i0 : 0 ≤ i) (iL : i + 6 ≤ cs.2.2) (hL : cs.2.2 < 2147483648) (hop : am_and (μ 1000000 i.toNat) 63 = 19) : ∃ ρ' μ', RA ρ' μ' ∧ (∀ j, μ' 1000000 j = μ 1000000 j) ∧ am_E (d + 301) 276 23 [some (.inr (.inr 1000000)), some (.inr (.inr 0)), some (.inr (.inr 99)), some (.inr (.inr 141)), some (.inl i), none, none] [] (SH, ρ, μ, cs) = am_E (d + 301) 276 1533 [some (.inr (.inr 1000000)), some (.inr (.inr 0)), some (.inr (.inr 99)), some (.inr (.inr 141)), some (.inl i), none, none] [] (SH, ρ', μ', cs) := by
  have hx : XM ρ := by
    obtain ⟨b, w, u, S, W, h⟩ := h
    exact h.1.1
  obtain ⟨v, ρ', μ1, μ2, e1, e2, hR⟩ : BT ρ μ cs (fun H => am_E (d + 300) 106 0 [some (.inr (.inr 0)), none, none, none] [] H) (fun H => am_E (d + 300) 230 0 [some (.inr (.inr 99)), none, none, none, none, none] [] H) := C_spread (d := d + 280) (cs := cs) h
  have e1 : am_E (d + 300) 106 0 [some (.inr (.inr 0)), none, none, none] [] (SH, ρ, μ, cs) = some (some v, (SH, ρ', μ1, cs)) := e1
  have e2 : am_E (d + 300) 230 0 [some (.inr (.inr 99)), none, none, none, none, none] [] (SH, ρ', μ1, cs) = some (some v, (SH, ρ', μ2, cs)) := e2
  obtain ⟨z, hz⟩ := (am_E_rk (by decide) e1).1 (by first | exact Or.inl rfl | exact Or.inr rfl)
  have hz : v = .inl z := Option.some.inj hz
  subst hz
  have k1 : ∀ j, μ1 1000000 j = μ 1000000 j := fun j => am_E_keep e1 1000000 j (Nat.le_refl _)
  have k2 : ∀ j, μ2 1000000 j = μ1 1000000 j := fun j => am_E_keep e2 1000000 j (Nat.le_refl _)
  refine ⟨ρ', μ2, hR, fun j => (k2 j).trans (k1 j), ?_⟩
  have hlk := lnk_24 hL
  have w6 : ¬ ((cs.2.2 : Nat) : Int) - 6 < i := by omega
  rw [e276_23]; simp (disch := omega) only [e276_40_c19, e276_951, e276_955, xk_0, xk_1, xk_40, xk_41, xk_42, xk_43, xk_44, xk_45, xk_46, xk_47, xk_48, xk_49, xk_50, xk_51, xk_52, xk_53, xk_54, xk_55, xk_56, xk_57, xk_58, xk_59, xk_60, xk_61, xk_62, xk_63, xk_64, xk_65, xk_66, xk_67, xk_68, xk_69, xk_70, xk_71, xk_72, xk_73, xk_74, xk_75, xk_76, xk_77, xk_78, xk_79, xk_80, xk_81, xk_82, xk_83, xk_84, xk_85, xk_86, xk_87, xk_88, xk_89, xk_90, xk_91, xk_92, xk_93, xk_94, xk_95, xk_96, xk_97, xk_98, xm_0_0 hx, xm_0_10 hx, xm_0_11 hx, xm_0_12 hx, xm_0_13 hx, xm_0_14 hx, xm_0_15 hx, xm_0_2 hx, xm_0_9 hx, xm_40_0 hx, xm_40_1 hx, xm_41_0 hx, xm_44_0 hx, xm_44_1 hx, xm_73_4 hx, xm_73_5 hx, xm_73_6 hx, xm_77_1 hx, xm_77_2 hx, xm_77_3 hx, xm_77_4 hx, xm_77_5 hx, xm_77_6 hx, xm_77_7 hx, xm_77_8 hx, xm_77_9 hx, xm_87_2 hx, xm_87_3 hx, xm_87_4 hx, xm_87_5 hx, xm_87_6 hx, xm_87_7 hx, xm_87_8 hx, ite_self, Bool.false_eq_true, eq_self, isk_t, i20_t, w20_t, l23_t, b21_t, b22_t, w_t, bif_t, bif_f, bif_d, if_pos, if_neg, if_true, if_false, not_true_eq_false, not_false_eq_true, Option.bind_some, Option.toList_some, Option.toList_none, List.cons_append, List.nil_append, Int.toNat_natCast, Int.reduceToNat, up_eq, up_p, up_k, sN,  ks_S, i24_t, hlk, w6, hop, k1, e1, e2, ks_99 ]
theorem LW_20 (h : RA ρ μ) {i : Int} (i0 : 0 ≤ i) (iL : i + 6 ≤ cs.2.2) (hL : cs.2.2 < 2147483648) (hop : am_and (μ 1000000 i.toNat) 63 = 20) : ∃ ρ' μ', RA ρ' μ' ∧ (∀ j, μ' 1000000 j = μ 1000000 j) ∧ am_E (d + 301) 276 23 [some (.inr (.inr 1000000)), some (.inr (.inr 0)), some (.inr (.inr 99)), some (.inr (.inr 141)), some (.inl i), none, none] [] (SH, ρ, μ, cs) = am_E (d + 301) 276 1533 [some (.inr (.inr 1000000)), some (.inr (.inr 0)), some (.inr (.inr 99)), some (.inr (.inr 141)), some (.inl i), none, none] [] (SH, ρ', μ', cs) := by
  have hx : XM ρ := by
    obtain ⟨b, w, u, S, W, h⟩ := h
    exact h.1.1
  obtain ⟨v, ρ', μ1, μ2, e1, e2, hR⟩ : BT ρ μ cs (fun H => am_E (d + 300) 108 0 [some (.inr (.inr 0)), none, none] [] H) (fun H => am_E (d + 300) 231 0 [some (.inr (.inr 99)), none, none] [] H) := C_lone (d := d + 280) (cs := cs) h
  have e1 : am_E (d + 300) 108 0 [some (.inr (.inr 0)), none, none] [] (SH, ρ, μ, cs) = some (some v, (SH, ρ', μ1, cs)) := e1
  have e2 : am_E (d + 300) 231 0 [some (.inr (.inr 99)), none, none] [] (SH, ρ', μ1, cs) = some (some v, (SH, ρ', μ2, cs)) := e2
  obtain ⟨z, hz⟩ := (am_E_rk (by decide) e1).1 (by first | exact Or.inl rfl | exact Or.inr rfl)
  have hz : v = .inl z := Option.some.inj hz
  subst hz
  have k1 : ∀ j, μ1 1000000 j = μ 1000000 j := fun j => am_E_keep e1 1000000 j (Nat.le_refl _)
  have k2 : ∀ j, μ2 1000000 j = μ1 1000000 j := fun j => am_E_keep e2 1000000 j (Nat.le_refl _)
  refine ⟨ρ', μ2, hR, fun j => (k2 j).trans (k1 j), ?_⟩
  have hlk := lnk_24 hL
  have w6 : ¬ ((cs.2.2 : Nat) : Int) - 6 < i := by omega
  rw [e276_23]; simp (disch := omega) only [e276_40_c20, e276_964, e276_968, xk_0, xk_1, xk_40, xk_41, xk_42, xk_43, xk_44, xk_45, xk_46, xk_47, xk_48, xk_49, xk_50, xk_51, xk_52, xk_53, xk_54, xk_55, xk_56, xk_57, xk_58, xk_59, xk_60, xk_61, xk_62, xk_63, xk_64, xk_65, xk_66, xk_67, xk_68, xk_69, xk_70, xk_71, xk_72, xk_73, xk_74, xk_75, xk_76, xk_77, xk_78, xk_79, xk_80, xk_81, xk_82, xk_83, xk_84, xk_85, xk_86, xk_87, xk_88, xk_89, xk_90, xk_91, xk_92, xk_93, xk_94, xk_95, xk_96, xk_97, xk_98, xm_0_0 hx, xm_0_10 hx, xm_0_11 hx, xm_0_12 hx, xm_0_13 hx, xm_0_14 hx, xm_0_15 hx, xm_0_2 hx, xm_0_9 hx, xm_40_0 hx, xm_40_1 hx, xm_41_0 hx, xm_44_0 hx, xm_44_1 hx, xm_73_4 hx, xm_73_5 hx, xm_73_6 hx, xm_77_1 hx, xm_77_2 hx, xm_77_3 hx, xm_77_4 hx, xm_77_5 hx, xm_77_6 hx, xm_77_7 hx, xm_77_8 hx, xm_77_9 hx, xm_87_2 hx, xm_87_3 hx, xm_87_4 hx, xm_87_5 hx, xm_87_6 hx, xm_87_7 hx, xm_87_8 hx, ite_self, Bool.false_eq_true, eq_self, isk_t, i20_t, w20_t, l23_t, b21_t, b22_t, w_t, bif_t, bif_f, bif_d, if_pos, if_neg, if_true, if_false, not_true_eq_false, not_false_eq_true, Option.bind_some, Option.toList_some, Option.toList_none, List.cons_append, List.nil_append, Int.toNat_natCast, Int.reduceToNat, up_eq, up_p, up_k, sN,  ks_S, i24_t, hlk, w6, hop, k1, e1, e2, ks_99 ]
theorem LW_21 (h : RA ρ μ) {i : Int} (i0 : 0 ≤ i) (iL : i + 6 ≤ cs.2.2) (hL : cs.2.2 < 2147483648) (hop : am_and (μ 1000000 i.toNat) 63 = 21) : ∃ ρ' μ', RA ρ' μ' ∧ (∀ j, μ' 1000000 j = μ 1000000 j) ∧ am_E (d + 301) 276 23 [some (.inr (.inr 1000000)), some (.inr (.inr 0)), some (.inr (.inr 99)), some (.inr (.inr 141)), some (.inl i), none, none] [] (SH, ρ, μ, cs) = am_E (d + 301) 276 1533 [some (.inr (.inr 1000000)), some (.inr (.inr 0)), some (.inr (.inr 99)), some (.inr (.inr 141)), some (.inl i), none, none] [] (SH, ρ', μ', cs) := by
  have hx : XM ρ := by
    obtain ⟨b, w, u, S, W, h⟩ := h
    exact h.1.1
  obtain ⟨v, ρ', μ1, μ2, e1, e2, hR⟩ : BT ρ μ cs (fun H => am_E (d + 300) 109 0 [some (.inr (.inr 0)), some (.inl (μ 1000000 (i + 1).toNat)), none] [] H) (fun H => am_E (d + 300) 233 0 [some (.inr (.inr 99)), some (.inl (μ 1000000 (i + 1).toNat)), none, none, none] [] H) := C_match (d := d + 280) (cs := cs) h
  have e1 : am_E (d + 300) 109 0 [some (.inr (.inr 0)), some (.inl (μ 1000000 (i + 1).toNat)), none] [] (SH, ρ, μ, cs) = some (some v, (SH, ρ', μ1, cs)) := e1
  have e2 : am_E (d + 300) 233 0 [some (.inr (.inr 99)), some (.inl (μ 1000000 (i + 1).toNat)), none, none, none] [] (SH, ρ', μ1, cs) = some (some v, (SH, ρ', μ2, cs)) := e2
  obtain ⟨z, hz⟩ := (am_E_rk (by decide) e1).1 (by first | exact Or.inl rfl | exact Or.inr rfl)
  have hz : v = .inl z := Option.some.inj hz
  subst hz
  have k1 : ∀ j, μ1 1000000 j = μ 1000000 j := fun j => am_E_keep e1 1000000 j (Nat.le_refl _)
  have k2 : ∀ j, μ2 1000000 j = μ1 1000000 j := fun j => am_E_keep e2 1000000 j (Nat.le_refl _)
  refine ⟨ρ', μ2, hR, fun j => (k2 j).trans (k1 j), ?_⟩
  have hlk := lnk_24 hL
  have w6 : ¬ ((cs.2.2 : Nat) : Int) - 6 < i := by omega
  rw [e276_23]; simp (disch := omega) only [e276_40_c21, e276_983, e276_993, xk_0, xk_1, xk_40, xk_41, xk_42, xk_43, xk_44, xk_45, xk_46, xk_47, xk_48, xk_49, xk_50, xk_51, xk_52, xk_53, xk_54, xk_55, xk_56, xk_57, xk_58, xk_59, xk_60, xk_61, xk_62, xk_63, xk_64, xk_65, xk_66, xk_67, xk_68, xk_69, xk_70, xk_71, xk_72, xk_73, xk_74, xk_75, xk_76, xk_77, xk_78, xk_79, xk_80, xk_81, xk_82, xk_83, xk_84, xk_85, xk_86, xk_87, xk_88, xk_89, xk_90, xk_91, xk_92, xk_93, xk_94, xk_95, xk_96, xk_97, xk_98, xm_0_0 hx, xm_0_10 hx, xm_0_11 hx, xm_0_12 hx, xm_0_13 hx, xm_0_14 hx, xm_0_15 hx, xm_0_2 hx, xm_0_9 hx, xm_40_0 hx, xm_40_1 hx, xm_41_0 hx, xm_44_0 hx, xm_44_1 hx, xm_73_4 hx, xm_73_5 hx, xm_73_6 hx, xm_77_1 hx, xm_77_2 hx, xm_77_3 hx, xm_77_4 hx, xm_77_5 hx, xm_77_6 hx, xm_77_7 hx, xm_77_8 hx, xm_77_9 hx, xm_87_2 hx, xm_87_3 hx, xm_87_4 hx, xm_87_5 hx, xm_87_6 hx, xm_87_7 hx, xm_87_8 hx, ite_self, Bool.false_eq_true, eq_self, isk_t, i20_t, w20_t, l23_t, b21_t, b22_t, w_t, bif_t, bif_f, bif_d, if_pos, if_neg, if_true, if_false, not_true_eq_false, not_false_eq_true, Option.bind_some, Option.toList_some, Option.toList_none, List.cons_append, List.nil_append, Int.toNat_natCast, Int.reduceToNat, up_eq, up_p, up_k, sN,  ks_S, i24_t, hlk, w6, hop, k1, e1, e2, ks_99 ]
theorem LW_22 (h : RA ρ μ) {i : Int} (i0 : 0 ≤ i) (iL : i + 6 ≤ cs.2.2) (hL : cs.2.2 < 2147483648) (hop : am_and (μ 1000000 i.toNat) 63 = 22) : ∃ ρ' μ', RA ρ' μ' ∧ (∀ j, μ' 1000000 j = μ 1000000 j) ∧ am_E (d + 301) 276 23 [some (.inr (.inr 1000000)), some (.inr (.inr 0)), some (.inr (.inr 99)), some (.inr (.inr 141)), some (.inl i), none, none] [] (SH, ρ, μ, cs) = am_E (d + 301) 276 1533 [some (.inr (.inr 1000000)), some (.inr (.inr 0)), some (.inr (.inr 99)), some (.inr (.inr 141)), some (.inl i), none, none] [] (SH, ρ', μ', cs) := by
  have hx : XM ρ := by
    obtain ⟨b, w, u, S, W, h⟩ := h
    exact h.1.1
  obtain ⟨v, ρ', μ1, μ2, e1, e2, hR⟩ : BT ρ μ cs (fun H => am_E (d + 300) 113 0 [some (.inr (.inr 0)), some (.inl (μ 1000000 (i + 1).toNat)), some (.inl (μ 1000000 (i + 2).toNat)), some (.inl (μ 1000000 (i + 3).toNat)), none, none, none] [] H) (fun H => am_E (d + 300) 237 0 [some (.inr (.inr 99)), some (.inl (μ 1000000 (i + 1).toNat)), some (.inl (μ 1000000 (i + 2).toNat)), some (.inl (μ 1000000 (i + 3).toNat))] [] H) := C_rests (d := d + 280) (cs := cs) h
  have e1 : am_E (d + 300) 113 0 [some (.inr (.inr 0)), some (.inl (μ 1000000 (i + 1).toNat)), some (.inl (μ 1000000 (i + 2).toNat)), some (.inl (μ 1000000 (i + 3).toNat)), none, none, none] [] (SH, ρ, μ, cs) = some (some v, (SH, ρ', μ1, cs)) := e1
  have e2 : am_E (d + 300) 237 0 [some (.inr (.inr 99)), some (.inl (μ 1000000 (i + 1).toNat)), some (.inl (μ 1000000 (i + 2).toNat)), some (.inl (μ 1000000 (i + 3).toNat))] [] (SH, ρ', μ1, cs) = some (some v, (SH, ρ', μ2, cs)) := e2
  obtain ⟨z, hz⟩ := (am_E_rk (by decide) e1).1 (by first | exact Or.inl rfl | exact Or.inr rfl)
  have hz : v = .inl z := Option.some.inj hz
  subst hz
  have k1 : ∀ j, μ1 1000000 j = μ 1000000 j := fun j => am_E_keep e1 1000000 j (Nat.le_refl _)
  have k2 : ∀ j, μ2 1000000 j = μ1 1000000 j := fun j => am_E_keep e2 1000000 j (Nat.le_refl _)
  refine ⟨ρ', μ2, hR, fun j => (k2 j).trans (k1 j), ?_⟩
  have hlk := lnk_24 hL
  have w6 : ¬ ((cs.2.2 : Nat) : Int) - 6 < i := by omega
  rw [e276_23]; simp (disch := omega) only [e276_40_c22, e276_1020, e276_1042, xk_0, xk_1, xk_40, xk_41, xk_42, xk_43, xk_44, xk_45, xk_46, xk_47, xk_48, xk_49, xk_50, xk_51, xk_52, xk_53, xk_54, xk_55, xk_56, xk_57, xk_58, xk_59, xk_60, xk_61, xk_62, xk_63, xk_64, xk_65, xk_66, xk_67, xk_68, xk_69, xk_70, xk_71, xk_72, xk_73, xk_74, xk_75, xk_76, xk_77, xk_78, xk_79, xk_80, xk_81, xk_82, xk_83, xk_84, xk_85, xk_86, xk_87, xk_88, xk_89, xk_90, xk_91, xk_92, xk_93, xk_94, xk_95, xk_96, xk_97, xk_98, xm_0_0 hx, xm_0_10 hx, xm_0_11 hx, xm_0_12 hx, xm_0_13 hx, xm_0_14 hx, xm_0_15 hx, xm_0_2 hx, xm_0_9 hx, xm_40_0 hx, xm_40_1 hx, xm_41_0 hx, xm_44_0 hx, xm_44_1 hx, xm_73_4 hx, xm_73_5 hx, xm_73_6 hx, xm_77_1 hx, xm_77_2 hx, xm_77_3 hx, xm_77_4 hx, xm_77_5 hx, xm_77_6 hx, xm_77_7 hx, xm_77_8 hx, xm_77_9 hx, xm_87_2 hx, xm_87_3 hx, xm_87_4 hx, xm_87_5 hx, xm_87_6 hx, xm_87_7 hx, xm_87_8 hx, ite_self, Bool.false_eq_true, eq_self, isk_t, i20_t, w20_t, l23_t, b21_t, b22_t, w_t, bif_t, bif_f, bif_d, if_pos, if_neg, if_true, if_false, not_true_eq_false, not_false_eq_true, Option.bind_some, Option.toList_some, Option.toList_none, List.cons_append, List.nil_append, Int.toNat_natCast, Int.reduceToNat, up_eq, up_p, up_k, sN,  ks_S, i24_t, hlk, w6, hop, k1, e1, e2, ks_99 ]
theorem LW_23 (h : RA ρ μ) {i : Int} (i0 : 0 ≤ i) (iL : i + 6 ≤ cs.2.2) (hL : cs.2.2 < 2147483648) (hop : am_and (μ 1000000 i.toNat) 63 = 23) (hB : ∀ j, μ 1000000 j < 2147483648) : ∃ ρ' μ', RA ρ' μ' ∧ (∀ j, μ' 1000000 j = μ 1000000 j) ∧ am_E (d + 301) 276 23 [some (.inr (.inr 1000000)), some (.inr (.inr 0)), some (.inr (.inr 99)), some (.inr (.inr 141)), some (.inl i), none, none] [] (SH, ρ, μ, cs) = am_E (d + 301) 276 1533 [some (.inr (.inr 1000000)), some (.inr (.inr 0)), some (.inr (.inr 99)), some (.inr (.inr 141)), some (.inl i), none, none] [] (SH, ρ', μ', cs) := by
  have hx : XM ρ := by
    obtain ⟨b, w, u, S, W, h⟩ := h
    exact h.1.1
  obtain ⟨v, ρ', μ1, μ2, e1, e2, hR⟩ : BT ρ μ cs (fun H => am_E (d + 300) 114 0 [some (.inr (.inr 0)), some (.inl (μ 1000000 (i + 1).toNat)), some (.inl (μ 1000000 (i + 2).toNat)), some (.inl (μ 1000000 (i + 3).toNat)), some (.inl (μ 1000000 (i + 4).toNat)), none, none, none] [] H) (fun H => am_E (d + 300) 238 0 [some (.inr (.inr 99)), some (.inl (μ 1000000 (i + 1).toNat)), some (.inl (μ 1000000 (i + 2).toNat)), some (.inl (μ 1000000 (i + 3).toNat)), some (.inl (μ 1000000 (i + 4).toNat))] [] H) := C_rest (d := d + 280) (cs := cs) h (hB _)
  have e1 : am_E (d + 300) 114 0 [some (.inr (.inr 0)), some (.inl (μ 1000000 (i + 1).toNat)), some (.inl (μ 1000000 (i + 2).toNat)), some (.inl (μ 1000000 (i + 3).toNat)), some (.inl (μ 1000000 (i + 4).toNat)), none, none, none] [] (SH, ρ, μ, cs) = some (some v, (SH, ρ', μ1, cs)) := e1
  have e2 : am_E (d + 300) 238 0 [some (.inr (.inr 99)), some (.inl (μ 1000000 (i + 1).toNat)), some (.inl (μ 1000000 (i + 2).toNat)), some (.inl (μ 1000000 (i + 3).toNat)), some (.inl (μ 1000000 (i + 4).toNat))] [] (SH, ρ', μ1, cs) = some (some v, (SH, ρ', μ2, cs)) := e2
  obtain ⟨z, hz⟩ := (am_E_rk (by decide) e1).1 (by first | exact Or.inl rfl | exact Or.inr rfl)
  have hz : v = .inl z := Option.some.inj hz
  subst hz
  have k1 : ∀ j, μ1 1000000 j = μ 1000000 j := fun j => am_E_keep e1 1000000 j (Nat.le_refl _)
  have k2 : ∀ j, μ2 1000000 j = μ1 1000000 j := fun j => am_E_keep e2 1000000 j (Nat.le_refl _)
  refine ⟨ρ', μ2, hR, fun j => (k2 j).trans (k1 j), ?_⟩
  have hlk := lnk_24 hL
  have w6 : ¬ ((cs.2.2 : Nat) : Int) - 6 < i := by omega
  rw [e276_23]; simp (disch := omega) only [e276_40_c23, e276_1075, e276_1103, xk_0, xk_1, xk_40, xk_41, xk_42, xk_43, xk_44, xk_45, xk_46, xk_47, xk_48, xk_49, xk_50, xk_51, xk_52, xk_53, xk_54, xk_55, xk_56, xk_57, xk_58, xk_59, xk_60, xk_61, xk_62, xk_63, xk_64, xk_65, xk_66, xk_67, xk_68, xk_69, xk_70, xk_71, xk_72, xk_73, xk_74, xk_75, xk_76, xk_77, xk_78, xk_79, xk_80, xk_81, xk_82, xk_83, xk_84, xk_85, xk_86, xk_87, xk_88, xk_89, xk_90, xk_91, xk_92, xk_93, xk_94, xk_95, xk_96, xk_97, xk_98, xm_0_0 hx, xm_0_10 hx, xm_0_11 hx, xm_0_12 hx, xm_0_13 hx, xm_0_14 hx, xm_0_15 hx, xm_0_2 hx, xm_0_9 hx, xm_40_0 hx, xm_40_1 hx, xm_41_0 hx, xm_44_0 hx, xm_44_1 hx, xm_73_4 hx, xm_73_5 hx, xm_73_6 hx, xm_77_1 hx, xm_77_2 hx, xm_77_3 hx, xm_77_4 hx, xm_77_5 hx, xm_77_6 hx, xm_77_7 hx, xm_77_8 hx, xm_77_9 hx, xm_87_2 hx, xm_87_3 hx, xm_87_4 hx, xm_87_5 hx, xm_87_6 hx, xm_87_7 hx, xm_87_8 hx, ite_self, Bool.false_eq_true, eq_self, isk_t, i20_t, w20_t, l23_t, b21_t, b22_t, w_t, bif_t, bif_f, bif_d, if_pos, if_neg, if_true, if_false, not_true_eq_false, not_false_eq_true, Option.bind_some, Option.toList_some, Option.toList_none, List.cons_append, List.nil_append, Int.toNat_natCast, Int.reduceToNat, up_eq, up_p, up_k, sN,  ks_S, i24_t, hlk, w6, hop, k1, e1, e2, ks_99 ]
theorem LW_24 (h : RA ρ μ) {i : Int} (i0 : 0 ≤ i) (iL : i + 6 ≤ cs.2.2) (hL : cs.2.2 < 2147483648) (hop : am_and (μ 1000000 i.toNat) 63 = 24) : ∃ ρ' μ', RA ρ' μ' ∧ (∀ j, μ' 1000000 j = μ 1000000 j) ∧ am_E (d + 301) 276 23 [some (.inr (.inr 1000000)), some (.inr (.inr 0)), some (.inr (.inr 99)), some (.inr (.inr 141)), some (.inl i), none, none] [] (SH, ρ, μ, cs) = am_E (d + 301) 276 1533 [some (.inr (.inr 1000000)), some (.inr (.inr 0)), some (.inr (.inr 99)), some (.inr (.inr 141)), some (.inl i), none, none] [] (SH, ρ', μ', cs) := by
  have hx : XM ρ := by
    obtain ⟨b, w, u, S, W, h⟩ := h
    exact h.1.1
  obtain ⟨v, ρ', μ1, μ2, e1, e2, hR⟩ : BT ρ μ cs (fun H => am_E (d + 300) 118 0 [some (.inr (.inr 0)), some (.inl (μ 1000000 (i + 1).toNat)), some (.inl (μ 1000000 (i + 2).toNat)), none, none, none, none, none, none, none] [] H) (fun H => am_E (d + 300) 240 0 [some (.inr (.inr 99)), some (.inl (μ 1000000 (i + 1).toNat)), some (.inl (μ 1000000 (i + 2).toNat)), none, none, none, none, none, none] [] H) := C_silent (d := d + 280) (cs := cs) h
  have e1 : am_E (d + 300) 118 0 [some (.inr (.inr 0)), some (.inl (μ 1000000 (i + 1).toNat)), some (.inl (μ 1000000 (i + 2).toNat)), none, none, none, none, none, none, none] [] (SH, ρ, μ, cs) = some (some v, (SH, ρ', μ1, cs)) := e1
  have e2 : am_E (d + 300) 240 0 [some (.inr (.inr 99)), some (.inl (μ 1000000 (i + 1).toNat)), some (.inl (μ 1000000 (i + 2).toNat)), none, none, none, none, none, none] [] (SH, ρ', μ1, cs) = some (some v, (SH, ρ', μ2, cs)) := e2
  obtain ⟨z, hz⟩ := (am_E_rk (by decide) e1).2 rfl
  have hz : v = .inr (.inl z) := Option.some.inj hz
  subst hz
  have k1 : ∀ j, μ1 1000000 j = μ 1000000 j := fun j => am_E_keep e1 1000000 j (Nat.le_refl _)
  have k2 : ∀ j, μ2 1000000 j = μ1 1000000 j := fun j => am_E_keep e2 1000000 j (Nat.le_refl _)
  refine ⟨ρ', μ2, hR, fun j => (k2 j).trans (k1 j), ?_⟩
  have hlk := lnk_24 hL
  have w6 : ¬ ((cs.2.2 : Nat) : Int) - 6 < i := by omega
  rw [e276_23]; simp (disch := omega) only [e276_40_c24, e276_1124, e276_1140, xk_0, xk_1, xk_40, xk_41, xk_42, xk_43, xk_44, xk_45, xk_46, xk_47, xk_48, xk_49, xk_50, xk_51, xk_52, xk_53, xk_54, xk_55, xk_56, xk_57, xk_58, xk_59, xk_60, xk_61, xk_62, xk_63, xk_64, xk_65, xk_66, xk_67, xk_68, xk_69, xk_70, xk_71, xk_72, xk_73, xk_74, xk_75, xk_76, xk_77, xk_78, xk_79, xk_80, xk_81, xk_82, xk_83, xk_84, xk_85, xk_86, xk_87, xk_88, xk_89, xk_90, xk_91, xk_92, xk_93, xk_94, xk_95, xk_96, xk_97, xk_98, xm_0_0 hx, xm_0_10 hx, xm_0_11 hx, xm_0_12 hx, xm_0_13 hx, xm_0_14 hx, xm_0_15 hx, xm_0_2 hx, xm_0_9 hx, xm_40_0 hx, xm_40_1 hx, xm_41_0 hx, xm_44_0 hx, xm_44_1 hx, xm_73_4 hx, xm_73_5 hx, xm_73_6 hx, xm_77_1 hx, xm_77_2 hx, xm_77_3 hx, xm_77_4 hx, xm_77_5 hx, xm_77_6 hx, xm_77_7 hx, xm_77_8 hx, xm_77_9 hx, xm_87_2 hx, xm_87_3 hx, xm_87_4 hx, xm_87_5 hx, xm_87_6 hx, xm_87_7 hx, xm_87_8 hx, ite_self, Bool.false_eq_true, eq_self, isk_t, i20_t, w20_t, l23_t, b21_t, b22_t, w_t, bif_t, bif_f, bif_d, if_pos, if_neg, if_true, if_false, not_true_eq_false, not_false_eq_true, Option.bind_some, Option.toList_some, Option.toList_none, List.cons_append, List.nil_append, Int.toNat_natCast, Int.reduceToNat, up_eq, up_p, up_k, sN,  ks_S, i24_t, hlk, w6, hop, k1, e1, e2, ks_99, am_lc_s ]
theorem LW_26 (h : RA ρ μ) {i : Int} (i0 : 0 ≤ i) (iL : i + 6 ≤ cs.2.2) (hL : cs.2.2 < 2147483648) (hop : am_and (μ 1000000 i.toNat) 63 = 26) : ∃ ρ' μ', RA ρ' μ' ∧ (∀ j, μ' 1000000 j = μ 1000000 j) ∧ am_E (d + 301) 276 23 [some (.inr (.inr 1000000)), some (.inr (.inr 0)), some (.inr (.inr 99)), some (.inr (.inr 141)), some (.inl i), none, none] [] (SH, ρ, μ, cs) = am_E (d + 301) 276 1533 [some (.inr (.inr 1000000)), some (.inr (.inr 0)), some (.inr (.inr 99)), some (.inr (.inr 141)), some (.inl i), none, none] [] (SH, ρ', μ', cs) := by
  have hx : XM ρ := by
    obtain ⟨b, w, u, S, W, h⟩ := h
    exact h.1.1
  obtain ⟨v, ρ', μ1, μ2, e1, e2, hR⟩ : BT ρ μ cs (fun H => am_E (d + 300) 121 0 [some (.inr (.inr 0)), some (.inl (μ 1000000 (i + 1).toNat))] [] H) (fun H => am_E (d + 300) 242 0 [some (.inr (.inr 99)), some (.inl (μ 1000000 (i + 1).toNat))] [] H) := C_strike (d := d + 280) (cs := cs) h
  have e1 : am_E (d + 300) 121 0 [some (.inr (.inr 0)), some (.inl (μ 1000000 (i + 1).toNat))] [] (SH, ρ, μ, cs) = some (some v, (SH, ρ', μ1, cs)) := e1
  have e2 : am_E (d + 300) 242 0 [some (.inr (.inr 99)), some (.inl (μ 1000000 (i + 1).toNat))] [] (SH, ρ', μ1, cs) = some (some v, (SH, ρ', μ2, cs)) := e2
  obtain ⟨z, hz⟩ := (am_E_rk (by decide) e1).1 (by first | exact Or.inl rfl | exact Or.inr rfl)
  have hz : v = .inl z := Option.some.inj hz
  subst hz
  have k1 : ∀ j, μ1 1000000 j = μ 1000000 j := fun j => am_E_keep e1 1000000 j (Nat.le_refl _)
  have k2 : ∀ j, μ2 1000000 j = μ1 1000000 j := fun j => am_E_keep e2 1000000 j (Nat.le_refl _)
  refine ⟨ρ', μ2, hR, fun j => (k2 j).trans (k1 j), ?_⟩
  have hlk := lnk_24 hL
  have w6 : ¬ ((cs.2.2 : Nat) : Int) - 6 < i := by omega
  rw [e276_23]; simp (disch := omega) only [e276_40_c26, e276_1245, e276_1255, xk_0, xk_1, xk_40, xk_41, xk_42, xk_43, xk_44, xk_45, xk_46, xk_47, xk_48, xk_49, xk_50, xk_51, xk_52, xk_53, xk_54, xk_55, xk_56, xk_57, xk_58, xk_59, xk_60, xk_61, xk_62, xk_63, xk_64, xk_65, xk_66, xk_67, xk_68, xk_69, xk_70, xk_71, xk_72, xk_73, xk_74, xk_75, xk_76, xk_77, xk_78, xk_79, xk_80, xk_81, xk_82, xk_83, xk_84, xk_85, xk_86, xk_87, xk_88, xk_89, xk_90, xk_91, xk_92, xk_93, xk_94, xk_95, xk_96, xk_97, xk_98, xm_0_0 hx, xm_0_10 hx, xm_0_11 hx, xm_0_12 hx, xm_0_13 hx, xm_0_14 hx, xm_0_15 hx, xm_0_2 hx, xm_0_9 hx, xm_40_0 hx, xm_40_1 hx, xm_41_0 hx, xm_44_0 hx, xm_44_1 hx, xm_73_4 hx, xm_73_5 hx, xm_73_6 hx, xm_77_1 hx, xm_77_2 hx, xm_77_3 hx, xm_77_4 hx, xm_77_5 hx, xm_77_6 hx, xm_77_7 hx, xm_77_8 hx, xm_77_9 hx, xm_87_2 hx, xm_87_3 hx, xm_87_4 hx, xm_87_5 hx, xm_87_6 hx, xm_87_7 hx, xm_87_8 hx, ite_self, Bool.false_eq_true, eq_self, isk_t, i20_t, w20_t, l23_t, b21_t, b22_t, w_t, bif_t, bif_f, bif_d, if_pos, if_neg, if_true, if_false, not_true_eq_false, not_false_eq_true, Option.bind_some, Option.toList_some, Option.toList_none, List.cons_append, List.nil_append, Int.toNat_natCast, Int.reduceToNat, up_eq, up_p, up_k, sN,  ks_S, i24_t, hlk, w6, hop, k1, e1, e2, ks_99 ]
theorem LW_27 (h : RA ρ μ) {i : Int} (i0 : 0 ≤ i) (iL : i + 6 ≤ cs.2.2) (hL : cs.2.2 < 2147483648) (hop : am_and (μ 1000000 i.toNat) 63 = 27) : ∃ ρ' μ', RA ρ' μ' ∧ (∀ j, μ' 1000000 j = μ 1000000 j) ∧ am_E (d + 301) 276 23 [some (.inr (.inr 1000000)), some (.inr (.inr 0)), some (.inr (.inr 99)), some (.inr (.inr 141)), some (.inl i), none, none] [] (SH, ρ, μ, cs) = am_E (d + 301) 276 1533 [some (.inr (.inr 1000000)), some (.inr (.inr 0)), some (.inr (.inr 99)), some (.inr (.inr 141)), some (.inl i), none, none] [] (SH, ρ', μ', cs) := by
  have hx : XM ρ := by
    obtain ⟨b, w, u, S, W, h⟩ := h
    exact h.1.1
  obtain ⟨v, ρ', μ1, μ2, e1, e2, hR⟩ : BT ρ μ cs (fun H => am_E (d + 300) 122 0 [some (.inr (.inr 0)), some (.inl (μ 1000000 (i + 1).toNat))] [] H) (fun H => am_E (d + 300) 243 0 [some (.inr (.inr 99)), some (.inl (μ 1000000 (i + 1).toNat))] [] H) := C_known (d := d + 280) (cs := cs) h
  have e1 : am_E (d + 300) 122 0 [some (.inr (.inr 0)), some (.inl (μ 1000000 (i + 1).toNat))] [] (SH, ρ, μ, cs) = some (some v, (SH, ρ', μ1, cs)) := e1
  have e2 : am_E (d + 300) 243 0 [some (.inr (.inr 99)), some (.inl (μ 1000000 (i + 1).toNat))] [] (SH, ρ', μ1, cs) = some (some v, (SH, ρ', μ2, cs)) := e2
  obtain ⟨z, hz⟩ := (am_E_rk (by decide) e1).1 (by first | exact Or.inl rfl | exact Or.inr rfl)
  have hz : v = .inl z := Option.some.inj hz
  subst hz
  have k1 : ∀ j, μ1 1000000 j = μ 1000000 j := fun j => am_E_keep e1 1000000 j (Nat.le_refl _)
  have k2 : ∀ j, μ2 1000000 j = μ1 1000000 j := fun j => am_E_keep e2 1000000 j (Nat.le_refl _)
  refine ⟨ρ', μ2, hR, fun j => (k2 j).trans (k1 j), ?_⟩
  have hlk := lnk_24 hL
  have w6 : ¬ ((cs.2.2 : Nat) : Int) - 6 < i := by omega
  rw [e276_23]; simp (disch := omega) only [e276_40_c27, e276_1270, e276_1280, xk_0, xk_1, xk_40, xk_41, xk_42, xk_43, xk_44, xk_45, xk_46, xk_47, xk_48, xk_49, xk_50, xk_51, xk_52, xk_53, xk_54, xk_55, xk_56, xk_57, xk_58, xk_59, xk_60, xk_61, xk_62, xk_63, xk_64, xk_65, xk_66, xk_67, xk_68, xk_69, xk_70, xk_71, xk_72, xk_73, xk_74, xk_75, xk_76, xk_77, xk_78, xk_79, xk_80, xk_81, xk_82, xk_83, xk_84, xk_85, xk_86, xk_87, xk_88, xk_89, xk_90, xk_91, xk_92, xk_93, xk_94, xk_95, xk_96, xk_97, xk_98, xm_0_0 hx, xm_0_10 hx, xm_0_11 hx, xm_0_12 hx, xm_0_13 hx, xm_0_14 hx, xm_0_15 hx, xm_0_2 hx, xm_0_9 hx, xm_40_0 hx, xm_40_1 hx, xm_41_0 hx, xm_44_0 hx, xm_44_1 hx, xm_73_4 hx, xm_73_5 hx, xm_73_6 hx, xm_77_1 hx, xm_77_2 hx, xm_77_3 hx, xm_77_4 hx, xm_77_5 hx, xm_77_6 hx, xm_77_7 hx, xm_77_8 hx, xm_77_9 hx, xm_87_2 hx, xm_87_3 hx, xm_87_4 hx, xm_87_5 hx, xm_87_6 hx, xm_87_7 hx, xm_87_8 hx, ite_self, Bool.false_eq_true, eq_self, isk_t, i20_t, w20_t, l23_t, b21_t, b22_t, w_t, bif_t, bif_f, bif_d, if_pos, if_neg, if_true, if_false, not_true_eq_false, not_false_eq_true, Option.bind_some, Option.toList_some, Option.toList_none, List.cons_append, List.nil_append, Int.toNat_natCast, Int.reduceToNat, up_eq, up_p, up_k, sN,  ks_S, i24_t, hlk, w6, hop, k1, e1, e2, ks_99 ]
theorem LW_28 (h : RA ρ μ) {i : Int} (i0 : 0 ≤ i) (iL : i + 6 ≤ cs.2.2) (hL : cs.2.2 < 2147483648) (hop : am_and (μ 1000000 i.toNat) 63 = 28) : ∃ ρ' μ', RA ρ' μ' ∧ (∀ j, μ' 1000000 j = μ 1000000 j) ∧ am_E (d + 301) 276 23 [some (.inr (.inr 1000000)), some (.inr (.inr 0)), some (.inr (.inr 99)), some (.inr (.inr 141)), some (.inl i), none, none] [] (SH, ρ, μ, cs) = am_E (d + 301) 276 1533 [some (.inr (.inr 1000000)), some (.inr (.inr 0)), some (.inr (.inr 99)), some (.inr (.inr 141)), some (.inl i), none, none] [] (SH, ρ', μ', cs) := by
  have hx : XM ρ := by
    obtain ⟨b, w, u, S, W, h⟩ := h
    exact h.1.1
  obtain ⟨v, ρ', μ1, μ2, e1, e2, hR⟩ : BT ρ μ cs (fun H => am_E (d + 300) 123 0 [some (.inr (.inr 0)), some (.inl (μ 1000000 (i + 1).toNat))] [] H) (fun H => am_E (d + 300) 248 0 [some (.inr (.inr 99)), some (.inl (μ 1000000 (i + 1).toNat))] [] H) := C_bents (d := d + 280) (cs := cs) h
  have e1 : am_E (d + 300) 123 0 [some (.inr (.inr 0)), some (.inl (μ 1000000 (i + 1).toNat))] [] (SH, ρ, μ, cs) = some (some v, (SH, ρ', μ1, cs)) := e1
  have e2 : am_E (d + 300) 248 0 [some (.inr (.inr 99)), some (.inl (μ 1000000 (i + 1).toNat))] [] (SH, ρ', μ1, cs) = some (some v, (SH, ρ', μ2, cs)) := e2
  obtain ⟨z, hz⟩ := (am_E_rk (by decide) e1).1 (by first | exact Or.inl rfl | exact Or.inr rfl)
  have hz : v = .inl z := Option.some.inj hz
  subst hz
  have k1 : ∀ j, μ1 1000000 j = μ 1000000 j := fun j => am_E_keep e1 1000000 j (Nat.le_refl _)
  have k2 : ∀ j, μ2 1000000 j = μ1 1000000 j := fun j => am_E_keep e2 1000000 j (Nat.le_refl _)
  refine ⟨ρ', μ2, hR, fun j => (k2 j).trans (k1 j), ?_⟩
  have hlk := lnk_24 hL
  have w6 : ¬ ((cs.2.2 : Nat) : Int) - 6 < i := by omega
  rw [e276_23]; simp (disch := omega) only [e276_40_c28, e276_1295, e276_1305, xk_0, xk_1, xk_40, xk_41, xk_42, xk_43, xk_44, xk_45, xk_46, xk_47, xk_48, xk_49, xk_50, xk_51, xk_52, xk_53, xk_54, xk_55, xk_56, xk_57, xk_58, xk_59, xk_60, xk_61, xk_62, xk_63, xk_64, xk_65, xk_66, xk_67, xk_68, xk_69, xk_70, xk_71, xk_72, xk_73, xk_74, xk_75, xk_76, xk_77, xk_78, xk_79, xk_80, xk_81, xk_82, xk_83, xk_84, xk_85, xk_86, xk_87, xk_88, xk_89, xk_90, xk_91, xk_92, xk_93, xk_94, xk_95, xk_96, xk_97, xk_98, xm_0_0 hx, xm_0_10 hx, xm_0_11 hx, xm_0_12 hx, xm_0_13 hx, xm_0_14 hx, xm_0_15 hx, xm_0_2 hx, xm_0_9 hx, xm_40_0 hx, xm_40_1 hx, xm_41_0 hx, xm_44_0 hx, xm_44_1 hx, xm_73_4 hx, xm_73_5 hx, xm_73_6 hx, xm_77_1 hx, xm_77_2 hx, xm_77_3 hx, xm_77_4 hx, xm_77_5 hx, xm_77_6 hx, xm_77_7 hx, xm_77_8 hx, xm_77_9 hx, xm_87_2 hx, xm_87_3 hx, xm_87_4 hx, xm_87_5 hx, xm_87_6 hx, xm_87_7 hx, xm_87_8 hx, ite_self, Bool.false_eq_true, eq_self, isk_t, i20_t, w20_t, l23_t, b21_t, b22_t, w_t, bif_t, bif_f, bif_d, if_pos, if_neg, if_true, if_false, not_true_eq_false, not_false_eq_true, Option.bind_some, Option.toList_some, Option.toList_none, List.cons_append, List.nil_append, Int.toNat_natCast, Int.reduceToNat, up_eq, up_p, up_k, sN,  ks_S, i24_t, hlk, w6, hop, k1, e1, e2, ks_99 ]
theorem LW_29 (h : RA ρ μ) {i : Int} (i0 : 0 ≤ i) (iL : i + 6 ≤ cs.2.2) (hL : cs.2.2 < 2147483648) (hop : am_and (μ 1000000 i.toNat) 63 = 29) : ∃ ρ' μ', RA ρ' μ' ∧ (∀ j, μ' 1000000 j = μ 1000000 j) ∧ am_E (d + 301) 276 23 [some (.inr (.inr 1000000)), some (.inr (.inr 0)), some (.inr (.inr 99)), some (.inr (.inr 141)), some (.inl i), none, none] [] (SH, ρ, μ, cs) = am_E (d + 301) 276 1533 [some (.inr (.inr 1000000)), some (.inr (.inr 0)), some (.inr (.inr 99)), some (.inr (.inr 141)), some (.inl i), none, none] [] (SH, ρ', μ', cs) := by
  have hx : XM ρ := by
    obtain ⟨b, w, u, S, W, h⟩ := h
    exact h.1.1
  obtain ⟨v, ρ', μ1, μ2, e1, e2, hR⟩ : BT ρ μ cs (fun H => am_E (d + 300) 125 0 [some (.inr (.inr 0)), some (.inl (μ 1000000 (i + 1).toNat)), some (.inl (μ 1000000 (i + 2).toNat)), some (.inl (μ 1000000 (i + 3).toNat)), none, none, none, none, none] [] H) (fun H => am_E (d + 300) 250 0 [some (.inr (.inr 99)), some (.inl (μ 1000000 (i + 1).toNat)), some (.inl (μ 1000000 (i + 2).toNat)), some (.inl (μ 1000000 (i + 3).toNat)), none, none, none] [] H) := C_ask (d := d + 280) (cs := cs) h
  have e1 : am_E (d + 300) 125 0 [some (.inr (.inr 0)), some (.inl (μ 1000000 (i + 1).toNat)), some (.inl (μ 1000000 (i + 2).toNat)), some (.inl (μ 1000000 (i + 3).toNat)), none, none, none, none, none] [] (SH, ρ, μ, cs) = some (some v, (SH, ρ', μ1, cs)) := e1
  have e2 : am_E (d + 300) 250 0 [some (.inr (.inr 99)), some (.inl (μ 1000000 (i + 1).toNat)), some (.inl (μ 1000000 (i + 2).toNat)), some (.inl (μ 1000000 (i + 3).toNat)), none, none, none] [] (SH, ρ', μ1, cs) = some (some v, (SH, ρ', μ2, cs)) := e2
  obtain ⟨z, hz⟩ := (am_E_rk (by decide) e1).1 (by first | exact Or.inl rfl | exact Or.inr rfl)
  have hz : v = .inl z := Option.some.inj hz
  subst hz
  have k1 : ∀ j, μ1 1000000 j = μ 1000000 j := fun j => am_E_keep e1 1000000 j (Nat.le_refl _)
  have k2 : ∀ j, μ2 1000000 j = μ1 1000000 j := fun j => am_E_keep e2 1000000 j (Nat.le_refl _)
  refine ⟨ρ', μ2, hR, fun j => (k2 j).trans (k1 j), ?_⟩
  have hlk := lnk_24 hL
  have w6 : ¬ ((cs.2.2 : Nat) : Int) - 6 < i := by omega
  rw [e276_23]; simp (disch := omega) only [e276_40_c29, e276_1332, e276_1354, xk_0, xk_1, xk_40, xk_41, xk_42, xk_43, xk_44, xk_45, xk_46, xk_47, xk_48, xk_49, xk_50, xk_51, xk_52, xk_53, xk_54, xk_55, xk_56, xk_57, xk_58, xk_59, xk_60, xk_61, xk_62, xk_63, xk_64, xk_65, xk_66, xk_67, xk_68, xk_69, xk_70, xk_71, xk_72, xk_73, xk_74, xk_75, xk_76, xk_77, xk_78, xk_79, xk_80, xk_81, xk_82, xk_83, xk_84, xk_85, xk_86, xk_87, xk_88, xk_89, xk_90, xk_91, xk_92, xk_93, xk_94, xk_95, xk_96, xk_97, xk_98, xm_0_0 hx, xm_0_10 hx, xm_0_11 hx, xm_0_12 hx, xm_0_13 hx, xm_0_14 hx, xm_0_15 hx, xm_0_2 hx, xm_0_9 hx, xm_40_0 hx, xm_40_1 hx, xm_41_0 hx, xm_44_0 hx, xm_44_1 hx, xm_73_4 hx, xm_73_5 hx, xm_73_6 hx, xm_77_1 hx, xm_77_2 hx, xm_77_3 hx, xm_77_4 hx, xm_77_5 hx, xm_77_6 hx, xm_77_7 hx, xm_77_8 hx, xm_77_9 hx, xm_87_2 hx, xm_87_3 hx, xm_87_4 hx, xm_87_5 hx, xm_87_6 hx, xm_87_7 hx, xm_87_8 hx, ite_self, Bool.false_eq_true, eq_self, isk_t, i20_t, w20_t, l23_t, b21_t, b22_t, w_t, bif_t, bif_f, bif_d, if_pos, if_neg, if_true, if_false, not_true_eq_false, not_false_eq_true, Option.bind_some, Option.toList_some, Option.toList_none, List.cons_append, List.nil_append, Int.toNat_natCast, Int.reduceToNat, up_eq, up_p, up_k, sN,  ks_S, i24_t, hlk, w6, hop, k1, e1, e2, ks_99 ]
theorem LW_30 (h : RA ρ μ) {i : Int} (i0 : 0 ≤ i) (iL : i + 6 ≤ cs.2.2) (hL : cs.2.2 < 2147483648) (hop : am_and (μ 1000000 i.toNat) 63 = 30) (hB : ∀ j, μ 1000000 j < 2147483648) : ∃ ρ' μ', RA ρ' μ' ∧ (∀ j, μ' 1000000 j = μ 1000000 j) ∧ am_E (d + 301) 276 23 [some (.inr (.inr 1000000)), some (.inr (.inr 0)), some (.inr (.inr 99)), some (.inr (.inr 141)), some (.inl i), none, none] [] (SH, ρ, μ, cs) = am_E (d + 301) 276 1533 [some (.inr (.inr 1000000)), some (.inr (.inr 0)), some (.inr (.inr 99)), some (.inr (.inr 141)), some (.inl i), none, none] [] (SH, ρ', μ', cs) := by
  have hx : XM ρ := by
    obtain ⟨b, w, u, S, W, h⟩ := h
    exact h.1.1
  obtain ⟨v, ρ', μ1, μ2, e1, e2, hR⟩ : BT ρ μ cs (fun H => am_E (d + 300) 128 0 [some (.inr (.inr 0)), some (.inl (μ 1000000 (i + 1).toNat)), some (.inl (μ 1000000 (i + 2).toNat)), some (.inl (μ 1000000 (i + 3).toNat)), some (.inl (μ 1000000 (i + 4).toNat)), none, none, none, none, none] [] H) (fun H => am_E (d + 300) 251 0 [some (.inr (.inr 99)), some (.inl (μ 1000000 (i + 1).toNat)), some (.inl (μ 1000000 (i + 2).toNat)), some (.inl (μ 1000000 (i + 3).toNat)), some (.inl (μ 1000000 (i + 4).toNat)), none, none, none, none] [] H) := C_chance (d := d + 280) (cs := cs) h (hB _)
  have e1 : am_E (d + 300) 128 0 [some (.inr (.inr 0)), some (.inl (μ 1000000 (i + 1).toNat)), some (.inl (μ 1000000 (i + 2).toNat)), some (.inl (μ 1000000 (i + 3).toNat)), some (.inl (μ 1000000 (i + 4).toNat)), none, none, none, none, none] [] (SH, ρ, μ, cs) = some (some v, (SH, ρ', μ1, cs)) := e1
  have e2 : am_E (d + 300) 251 0 [some (.inr (.inr 99)), some (.inl (μ 1000000 (i + 1).toNat)), some (.inl (μ 1000000 (i + 2).toNat)), some (.inl (μ 1000000 (i + 3).toNat)), some (.inl (μ 1000000 (i + 4).toNat)), none, none, none, none] [] (SH, ρ', μ1, cs) = some (some v, (SH, ρ', μ2, cs)) := e2
  obtain ⟨z, hz⟩ := (am_E_rk (by decide) e1).1 (by first | exact Or.inl rfl | exact Or.inr rfl)
  have hz : v = .inl z := Option.some.inj hz
  subst hz
  have k1 : ∀ j, μ1 1000000 j = μ 1000000 j := fun j => am_E_keep e1 1000000 j (Nat.le_refl _)
  have k2 : ∀ j, μ2 1000000 j = μ1 1000000 j := fun j => am_E_keep e2 1000000 j (Nat.le_refl _)
  refine ⟨ρ', μ2, hR, fun j => (k2 j).trans (k1 j), ?_⟩
  have hlk := lnk_24 hL
  have w6 : ¬ ((cs.2.2 : Nat) : Int) - 6 < i := by omega
  rw [e276_23]; simp (disch := omega) only [e276_40_c30, e276_1387, e276_1415, xk_0, xk_1, xk_40, xk_41, xk_42, xk_43, xk_44, xk_45, xk_46, xk_47, xk_48, xk_49, xk_50, xk_51, xk_52, xk_53, xk_54, xk_55, xk_56, xk_57, xk_58, xk_59, xk_60, xk_61, xk_62, xk_63, xk_64, xk_65, xk_66, xk_67, xk_68, xk_69, xk_70, xk_71, xk_72, xk_73, xk_74, xk_75, xk_76, xk_77, xk_78, xk_79, xk_80, xk_81, xk_82, xk_83, xk_84, xk_85, xk_86, xk_87, xk_88, xk_89, xk_90, xk_91, xk_92, xk_93, xk_94, xk_95, xk_96, xk_97, xk_98, xm_0_0 hx, xm_0_10 hx, xm_0_11 hx, xm_0_12 hx, xm_0_13 hx, xm_0_14 hx, xm_0_15 hx, xm_0_2 hx, xm_0_9 hx, xm_40_0 hx, xm_40_1 hx, xm_41_0 hx, xm_44_0 hx, xm_44_1 hx, xm_73_4 hx, xm_73_5 hx, xm_73_6 hx, xm_77_1 hx, xm_77_2 hx, xm_77_3 hx, xm_77_4 hx, xm_77_5 hx, xm_77_6 hx, xm_77_7 hx, xm_77_8 hx, xm_77_9 hx, xm_87_2 hx, xm_87_3 hx, xm_87_4 hx, xm_87_5 hx, xm_87_6 hx, xm_87_7 hx, xm_87_8 hx, ite_self, Bool.false_eq_true, eq_self, isk_t, i20_t, w20_t, l23_t, b21_t, b22_t, w_t, bif_t, bif_f, bif_d, if_pos, if_neg, if_true, if_false, not_true_eq_false, not_false_eq_true, Option.bind_some, Option.toList_some, Option.toList_none, List.cons_append, List.nil_append, Int.toNat_natCast, Int.reduceToNat, up_eq, up_p, up_k, sN,  ks_S, i24_t, hlk, w6, hop, k1, e1, e2, ks_99 ]
theorem LW_31 (h : RA ρ μ) {i : Int} (i0 : 0 ≤ i) (iL : i + 6 ≤ cs.2.2) (hL : cs.2.2 < 2147483648) (hop : am_and (μ 1000000 i.toNat) 63 = 31) : ∃ ρ' μ', RA ρ' μ' ∧ (∀ j, μ' 1000000 j = μ 1000000 j) ∧ am_E (d + 301) 276 23 [some (.inr (.inr 1000000)), some (.inr (.inr 0)), some (.inr (.inr 99)), some (.inr (.inr 141)), some (.inl i), none, none] [] (SH, ρ, μ, cs) = am_E (d + 301) 276 1533 [some (.inr (.inr 1000000)), some (.inr (.inr 0)), some (.inr (.inr 99)), some (.inr (.inr 141)), some (.inl i), none, none] [] (SH, ρ', μ', cs) := by
  have hx : XM ρ := by
    obtain ⟨b, w, u, S, W, h⟩ := h
    exact h.1.1
  obtain ⟨v, ρ', μ1, μ2, e1, e2, hR⟩ : BT ρ μ cs (fun H => am_E (d + 300) 129 0 [some (.inr (.inr 0)), some (.inl (μ 1000000 (i + 1).toNat)), some (.inl (μ 1000000 (i + 2).toNat)), some (.inl (μ 1000000 (i + 3).toNat)), none, none] [] H) (fun H => am_E (d + 300) 252 0 [some (.inr (.inr 99)), some (.inl (μ 1000000 (i + 1).toNat)), some (.inl (μ 1000000 (i + 2).toNat)), some (.inl (μ 1000000 (i + 3).toNat)), none] [] H) := C_tried (d := d + 280) (cs := cs) h
  have e1 : am_E (d + 300) 129 0 [some (.inr (.inr 0)), some (.inl (μ 1000000 (i + 1).toNat)), some (.inl (μ 1000000 (i + 2).toNat)), some (.inl (μ 1000000 (i + 3).toNat)), none, none] [] (SH, ρ, μ, cs) = some (some v, (SH, ρ', μ1, cs)) := e1
  have e2 : am_E (d + 300) 252 0 [some (.inr (.inr 99)), some (.inl (μ 1000000 (i + 1).toNat)), some (.inl (μ 1000000 (i + 2).toNat)), some (.inl (μ 1000000 (i + 3).toNat)), none] [] (SH, ρ', μ1, cs) = some (some v, (SH, ρ', μ2, cs)) := e2
  obtain ⟨z, hz⟩ := (am_E_rk (by decide) e1).1 (by first | exact Or.inl rfl | exact Or.inr rfl)
  have hz : v = .inl z := Option.some.inj hz
  subst hz
  have k1 : ∀ j, μ1 1000000 j = μ 1000000 j := fun j => am_E_keep e1 1000000 j (Nat.le_refl _)
  have k2 : ∀ j, μ2 1000000 j = μ1 1000000 j := fun j => am_E_keep e2 1000000 j (Nat.le_refl _)
  refine ⟨ρ', μ2, hR, fun j => (k2 j).trans (k1 j), ?_⟩
  have hlk := lnk_24 hL
  have w6 : ¬ ((cs.2.2 : Nat) : Int) - 6 < i := by omega
  rw [e276_23]; simp (disch := omega) only [e276_40_c31, e276_1442, e276_1464, xk_0, xk_1, xk_40, xk_41, xk_42, xk_43, xk_44, xk_45, xk_46, xk_47, xk_48, xk_49, xk_50, xk_51, xk_52, xk_53, xk_54, xk_55, xk_56, xk_57, xk_58, xk_59, xk_60, xk_61, xk_62, xk_63, xk_64, xk_65, xk_66, xk_67, xk_68, xk_69, xk_70, xk_71, xk_72, xk_73, xk_74, xk_75, xk_76, xk_77, xk_78, xk_79, xk_80, xk_81, xk_82, xk_83, xk_84, xk_85, xk_86, xk_87, xk_88, xk_89, xk_90, xk_91, xk_92, xk_93, xk_94, xk_95, xk_96, xk_97, xk_98, xm_0_0 hx, xm_0_10 hx, xm_0_11 hx, xm_0_12 hx, xm_0_13 hx, xm_0_14 hx, xm_0_15 hx, xm_0_2 hx, xm_0_9 hx, xm_40_0 hx, xm_40_1 hx, xm_41_0 hx, xm_44_0 hx, xm_44_1 hx, xm_73_4 hx, xm_73_5 hx, xm_73_6 hx, xm_77_1 hx, xm_77_2 hx, xm_77_3 hx, xm_77_4 hx, xm_77_5 hx, xm_77_6 hx, xm_77_7 hx, xm_77_8 hx, xm_77_9 hx, xm_87_2 hx, xm_87_3 hx, xm_87_4 hx, xm_87_5 hx, xm_87_6 hx, xm_87_7 hx, xm_87_8 hx, ite_self, Bool.false_eq_true, eq_self, isk_t, i20_t, w20_t, l23_t, b21_t, b22_t, w_t, bif_t, bif_f, bif_d, if_pos, if_neg, if_true, if_false, not_true_eq_false, not_false_eq_true, Option.bind_some, Option.toList_some, Option.toList_none, List.cons_append, List.nil_append, Int.toNat_natCast, Int.reduceToNat, up_eq, up_p, up_k, sN,  ks_S, i24_t, hlk, w6, hop, k1, e1, e2, ks_99 ]
theorem LW_32 (h : RA ρ μ) {i : Int} (i0 : 0 ≤ i) (iL : i + 6 ≤ cs.2.2) (hL : cs.2.2 < 2147483648) (hop : am_and (μ 1000000 i.toNat) 63 = 32) : ∃ ρ' μ', RA ρ' μ' ∧ (∀ j, μ' 1000000 j = μ 1000000 j) ∧ am_E (d + 301) 276 23 [some (.inr (.inr 1000000)), some (.inr (.inr 0)), some (.inr (.inr 99)), some (.inr (.inr 141)), some (.inl i), none, none] [] (SH, ρ, μ, cs) = am_E (d + 301) 276 1533 [some (.inr (.inr 1000000)), some (.inr (.inr 0)), some (.inr (.inr 99)), some (.inr (.inr 141)), some (.inl i), none, none] [] (SH, ρ', μ', cs) := by
  have hx : XM ρ := by
    obtain ⟨b, w, u, S, W, h⟩ := h
    exact h.1.1
  obtain ⟨v, ρ', μ1, μ2, e1, e2, hR⟩ : BT ρ μ cs (fun H => am_E (d + 300) 130 0 [some (.inr (.inr 0))] [] H) (fun H => am_E (d + 300) 253 0 [some (.inr (.inr 99))] [] H) := C_undo (d := d + 280) (cs := cs) h
  have e1 : am_E (d + 300) 130 0 [some (.inr (.inr 0))] [] (SH, ρ, μ, cs) = some (some v, (SH, ρ', μ1, cs)) := e1
  have e2 : am_E (d + 300) 253 0 [some (.inr (.inr 99))] [] (SH, ρ', μ1, cs) = some (some v, (SH, ρ', μ2, cs)) := e2
  obtain ⟨z, hz⟩ := (am_E_rk (by decide) e1).1 (by first | exact Or.inl rfl | exact Or.inr rfl)
  have hz : v = .inl z := Option.some.inj hz
  subst hz
  have k1 : ∀ j, μ1 1000000 j = μ 1000000 j := fun j => am_E_keep e1 1000000 j (Nat.le_refl _)
  have k2 : ∀ j, μ2 1000000 j = μ1 1000000 j := fun j => am_E_keep e2 1000000 j (Nat.le_refl _)
  refine ⟨ρ', μ2, hR, fun j => (k2 j).trans (k1 j), ?_⟩
  have hlk := lnk_24 hL
  have w6 : ¬ ((cs.2.2 : Nat) : Int) - 6 < i := by omega
  rw [e276_23]; simp (disch := omega) only [e276_40_c32, e276_1473, e276_1477, xk_0, xk_1, xk_40, xk_41, xk_42, xk_43, xk_44, xk_45, xk_46, xk_47, xk_48, xk_49, xk_50, xk_51, xk_52, xk_53, xk_54, xk_55, xk_56, xk_57, xk_58, xk_59, xk_60, xk_61, xk_62, xk_63, xk_64, xk_65, xk_66, xk_67, xk_68, xk_69, xk_70, xk_71, xk_72, xk_73, xk_74, xk_75, xk_76, xk_77, xk_78, xk_79, xk_80, xk_81, xk_82, xk_83, xk_84, xk_85, xk_86, xk_87, xk_88, xk_89, xk_90, xk_91, xk_92, xk_93, xk_94, xk_95, xk_96, xk_97, xk_98, xm_0_0 hx, xm_0_10 hx, xm_0_11 hx, xm_0_12 hx, xm_0_13 hx, xm_0_14 hx, xm_0_15 hx, xm_0_2 hx, xm_0_9 hx, xm_40_0 hx, xm_40_1 hx, xm_41_0 hx, xm_44_0 hx, xm_44_1 hx, xm_73_4 hx, xm_73_5 hx, xm_73_6 hx, xm_77_1 hx, xm_77_2 hx, xm_77_3 hx, xm_77_4 hx, xm_77_5 hx, xm_77_6 hx, xm_77_7 hx, xm_77_8 hx, xm_77_9 hx, xm_87_2 hx, xm_87_3 hx, xm_87_4 hx, xm_87_5 hx, xm_87_6 hx, xm_87_7 hx, xm_87_8 hx, ite_self, Bool.false_eq_true, eq_self, isk_t, i20_t, w20_t, l23_t, b21_t, b22_t, w_t, bif_t, bif_f, bif_d, if_pos, if_neg, if_true, if_false, not_true_eq_false, not_false_eq_true, Option.bind_some, Option.toList_some, Option.toList_none, List.cons_append, List.nil_append, Int.toNat_natCast, Int.reduceToNat, up_eq, up_p, up_k, sN,  ks_S, i24_t, hlk, w6, hop, k1, e1, e2, ks_99 ]
theorem LW_33 (h : RA ρ μ) {i : Int} (i0 : 0 ≤ i) (iL : i + 6 ≤ cs.2.2) (hL : cs.2.2 < 2147483648) (hop : am_and (μ 1000000 i.toNat) 63 = 33) : ∃ ρ' μ', RA ρ' μ' ∧ (∀ j, μ' 1000000 j = μ 1000000 j) ∧ am_E (d + 301) 276 23 [some (.inr (.inr 1000000)), some (.inr (.inr 0)), some (.inr (.inr 99)), some (.inr (.inr 141)), some (.inl i), none, none] [] (SH, ρ, μ, cs) = am_E (d + 301) 276 1533 [some (.inr (.inr 1000000)), some (.inr (.inr 0)), some (.inr (.inr 99)), some (.inr (.inr 141)), some (.inl i), none, none] [] (SH, ρ', μ', cs) := by
  have hx : XM ρ := by
    obtain ⟨b, w, u, S, W, h⟩ := h
    exact h.1.1
  obtain ⟨v, ρ', μ1, μ2, e1, e2, hR⟩ : BT ρ μ cs (fun H => am_E (d + 300) 131 0 [some (.inr (.inr 0))] [] H) (fun H => am_E (d + 300) 254 0 [some (.inr (.inr 99))] [] H) := C_keep (d := d + 280) (cs := cs) h
  have e1 : am_E (d + 300) 131 0 [some (.inr (.inr 0))] [] (SH, ρ, μ, cs) = some (some v, (SH, ρ', μ1, cs)) := e1
  have e2 : am_E (d + 300) 254 0 [some (.inr (.inr 99))] [] (SH, ρ', μ1, cs) = some (some v, (SH, ρ', μ2, cs)) := e2
  obtain ⟨z, hz⟩ := (am_E_rk (by decide) e1).1 (by first | exact Or.inl rfl | exact Or.inr rfl)
  have hz : v = .inl z := Option.some.inj hz
  subst hz
  have k1 : ∀ j, μ1 1000000 j = μ 1000000 j := fun j => am_E_keep e1 1000000 j (Nat.le_refl _)
  have k2 : ∀ j, μ2 1000000 j = μ1 1000000 j := fun j => am_E_keep e2 1000000 j (Nat.le_refl _)
  refine ⟨ρ', μ2, hR, fun j => (k2 j).trans (k1 j), ?_⟩
  have hlk := lnk_24 hL
  have w6 : ¬ ((cs.2.2 : Nat) : Int) - 6 < i := by omega
  rw [e276_23]; simp (disch := omega) only [e276_40_c33, e276_1486, e276_1490, xk_0, xk_1, xk_40, xk_41, xk_42, xk_43, xk_44, xk_45, xk_46, xk_47, xk_48, xk_49, xk_50, xk_51, xk_52, xk_53, xk_54, xk_55, xk_56, xk_57, xk_58, xk_59, xk_60, xk_61, xk_62, xk_63, xk_64, xk_65, xk_66, xk_67, xk_68, xk_69, xk_70, xk_71, xk_72, xk_73, xk_74, xk_75, xk_76, xk_77, xk_78, xk_79, xk_80, xk_81, xk_82, xk_83, xk_84, xk_85, xk_86, xk_87, xk_88, xk_89, xk_90, xk_91, xk_92, xk_93, xk_94, xk_95, xk_96, xk_97, xk_98, xm_0_0 hx, xm_0_10 hx, xm_0_11 hx, xm_0_12 hx, xm_0_13 hx, xm_0_14 hx, xm_0_15 hx, xm_0_2 hx, xm_0_9 hx, xm_40_0 hx, xm_40_1 hx, xm_41_0 hx, xm_44_0 hx, xm_44_1 hx, xm_73_4 hx, xm_73_5 hx, xm_73_6 hx, xm_77_1 hx, xm_77_2 hx, xm_77_3 hx, xm_77_4 hx, xm_77_5 hx, xm_77_6 hx, xm_77_7 hx, xm_77_8 hx, xm_77_9 hx, xm_87_2 hx, xm_87_3 hx, xm_87_4 hx, xm_87_5 hx, xm_87_6 hx, xm_87_7 hx, xm_87_8 hx, ite_self, Bool.false_eq_true, eq_self, isk_t, i20_t, w20_t, l23_t, b21_t, b22_t, w_t, bif_t, bif_f, bif_d, if_pos, if_neg, if_true, if_false, not_true_eq_false, not_false_eq_true, Option.bind_some, Option.toList_some, Option.toList_none, List.cons_append, List.nil_append, Int.toNat_natCast, Int.reduceToNat, up_eq, up_p, up_k, sN,  ks_S, i24_t, hlk, w6, hop, k1, e1, e2, ks_99 ]
theorem LW_34 (h : RA ρ μ) {i : Int} (i0 : 0 ≤ i) (iL : i + 6 ≤ cs.2.2) (hL : cs.2.2 < 2147483648) (hop : am_and (μ 1000000 i.toNat) 63 = 34) : ∃ ρ' μ', RA ρ' μ' ∧ (∀ j, μ' 1000000 j = μ 1000000 j) ∧ am_E (d + 301) 276 23 [some (.inr (.inr 1000000)), some (.inr (.inr 0)), some (.inr (.inr 99)), some (.inr (.inr 141)), some (.inl i), none, none] [] (SH, ρ, μ, cs) = am_E (d + 301) 276 1533 [some (.inr (.inr 1000000)), some (.inr (.inr 0)), some (.inr (.inr 99)), some (.inr (.inr 141)), some (.inl i), none, none] [] (SH, ρ', μ', cs) := by
  have hx : XM ρ := by
    obtain ⟨b, w, u, S, W, h⟩ := h
    exact h.1.1
  obtain ⟨v, ρ', μ1, μ2, e1, e2, hR⟩ : BT ρ μ cs (fun H => am_E (d + 300) 132 0 [some (.inr (.inr 0))] [] H) (fun H => am_E (d + 300) 255 0 [some (.inr (.inr 99))] [] H) := C_back (d := d + 280) (cs := cs) h
  have e1 : am_E (d + 300) 132 0 [some (.inr (.inr 0))] [] (SH, ρ, μ, cs) = some (some v, (SH, ρ', μ1, cs)) := e1
  have e2 : am_E (d + 300) 255 0 [some (.inr (.inr 99))] [] (SH, ρ', μ1, cs) = some (some v, (SH, ρ', μ2, cs)) := e2
  obtain ⟨z, hz⟩ := (am_E_rk (by decide) e1).1 (by first | exact Or.inl rfl | exact Or.inr rfl)
  have hz : v = .inl z := Option.some.inj hz
  subst hz
  have k1 : ∀ j, μ1 1000000 j = μ 1000000 j := fun j => am_E_keep e1 1000000 j (Nat.le_refl _)
  have k2 : ∀ j, μ2 1000000 j = μ1 1000000 j := fun j => am_E_keep e2 1000000 j (Nat.le_refl _)
  refine ⟨ρ', μ2, hR, fun j => (k2 j).trans (k1 j), ?_⟩
  have hlk := lnk_24 hL
  have w6 : ¬ ((cs.2.2 : Nat) : Int) - 6 < i := by omega
  rw [e276_23]; simp (disch := omega) only [e276_40_c34, e276_1499, e276_1503, xk_0, xk_1, xk_40, xk_41, xk_42, xk_43, xk_44, xk_45, xk_46, xk_47, xk_48, xk_49, xk_50, xk_51, xk_52, xk_53, xk_54, xk_55, xk_56, xk_57, xk_58, xk_59, xk_60, xk_61, xk_62, xk_63, xk_64, xk_65, xk_66, xk_67, xk_68, xk_69, xk_70, xk_71, xk_72, xk_73, xk_74, xk_75, xk_76, xk_77, xk_78, xk_79, xk_80, xk_81, xk_82, xk_83, xk_84, xk_85, xk_86, xk_87, xk_88, xk_89, xk_90, xk_91, xk_92, xk_93, xk_94, xk_95, xk_96, xk_97, xk_98, xm_0_0 hx, xm_0_10 hx, xm_0_11 hx, xm_0_12 hx, xm_0_13 hx, xm_0_14 hx, xm_0_15 hx, xm_0_2 hx, xm_0_9 hx, xm_40_0 hx, xm_40_1 hx, xm_41_0 hx, xm_44_0 hx, xm_44_1 hx, xm_73_4 hx, xm_73_5 hx, xm_73_6 hx, xm_77_1 hx, xm_77_2 hx, xm_77_3 hx, xm_77_4 hx, xm_77_5 hx, xm_77_6 hx, xm_77_7 hx, xm_77_8 hx, xm_77_9 hx, xm_87_2 hx, xm_87_3 hx, xm_87_4 hx, xm_87_5 hx, xm_87_6 hx, xm_87_7 hx, xm_87_8 hx, ite_self, Bool.false_eq_true, eq_self, isk_t, i20_t, w20_t, l23_t, b21_t, b22_t, w_t, bif_t, bif_f, bif_d, if_pos, if_neg, if_true, if_false, not_true_eq_false, not_false_eq_true, Option.bind_some, Option.toList_some, Option.toList_none, List.cons_append, List.nil_append, Int.toNat_natCast, Int.reduceToNat, up_eq, up_p, up_k, sN,  ks_S, i24_t, hlk, w6, hop, k1, e1, e2, ks_99 ]
theorem LW_35 (h : RA ρ μ) {i : Int} (i0 : 0 ≤ i) (iL : i + 6 ≤ cs.2.2) (hL : cs.2.2 < 2147483648) (hop : am_and (μ 1000000 i.toNat) 63 = 35) : ∃ ρ' μ', RA ρ' μ' ∧ (∀ j, μ' 1000000 j = μ 1000000 j) ∧ am_E (d + 301) 276 23 [some (.inr (.inr 1000000)), some (.inr (.inr 0)), some (.inr (.inr 99)), some (.inr (.inr 141)), some (.inl i), none, none] [] (SH, ρ, μ, cs) = am_E (d + 301) 276 1533 [some (.inr (.inr 1000000)), some (.inr (.inr 0)), some (.inr (.inr 99)), some (.inr (.inr 141)), some (.inl i), none, none] [] (SH, ρ', μ', cs) := by
  have hx : XM ρ := by
    obtain ⟨b, w, u, S, W, h⟩ := h
    exact h.1.1
  obtain ⟨v, ρ', μ1, μ2, e1, e2, hR⟩ : BT ρ μ cs (fun H => am_E (d + 300) 133 0 [some (.inr (.inr 0)), some (.inl (μ 1000000 (i + 1).toNat))] [] H) (fun H => am_E (d + 300) 256 0 [some (.inr (.inr 99)), some (.inl (μ 1000000 (i + 1).toNat))] [] H) := C_count (d := d + 280) (cs := cs) h
  have e1 : am_E (d + 300) 133 0 [some (.inr (.inr 0)), some (.inl (μ 1000000 (i + 1).toNat))] [] (SH, ρ, μ, cs) = some (some v, (SH, ρ', μ1, cs)) := e1
  have e2 : am_E (d + 300) 256 0 [some (.inr (.inr 99)), some (.inl (μ 1000000 (i + 1).toNat))] [] (SH, ρ', μ1, cs) = some (some v, (SH, ρ', μ2, cs)) := e2
  obtain ⟨z, hz⟩ := (am_E_rk (by decide) e1).1 (by first | exact Or.inl rfl | exact Or.inr rfl)
  have hz : v = .inl z := Option.some.inj hz
  subst hz
  have k1 : ∀ j, μ1 1000000 j = μ 1000000 j := fun j => am_E_keep e1 1000000 j (Nat.le_refl _)
  have k2 : ∀ j, μ2 1000000 j = μ1 1000000 j := fun j => am_E_keep e2 1000000 j (Nat.le_refl _)
  refine ⟨ρ', μ2, hR, fun j => (k2 j).trans (k1 j), ?_⟩
  have hlk := lnk_24 hL
  have w6 : ¬ ((cs.2.2 : Nat) : Int) - 6 < i := by omega
  rw [e276_23]; simp (disch := omega) only [e276_40_c35, e276_1518, e276_1528, xk_0, xk_1, xk_40, xk_41, xk_42, xk_43, xk_44, xk_45, xk_46, xk_47, xk_48, xk_49, xk_50, xk_51, xk_52, xk_53, xk_54, xk_55, xk_56, xk_57, xk_58, xk_59, xk_60, xk_61, xk_62, xk_63, xk_64, xk_65, xk_66, xk_67, xk_68, xk_69, xk_70, xk_71, xk_72, xk_73, xk_74, xk_75, xk_76, xk_77, xk_78, xk_79, xk_80, xk_81, xk_82, xk_83, xk_84, xk_85, xk_86, xk_87, xk_88, xk_89, xk_90, xk_91, xk_92, xk_93, xk_94, xk_95, xk_96, xk_97, xk_98, xm_0_0 hx, xm_0_10 hx, xm_0_11 hx, xm_0_12 hx, xm_0_13 hx, xm_0_14 hx, xm_0_15 hx, xm_0_2 hx, xm_0_9 hx, xm_40_0 hx, xm_40_1 hx, xm_41_0 hx, xm_44_0 hx, xm_44_1 hx, xm_73_4 hx, xm_73_5 hx, xm_73_6 hx, xm_77_1 hx, xm_77_2 hx, xm_77_3 hx, xm_77_4 hx, xm_77_5 hx, xm_77_6 hx, xm_77_7 hx, xm_77_8 hx, xm_77_9 hx, xm_87_2 hx, xm_87_3 hx, xm_87_4 hx, xm_87_5 hx, xm_87_6 hx, xm_87_7 hx, xm_87_8 hx, ite_self, Bool.false_eq_true, eq_self, isk_t, i20_t, w20_t, l23_t, b21_t, b22_t, w_t, bif_t, bif_f, bif_d, if_pos, if_neg, if_true, if_false, not_true_eq_false, not_false_eq_true, Option.bind_some, Option.toList_some, Option.toList_none, List.cons_append, List.nil_append, Int.toNat_natCast, Int.reduceToNat, up_eq, up_p, up_k, sN,  ks_S, i24_t, hlk, w6, hop, k1, e1, e2, ks_99 ]
end LOQ
