/-! LAW: behind a call of thing; any op -/
section LOT
variable {ρ : Nat → Nat → Nat} {μ : Nat → Nat → Int} {cs : Nat × Nat × Nat} {d : Nat} {b w u : Nat} {S : MS} {W : MW}
theorem ra_o {μc : Nat → Nat → Int} (h : RAx ρ μ b w u S W) (hf : ∀ q k, ¬ ((q = 99 ∧ k = 0) ∨ q = 141) → μc q k = μ q k) : RAx ρ μc b w u S W := by
  obtain ⟨h1, h2, h3, h4, h5, h6, h7, h8⟩ := h
  refine ⟨rl_b h1 (frr_rf ρ) (fun q k g => hf q k (by omega)), und_fr h2 (hf _ _ (by omega)) (hf _ _ (by omega)) (fun q i g0 g1 => hf _ _ (by omega)) (fun s g0 g1 => WR_s (by omega) (fun q k g => hf q k (by unfold FrT at g; omega))), img_fr h3 (hf _ _ (by omega)) (hf _ _ (by omega)) (fun q k g0 g1 => hf _ _ (by omega)) (WR_s (by omega) (fun q k g => hf q k (by unfold FrT at g; omega))), nts_fr h4 (fun k _ => hf _ _ (by omega)) (hf _ _ (by omega)) (hf _ _ (by omega)) (fun q i g => hf _ _ (by omega)), tap_fr h5 (hf _ _ (by omega)) (hf _ _ (by omega)) (fun i => hf _ _ (by omega)) (fun i => hf _ _ (by omega)), ⟨by rw [hf _ _ (by omega), hf _ _ (by omega)]; exact h6.1, by rw [hf _ _ (by omega), hf _ _ (by omega)]; exact h6.2⟩, cst_fr h7 rfl (fun i => hf _ _ (by omega)) (fun q i g => hf _ _ (by omega)), h8⟩
def thc (S : MS) (t k : Int) : Int := if 0 ≤ t ∧ t < S 0 1 then (if 0 ≤ k ∧ k ≤ 4 then 0 else 2) else 1
theorem LT (h : RAx ρ μ b w u S W) {i : Int} (i0 : 0 ≤ i) (iL : i + 6 ≤ cs.2.2) (hL : cs.2.2 < 2147483648) {t k : Int} (et : μ 1000000 (i + 1).toNat = t) (ek : μ 1000000 (i + 2).toNat = k) {μ1 : Nat → Nat → Int} (h1 : μ1 = if thc S t k = 0 then am_up μ 141 0 (thgA S W t k) else μ) : ∃ μ', RA ρ μ' ∧ (∀ j, μ' 1000000 j = μ 1000000 j) ∧ am_E (d + 301) 276 377 [some (.inr (.inr 1000000)), some (.inr (.inr 0)), some (.inr (.inr 99)), some (.inr (.inr 141)), some (.inl i), none, none] [.inl (thc S t k)] (SH, ρ, μ1, cs) = some (some (.inr (.inr (2 * i.toNat))), (SH, ρ, μ', cs)) := by
  have hx : XM ρ := h.1.1
  have f1 : ∀ q j, ¬ (q = 141) → μ1 q j = μ q j := fun q j g => by
    rw [h1]
    by_cases c : thc S t k = 0
    · rw [if_pos c, up_p g]
    · rw [if_neg c]
  have hA : RAx ρ μ1 b w u S W := ra_o h (fun q k g => f1 q k (by omega))
  have hR := R_thing (d := d + 297) (cs := cs) hA.1 (t := t) (k := k)
  have s1 : μ1 1000000 (i + 1).toNat = t := by rw [f1 _ _ (by omega)]; exact et
  have s2 : μ1 1000000 (i + 2).toNat = k := by rw [f1 _ _ (by omega)]; exact ek
  refine ⟨am_up μ1 99 0 (thc S t k), ⟨b, w, u, S, W, ra_o hA (fun q k g => am_up_no (by omega))⟩, fun j => by rw [up_p (by omega), f1 _ _ (by omega)], ?_⟩
  by_cases c : 0 ≤ t ∧ t < S 0 1
  · by_cases c2 : 0 ≤ k ∧ k ≤ 4
    · have e : thc S t k = 0 := by unfold thc; rw [if_pos c, if_pos c2]
      rw [if_pos c, if_pos c2] at hR
      rw [e] at h1 ⊢
      rw [if_pos rfl] at h1
      have e0 : μ1 141 0 = thgA S W t k := by rw [h1]; exact up_eq
      simp (disch := omega) only [e276_377, e276_395, e276_401, e140_0, ks_99, xk_0, xk_1, xk_40, xk_41, xk_42, xk_43, xk_44, xk_45, xk_46, xk_47, xk_48, xk_49, xk_50, xk_51, xk_52, xk_53, xk_54, xk_55, xk_56, xk_57, xk_58, xk_59, xk_60, xk_61, xk_62, xk_63, xk_64, xk_65, xk_66, xk_67, xk_68, xk_69, xk_70, xk_71, xk_72, xk_73, xk_74, xk_75, xk_76, xk_77, xk_78, xk_79, xk_80, xk_81, xk_82, xk_83, xk_84, xk_85, xk_86, xk_87, xk_88, xk_89, xk_90, xk_91, xk_92, xk_93, xk_94, xk_95, xk_96, xk_97, xk_98, xm_0_0 hx, xm_0_10 hx, xm_0_11 hx, xm_0_12 hx, xm_0_13 hx, xm_0_14 hx, xm_0_15 hx, xm_0_2 hx, xm_0_9 hx, xm_40_0 hx, xm_40_1 hx, xm_41_0 hx, xm_44_0 hx, xm_44_1 hx, xm_73_4 hx, xm_73_5 hx, xm_73_6 hx, xm_77_1 hx, xm_77_2 hx, xm_77_3 hx, xm_77_4 hx, xm_77_5 hx, xm_77_6 hx, xm_77_7 hx, xm_77_8 hx, xm_77_9 hx, xm_87_2 hx, xm_87_3 hx, xm_87_4 hx, xm_87_5 hx, xm_87_6 hx, xm_87_7 hx, xm_87_8 hx, ite_self, Bool.false_eq_true, eq_self, isk_t, i20_t, w20_t, l23_t, b21_t, b22_t, w_t, bif_t, bif_f, bif_d, if_pos, if_neg, if_true, if_false, not_true_eq_false, not_false_eq_true, Option.bind_some, Option.toList_some, Option.toList_none, List.cons_append, List.nil_append, Int.toNat_natCast, Int.reduceToNat, up_eq, up_p, up_k, sN,  ks_S, i24_t, s1, s2, hR, ks_99, e0, am_lc_s ]
      exact am_h1533 i0
    · have e : thc S t k = 2 := by unfold thc; rw [if_pos c, if_neg c2]
      rw [if_pos c, if_neg c2] at hR
      rw [e]
      simp (disch := omega) only [e276_377, e276_395, e276_401, e140_0, ks_99, xk_0, xk_1, xk_40, xk_41, xk_42, xk_43, xk_44, xk_45, xk_46, xk_47, xk_48, xk_49, xk_50, xk_51, xk_52, xk_53, xk_54, xk_55, xk_56, xk_57, xk_58, xk_59, xk_60, xk_61, xk_62, xk_63, xk_64, xk_65, xk_66, xk_67, xk_68, xk_69, xk_70, xk_71, xk_72, xk_73, xk_74, xk_75, xk_76, xk_77, xk_78, xk_79, xk_80, xk_81, xk_82, xk_83, xk_84, xk_85, xk_86, xk_87, xk_88, xk_89, xk_90, xk_91, xk_92, xk_93, xk_94, xk_95, xk_96, xk_97, xk_98, xm_0_0 hx, xm_0_10 hx, xm_0_11 hx, xm_0_12 hx, xm_0_13 hx, xm_0_14 hx, xm_0_15 hx, xm_0_2 hx, xm_0_9 hx, xm_40_0 hx, xm_40_1 hx, xm_41_0 hx, xm_44_0 hx, xm_44_1 hx, xm_73_4 hx, xm_73_5 hx, xm_73_6 hx, xm_77_1 hx, xm_77_2 hx, xm_77_3 hx, xm_77_4 hx, xm_77_5 hx, xm_77_6 hx, xm_77_7 hx, xm_77_8 hx, xm_77_9 hx, xm_87_2 hx, xm_87_3 hx, xm_87_4 hx, xm_87_5 hx, xm_87_6 hx, xm_87_7 hx, xm_87_8 hx, ite_self, Bool.false_eq_true, eq_self, isk_t, i20_t, w20_t, l23_t, b21_t, b22_t, w_t, bif_t, bif_f, bif_d, if_pos, if_neg, if_true, if_false, not_true_eq_false, not_false_eq_true, Option.bind_some, Option.toList_some, Option.toList_none, List.cons_append, List.nil_append, Int.toNat_natCast, Int.reduceToNat, up_eq, up_p, up_k, sN,  ks_S, i24_t, s1, s2, hR, ks_99 ]
      exact am_h1533 i0
  · have e : thc S t k = 1 := by unfold thc; rw [if_neg c]
    rw [if_neg c] at hR
    rw [e]
    simp (disch := omega) only [e276_377, e276_395, e276_401, e140_0, ks_99, xk_0, xk_1, xk_40, xk_41, xk_42, xk_43, xk_44, xk_45, xk_46, xk_47, xk_48, xk_49, xk_50, xk_51, xk_52, xk_53, xk_54, xk_55, xk_56, xk_57, xk_58, xk_59, xk_60, xk_61, xk_62, xk_63, xk_64, xk_65, xk_66, xk_67, xk_68, xk_69, xk_70, xk_71, xk_72, xk_73, xk_74, xk_75, xk_76, xk_77, xk_78, xk_79, xk_80, xk_81, xk_82, xk_83, xk_84, xk_85, xk_86, xk_87, xk_88, xk_89, xk_90, xk_91, xk_92, xk_93, xk_94, xk_95, xk_96, xk_97, xk_98, xm_0_0 hx, xm_0_10 hx, xm_0_11 hx, xm_0_12 hx, xm_0_13 hx, xm_0_14 hx, xm_0_15 hx, xm_0_2 hx, xm_0_9 hx, xm_40_0 hx, xm_40_1 hx, xm_41_0 hx, xm_44_0 hx, xm_44_1 hx, xm_73_4 hx, xm_73_5 hx, xm_73_6 hx, xm_77_1 hx, xm_77_2 hx, xm_77_3 hx, xm_77_4 hx, xm_77_5 hx, xm_77_6 hx, xm_77_7 hx, xm_77_8 hx, xm_77_9 hx, xm_87_2 hx, xm_87_3 hx, xm_87_4 hx, xm_87_5 hx, xm_87_6 hx, xm_87_7 hx, xm_87_8 hx, ite_self, Bool.false_eq_true, eq_self, isk_t, i20_t, w20_t, l23_t, b21_t, b22_t, w_t, bif_t, bif_f, bif_d, if_pos, if_neg, if_true, if_false, not_true_eq_false, not_false_eq_true, Option.bind_some, Option.toList_some, Option.toList_none, List.cons_append, List.nil_append, Int.toNat_natCast, Int.reduceToNat, up_eq, up_p, up_k, sN,  ks_S, i24_t, s1, s2, hR, ks_99 ]
    exact am_h1533 i0
theorem LW_all (h : RA ρ μ) {i : Int} (i0 : 0 ≤ i) (iL : i + 6 ≤ cs.2.2) (hL : cs.2.2 < 2147483648) (hB : ∀ j, μ 1000000 j < 2147483648) : (∃ ρ' μ', RA ρ' μ' ∧ (∀ j, μ' 1000000 j = μ 1000000 j) ∧ am_E (d + 301) 276 23 [some (.inr (.inr 1000000)), some (.inr (.inr 0)), some (.inr (.inr 99)), some (.inr (.inr 141)), some (.inl i), none, none] [] (SH, ρ, μ, cs) = some (some (.inr (.inr (2 * i.toNat))), (SH, ρ', μ', cs))) ∨ am_E (d + 301) 276 23 [some (.inr (.inr 1000000)), some (.inr (.inr 0)), some (.inr (.inr 99)), some (.inr (.inr 141)), some (.inl i), none, none] [] (SH, ρ, μ, cs) = some (some (.inr (.inr (2 * i.toNat + 1))), (SH, ρ, μ, cs)) := by
  have key : (∃ ρ' μ', RA ρ' μ' ∧ (∀ j, μ' 1000000 j = μ 1000000 j) ∧ am_E (d + 301) 276 23 [some (.inr (.inr 1000000)), some (.inr (.inr 0)), some (.inr (.inr 99)), some (.inr (.inr 141)), some (.inl i), none, none] [] (SH, ρ, μ, cs) = am_E (d + 301) 276 1533 [some (.inr (.inr 1000000)), some (.inr (.inr 0)), some (.inr (.inr 99)), some (.inr (.inr 141)), some (.inl i), none, none] [] (SH, ρ', μ', cs)) → (∃ ρ' μ', RA ρ' μ' ∧ (∀ j, μ' 1000000 j = μ 1000000 j) ∧ am_E (d + 301) 276 23 [some (.inr (.inr 1000000)), some (.inr (.inr 0)), some (.inr (.inr 99)), some (.inr (.inr 141)), some (.inl i), none, none] [] (SH, ρ, μ, cs) = some (some (.inr (.inr (2 * i.toNat))), (SH, ρ', μ', cs))) := by
    rintro ⟨ρ', μ', g1, g2, g3⟩
    exact ⟨ρ', μ', g1, g2, g3.trans (am_h1533 i0)⟩
  have ho : ∀ n : Nat, n < 36 → am_and (μ 1000000 i.toNat) 63 = (n : Int) → n ≠ 4 → ∃ ρ' μ', RA ρ' μ' ∧ (∀ j, μ' 1000000 j = μ 1000000 j) ∧ am_E (d + 301) 276 23 [some (.inr (.inr 1000000)), some (.inr (.inr 0)), some (.inr (.inr 99)), some (.inr (.inr 141)), some (.inl i), none, none] [] (SH, ρ, μ, cs) = am_E (d + 301) 276 1533 [some (.inr (.inr 1000000)), some (.inr (.inr 0)), some (.inr (.inr 99)), some (.inr (.inr 141)), some (.inl i), none, none] [] (SH, ρ', μ', cs) := by
    intro n hn hop h4
    match n, hn, hop, h4 with
    | 0, _, hop, _ => exact LW_0 h i0 iL hL hop
    | 1, _, hop, _ => exact LW_1 h i0 iL hL hop
    | 2, _, hop, _ => exact LW_2 h i0 iL hL hop
    | 3, _, hop, _ => exact LW_3 h i0 iL hL hop
    | 4, _, _, h4 => exact absurd rfl h4
    | 5, _, hop, _ => exact LW_5 h i0 iL hL hop
    | 6, _, hop, _ => exact LW_6 h i0 iL hL hop
    | 7, _, hop, _ => exact LW_7 h i0 iL hL hop
    | 8, _, hop, _ => exact LW_8 h i0 iL hL hop
    | 9, _, hop, _ => exact LW_9 h i0 iL hL hop
    | 10, _, hop, _ => exact LW_10 h i0 iL hL hop
    | 11, _, hop, _ => exact LW_11 h i0 iL hL hop
    | 12, _, hop, _ => exact LW_12 h i0 iL hL hop
    | 13, _, hop, _ => exact LW_13 h i0 iL hL hop
    | 14, _, hop, _ => exact LW_14 h i0 iL hL hop
    | 15, _, hop, _ => exact LW_15 h i0 iL hL hop
    | 16, _, hop, _ => exact LW_16 h i0 iL hL hop
    | 17, _, hop, _ => exact LW_17 h i0 iL hL hop
    | 18, _, hop, _ => exact LW_18 h i0 iL hL hop
    | 19, _, hop, _ => exact LW_19 h i0 iL hL hop
    | 20, _, hop, _ => exact LW_20 h i0 iL hL hop
    | 21, _, hop, _ => exact LW_21 h i0 iL hL hop
    | 22, _, hop, _ => exact LW_22 h i0 iL hL hop
    | 23, _, hop, _ => exact LW_23 h i0 iL hL hop hB
    | 24, _, hop, _ => exact LW_24 h i0 iL hL hop
    | 25, _, hop, _ => exact LW_25 h i0 iL hL hop
    | 26, _, hop, _ => exact LW_26 h i0 iL hL hop
    | 27, _, hop, _ => exact LW_27 h i0 iL hL hop
    | 28, _, hop, _ => exact LW_28 h i0 iL hL hop
    | 29, _, hop, _ => exact LW_29 h i0 iL hL hop
    | 30, _, hop, _ => exact LW_30 h i0 iL hL hop hB
    | 31, _, hop, _ => exact LW_31 h i0 iL hL hop
    | 32, _, hop, _ => exact LW_32 h i0 iL hL hop
    | 33, _, hop, _ => exact LW_33 h i0 iL hL hop
    | 34, _, hop, _ => exact LW_34 h i0 iL hL hop
    | 35, _, hop, _ => exact LW_35 h i0 iL hL hop
    | n + 36, hn, _, _ => omega
  by_cases c : 0 ≤ am_and (μ 1000000 i.toNat) 63 ∧ am_and (μ 1000000 i.toNat) 63 ≤ 35
  · by_cases c4 : am_and (μ 1000000 i.toNat) 63 = 4
    · exact Or.inr (LW_4 i0 iL hL c4)
    · exact Or.inl (key (ho (am_and (μ 1000000 i.toNat) 63).toNat (by omega) (by omega) (by omega)))
  · exact Or.inl (key (LW_d h i0 iL hL c))
theorem LW_end {i : Int} (iL : ¬ i + 6 ≤ cs.2.2) (hL : cs.2.2 < 2147483648) : am_E (d + 301) 276 23 [some (.inr (.inr 1000000)), some (.inr (.inr 0)), some (.inr (.inr 99)), some (.inr (.inr 141)), some (.inl i), none, none] [] (SH, ρ, μ, cs) = some (some (.inl 1), (SH, ρ, μ, cs)) := by
  have hlk := lnk_24 hL
  have w6 : ((cs.2.2 : Nat) : Int) - 6 < i := by omega
  rw [e276_23]; simp (disch := omega) only [ite_self, Bool.false_eq_true, eq_self, isk_t, i20_t, w20_t, l23_t, b21_t, b22_t, w_t, bif_t, bif_f, bif_d, if_pos, if_neg, if_true, if_false, not_true_eq_false, not_false_eq_true, Option.bind_some, Option.toList_some, Option.toList_none, List.cons_append, List.nil_append, Int.toNat_natCast, Int.reduceToNat, up_eq, up_p, up_k, sN,  ks_S, hlk, w6 ]
  all_goals rfl
end LOT
