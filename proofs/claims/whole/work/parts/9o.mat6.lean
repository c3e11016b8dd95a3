/-! MATCH: the class's table, whole -/
section MX2
variable {ρ : Nat → Nat → Nat} {μ : Nat → Nat → Int} {cs : Nat × Nat × Nat} {d : Nat} {wb : Nat → Nat}
theorem X_tab2 (hx : XM ρ) (hw7 : ∀ t, wb t < 128) {t : Nat} (ht : t < 6) : ∀ (n k : Nat) (μ : Nat → Nat → Int), k + n = 128 → TBL wb μ (t + 1) → μ 95 t = (wb t : Int) → (∀ i, i < k → μ 97 (128 * t + i) = ((gM wb (6 - t) t i : Nat) : Int)) → ∃ μ1, (∀ q i, ¬ (q = 97) → μ1 q i = μ q i) ∧ TBL wb μ1 t ∧ ∀ res, am_E d 111 28 [some (.inr (.inr 0)), some (.inl ((t : Int) - 1)), none, none, none, none, none] [] (SH, ρ, μ1, cs) = some res → am_E d 111 34 [some (.inr (.inr 0)), some (.inl (t : Int)), some (.inl (k : Int)), none, none, none, none] [] (SH, ρ, μ, cs) = some res := by
  intro n
  induction n with
  | zero =>
    intro k μ hk hT hv h
    have hk' : k = 128 := by omega
    subst hk'
    refine ⟨μ, fun _ _ _ => rfl, fun t' k h0 h1 h2 => ?_, fun res hr => ?_⟩
    · by_cases e : t' = t
      · subst e; exact h k h2
      · exact hT t' k (by omega) h1 h2
    · have e3 : (t : Int) + -1 = (t : Int) - 1 := rfl
      rw [e111_34]; simp (disch := omega) only [xk_0, xk_1, xk_40, xk_41, xk_42, xk_43, xk_44, xk_45, xk_46, xk_47, xk_48, xk_49, xk_50, xk_51, xk_52, xk_53, xk_54, xk_55, xk_56, xk_57, xk_58, xk_59, xk_60, xk_61, xk_62, xk_63, xk_64, xk_65, xk_66, xk_67, xk_68, xk_69, xk_70, xk_71, xk_72, xk_73, xk_74, xk_75, xk_76, xk_77, xk_78, xk_79, xk_80, xk_81, xk_82, xk_83, xk_84, xk_85, xk_86, xk_87, xk_88, xk_89, xk_90, xk_91, xk_92, xk_93, xk_94, xk_95, xk_96, xk_97, xk_98, xm_0_0 hx, xm_0_10 hx, xm_0_11 hx, xm_0_12 hx, xm_0_13 hx, xm_0_14 hx, xm_0_15 hx, xm_0_2 hx, xm_0_9 hx, xm_40_0 hx, xm_40_1 hx, xm_41_0 hx, xm_44_0 hx, xm_44_1 hx, xm_73_4 hx, xm_73_5 hx, xm_73_6 hx, xm_77_1 hx, xm_77_2 hx, xm_77_3 hx, xm_77_4 hx, xm_77_5 hx, xm_77_6 hx, xm_77_7 hx, xm_77_8 hx, xm_77_9 hx, xm_87_2 hx, xm_87_3 hx, xm_87_4 hx, xm_87_5 hx, xm_87_6 hx, xm_87_7 hx, xm_87_8 hx, ite_self, Bool.false_eq_true, eq_self, isk_t, i20_t, w20_t, l23_t, b21_t, b22_t, w_t, bif_t, bif_f, bif_d, if_pos, if_neg, if_true, if_false, not_true_eq_false, not_false_eq_true, Option.bind_some, Option.toList_some, Option.toList_none, List.cons_append, List.nil_append, Int.toNat_natCast, Int.reduceToNat, up_eq, up_p, up_k, sN,  e3 ]
      exact am_E_le (am_lq_of _ _ (by simp [am_leb])) hr
  | succ n ih =>
    intro k μ hk hT hv h
    have e1 : ((k + 1 : Nat) : Int) = (k : Int) + 1 := by omega
    obtain ⟨μ1, f1, f2, f3⟩ := ih (k + 1) (am_up μ 97 (128 * t + k) ((gM wb (6 - t) t k : Nat) : Int)) (by omega) (fun t' k' h0 h1 h2 => by rw [up_k (by omega)]; exact hT t' k' h0 h1 h2) (by rw [up_p (by omega)]; exact hv) (fun i hi => by
      by_cases e : i = k
      · subst e; exact up_eq ..
      · rw [up_k (by omega)]; exact h i (by omega))
    refine ⟨μ1, fun q i hq => by rw [f1 q i hq, up_p hq], f2, fun res hr => ?_⟩
    have j := f3 res hr
    rw [e1] at j
    have hb := hT (t + 1) k (by omega) (by omega) (by omega)
    rw [show 6 - (t + 1) = 5 - t by omega] at hb
    have hw := hw7 t
    have e4 := and_not7 (wb t) hw k (by omega)
    have e7 : (((t : Int) + 1) * 128 + (k : Int)).toNat = 128 * (t + 1) + k := by omega
    have e6 : ((t : Int) * 128 + (k : Int)).toNat = 128 * t + k := by omega
    have g1 : am_E d 111 34 [some (.inr (.inr 0)), some (.inl (t : Int)), some (.inl (k : Int)), none, none, none, none] [] (SH, ρ, μ, cs) = am_E d 111 71 [some (.inr (.inr 0)), some (.inl (t : Int)), some (.inl (k : Int)), some (.inl ((gM wb (5 - t) (t + 1) k : Nat) : Int)), some (.inl ((wb t &&& (127 ^^^ k) : Nat) : Int)), some (.inl 0), none] [] (SH, ρ, μ, cs) := by
      clear j f3 hr
      rw [e111_34]; simp (disch := omega) only [xk_0, xk_1, xk_40, xk_41, xk_42, xk_43, xk_44, xk_45, xk_46, xk_47, xk_48, xk_49, xk_50, xk_51, xk_52, xk_53, xk_54, xk_55, xk_56, xk_57, xk_58, xk_59, xk_60, xk_61, xk_62, xk_63, xk_64, xk_65, xk_66, xk_67, xk_68, xk_69, xk_70, xk_71, xk_72, xk_73, xk_74, xk_75, xk_76, xk_77, xk_78, xk_79, xk_80, xk_81, xk_82, xk_83, xk_84, xk_85, xk_86, xk_87, xk_88, xk_89, xk_90, xk_91, xk_92, xk_93, xk_94, xk_95, xk_96, xk_97, xk_98, xm_0_0 hx, xm_0_10 hx, xm_0_11 hx, xm_0_12 hx, xm_0_13 hx, xm_0_14 hx, xm_0_15 hx, xm_0_2 hx, xm_0_9 hx, xm_40_0 hx, xm_40_1 hx, xm_41_0 hx, xm_44_0 hx, xm_44_1 hx, xm_73_4 hx, xm_73_5 hx, xm_73_6 hx, xm_77_1 hx, xm_77_2 hx, xm_77_3 hx, xm_77_4 hx, xm_77_5 hx, xm_77_6 hx, xm_77_7 hx, xm_77_8 hx, xm_77_9 hx, xm_87_2 hx, xm_87_3 hx, xm_87_4 hx, xm_87_5 hx, xm_87_6 hx, xm_87_7 hx, xm_87_8 hx, ite_self, Bool.false_eq_true, eq_self, isk_t, i20_t, w20_t, l23_t, b21_t, b22_t, w_t, bif_t, bif_f, bif_d, if_pos, if_neg, if_true, if_false, not_true_eq_false, not_false_eq_true, Option.bind_some, Option.toList_some, Option.toList_none, List.cons_append, List.nil_append, Int.toNat_natCast, Int.reduceToNat, up_eq, up_p, up_k, sN,  e7, hb, hv, e4 ]
    rw [g1]
    clear g1
    by_cases c : wb t &&& (127 ^^^ k) = 0
    · have eG : gM wb (6 - t) t k = gM wb (5 - t) (t + 1) k := by
        rw [show 6 - t = (5 - t) + 1 by omega]
        refine gMx_no (fun x hx => ?_) 7 (Nat.le_refl 7)
        rw [← an_bit hx, c]
        simp
      rw [eG] at j
      have e0 : ((wb t &&& (127 ^^^ k) : Nat) : Int) = 0 := by omega
      rw [e0]
      clear f3 hr
      rw [e111_71]; simp (disch := omega) only [xk_0, xk_1, xk_40, xk_41, xk_42, xk_43, xk_44, xk_45, xk_46, xk_47, xk_48, xk_49, xk_50, xk_51, xk_52, xk_53, xk_54, xk_55, xk_56, xk_57, xk_58, xk_59, xk_60, xk_61, xk_62, xk_63, xk_64, xk_65, xk_66, xk_67, xk_68, xk_69, xk_70, xk_71, xk_72, xk_73, xk_74, xk_75, xk_76, xk_77, xk_78, xk_79, xk_80, xk_81, xk_82, xk_83, xk_84, xk_85, xk_86, xk_87, xk_88, xk_89, xk_90, xk_91, xk_92, xk_93, xk_94, xk_95, xk_96, xk_97, xk_98, xm_0_0 hx, xm_0_10 hx, xm_0_11 hx, xm_0_12 hx, xm_0_13 hx, xm_0_14 hx, xm_0_15 hx, xm_0_2 hx, xm_0_9 hx, xm_40_0 hx, xm_40_1 hx, xm_41_0 hx, xm_44_0 hx, xm_44_1 hx, xm_73_4 hx, xm_73_5 hx, xm_73_6 hx, xm_77_1 hx, xm_77_2 hx, xm_77_3 hx, xm_77_4 hx, xm_77_5 hx, xm_77_6 hx, xm_77_7 hx, xm_77_8 hx, xm_77_9 hx, xm_87_2 hx, xm_87_3 hx, xm_87_4 hx, xm_87_5 hx, xm_87_6 hx, xm_87_7 hx, xm_87_8 hx, ite_self, Bool.false_eq_true, eq_self, isk_t, i20_t, w20_t, l23_t, b21_t, b22_t, w_t, bif_t, bif_f, bif_d, if_pos, if_neg, if_true, if_false, not_true_eq_false, not_false_eq_true, Option.bind_some, Option.toList_some, Option.toList_none, List.cons_append, List.nil_append, Int.toNat_natCast, Int.reduceToNat, up_eq, up_p, up_k, sN,  e6 ]
      exact am_E_le (am_lq_of _ _ (by simp [am_leb])) j
    · exact X_tab1 hx hw7 ht (by omega) hT c j 7 0 (by omega)
theorem X_tab3 (hx : XM ρ) (hw7 : ∀ t, wb t < 128) : ∀ (n : Nat) (μ : Nat → Nat → Int), n ≤ 6 → TBL wb μ n → (∀ i, i < 6 → μ 95 i = (wb i : Int)) → ∃ μ1, (∀ q i, ¬ (q = 97) → μ1 q i = μ q i) ∧ TBL wb μ1 0 ∧ am_E d 111 28 [some (.inr (.inr 0)), some (.inl ((n : Int) - 1)), none, none, none, none, none] [] (SH, ρ, μ, cs) = some (none, (SH, ρ, μ1, cs)) := by
  intro n
  induction n with
  | zero =>
    intro μ hn hT hv
    refine ⟨μ, fun _ _ _ => rfl, hT, ?_⟩
    rw [e111_28]; simp (disch := omega) only [xk_0, xk_1, xk_40, xk_41, xk_42, xk_43, xk_44, xk_45, xk_46, xk_47, xk_48, xk_49, xk_50, xk_51, xk_52, xk_53, xk_54, xk_55, xk_56, xk_57, xk_58, xk_59, xk_60, xk_61, xk_62, xk_63, xk_64, xk_65, xk_66, xk_67, xk_68, xk_69, xk_70, xk_71, xk_72, xk_73, xk_74, xk_75, xk_76, xk_77, xk_78, xk_79, xk_80, xk_81, xk_82, xk_83, xk_84, xk_85, xk_86, xk_87, xk_88, xk_89, xk_90, xk_91, xk_92, xk_93, xk_94, xk_95, xk_96, xk_97, xk_98, xm_0_0 hx, xm_0_10 hx, xm_0_11 hx, xm_0_12 hx, xm_0_13 hx, xm_0_14 hx, xm_0_15 hx, xm_0_2 hx, xm_0_9 hx, xm_40_0 hx, xm_40_1 hx, xm_41_0 hx, xm_44_0 hx, xm_44_1 hx, xm_73_4 hx, xm_73_5 hx, xm_73_6 hx, xm_77_1 hx, xm_77_2 hx, xm_77_3 hx, xm_77_4 hx, xm_77_5 hx, xm_77_6 hx, xm_77_7 hx, xm_77_8 hx, xm_77_9 hx, xm_87_2 hx, xm_87_3 hx, xm_87_4 hx, xm_87_5 hx, xm_87_6 hx, xm_87_7 hx, xm_87_8 hx, ite_self, Bool.false_eq_true, eq_self, isk_t, i20_t, w20_t, l23_t, b21_t, b22_t, w_t, bif_t, bif_f, bif_d, if_pos, if_neg, if_true, if_false, not_true_eq_false, not_false_eq_true, Option.bind_some, Option.toList_some, Option.toList_none, List.cons_append, List.nil_append, Int.toNat_natCast, Int.reduceToNat, up_eq, up_p, up_k, sN]
  | succ n ih =>
    intro μ hn hT hv
    obtain ⟨μ1, f1, f2, f3⟩ := X_tab2 (ρ := ρ) (cs := cs) (d := d) hx hw7 (t := n) (by omega) 128 0 μ (by omega) hT (hv n (by omega)) (fun i hi => by omega)
    obtain ⟨μ2, k1, k2, k3⟩ := ih μ1 (by omega) f2 (fun i hi => by rw [f1 _ _ (by omega)]; exact hv i hi)
    refine ⟨μ2, fun q i hq => by rw [k1 q i hq, f1 q i hq], k2, ?_⟩
    have j := f3 _ k3
    have e0 : ((0 : Nat) : Int) = 0 := rfl
    rw [e0] at j
    rw [← j, show ((n + 1 : Nat) : Int) - 1 = (n : Int) by omega]
    clear j k3 f3 ih
    rw [e111_28]; simp (disch := omega) only [xk_0, xk_1, xk_40, xk_41, xk_42, xk_43, xk_44, xk_45, xk_46, xk_47, xk_48, xk_49, xk_50, xk_51, xk_52, xk_53, xk_54, xk_55, xk_56, xk_57, xk_58, xk_59, xk_60, xk_61, xk_62, xk_63, xk_64, xk_65, xk_66, xk_67, xk_68, xk_69, xk_70, xk_71, xk_72, xk_73, xk_74, xk_75, xk_76, xk_77, xk_78, xk_79, xk_80, xk_81, xk_82, xk_83, xk_84, xk_85, xk_86, xk_87, xk_88, xk_89, xk_90, xk_91, xk_92, xk_93, xk_94, xk_95, xk_96, xk_97, xk_98, xm_0_0 hx, xm_0_10 hx, xm_0_11 hx, xm_0_12 hx, xm_0_13 hx, xm_0_14 hx, xm_0_15 hx, xm_0_2 hx, xm_0_9 hx, xm_40_0 hx, xm_40_1 hx, xm_41_0 hx, xm_44_0 hx, xm_44_1 hx, xm_73_4 hx, xm_73_5 hx, xm_73_6 hx, xm_77_1 hx, xm_77_2 hx, xm_77_3 hx, xm_77_4 hx, xm_77_5 hx, xm_77_6 hx, xm_77_7 hx, xm_77_8 hx, xm_77_9 hx, xm_87_2 hx, xm_87_3 hx, xm_87_4 hx, xm_87_5 hx, xm_87_6 hx, xm_87_7 hx, xm_87_8 hx, ite_self, Bool.false_eq_true, eq_self, isk_t, i20_t, w20_t, l23_t, b21_t, b22_t, w_t, bif_t, bif_f, bif_d, if_pos, if_neg, if_true, if_false, not_true_eq_false, not_false_eq_true, Option.bind_some, Option.toList_some, Option.toList_none, List.cons_append, List.nil_append, Int.toNat_natCast, Int.reduceToNat, up_eq, up_p, up_k, sN]
theorem X_table (hx : XM ρ) (hw7 : ∀ t, wb t < 128) (hv : ∀ i, i < 6 → μ 95 i = (wb i : Int)) : ∃ μ1, (∀ q i, ¬ (q = 97) → μ1 q i = μ q i) ∧ TBL wb μ1 0 ∧ am_E d 111 0 [some (.inr (.inr 0)), none, none, none, none, none, none] [] (SH, ρ, μ, cs) = some (none, (SH, ρ, μ1, cs)) := by
  obtain ⟨μ1, f1, f2, f3⟩ := X_tab0 (ρ := ρ) (cs := cs) (d := d) (wb := wb) hx 128 0 μ (by omega) (fun i hi => by omega)
  obtain ⟨μ2, k1, k2, k3⟩ := X_tab3 (ρ := ρ) (cs := cs) (d := d) hx hw7 6 μ1 (Nat.le_refl 6) f2 (fun i hi => by rw [f1 _ _ (by omega)]; exact hv i hi)
  refine ⟨μ2, fun q i hq => by rw [k1 q i hq, f1 q i hq], k2, ?_⟩
  rw [e111_0]
  exact f3.trans k3
end MX2
