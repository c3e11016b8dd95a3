/-! TEXT: how the class begins to read -/
section XTX
variable {ρ : Nat → Nat → Nat} {μ : Nat → Nat → Int} {cs : Nat × Nat × Nat} {d n c : Nat} {b : Nat → Int} {Z : MS}
def FC (c : Nat) (μ μ' : Nat → Nat → Int) : Prop := ∀ q k, ¬ (c ≤ q ∧ q < c + 19) → μ' q k = μ q k
theorem X_lws (hx : XM ρ) (hb : c = 2 ∨ c = 21) : ∀ (m i : Nat) (μ : Nat → Nat → Int), i + m = 3 → ∃ μ', (∀ q k, ¬ ((q = c + 17 ∨ q = c + 18) ∧ i ≤ k ∧ k < 3) → μ' q k = μ q k) ∧ (∀ k, i ≤ k → k < 3 → μ' (c + 17) k = 0 ∧ μ' (c + 18) k = 0) ∧ ∀ d, am_E d 31 12 [some (.inr (.inr (c + 14))), some (.inl (i : Int))] [] (SH, ρ, μ, cs) = some (none, (SH, ρ, μ', cs)) := by
  intro m
  induction m with
  | zero =>
    intro i μ hi
    refine ⟨μ, fun _ _ _ => rfl, fun k h0 h1 => by omega, fun d => ?_⟩
    have e : (3 : Int) ≤ (i : Int) := by omega
    rw [e31_12]; simp (disch := omega) only [xk_0, xk_1, xk_40, xk_41, xk_42, xk_43, xk_44, xk_45, xk_46, xk_47, xk_48, xk_49, xk_50, xk_51, xk_52, xk_53, xk_54, xk_55, xk_56, xk_57, xk_58, xk_59, xk_60, xk_61, xk_62, xk_63, xk_64, xk_65, xk_66, xk_67, xk_68, xk_69, xk_70, xk_71, xk_72, xk_73, xk_74, xk_75, xk_76, xk_77, xk_78, xk_79, xk_80, xk_81, xk_82, xk_83, xk_84, xk_85, xk_86, xk_87, xk_88, xk_89, xk_90, xk_91, xk_92, xk_93, xk_94, xk_95, xk_96, xk_97, xk_98, xk_st0 hb, xk_st1 hb, xk_st10 hb, xk_st11 hb, xk_st12 hb, xk_st13 hb, xk_st14 hb, xk_st15 hb, xk_st16 hb, xk_st17 hb, xk_st18 hb, xk_st2 hb, xk_st3 hb, xk_st4 hb, xk_st5 hb, xk_st6 hb, xk_st7 hb, xk_st8 hb, xk_st9 hb, xm_0_0 hx, xm_0_10 hx, xm_0_11 hx, xm_0_12 hx, xm_0_13 hx, xm_0_14 hx, xm_0_15 hx, xm_0_2 hx, xm_0_9 hx, xm_40_0 hx, xm_40_1 hx, xm_41_0 hx, xm_44_0 hx, xm_44_1 hx, xm_73_4 hx, xm_73_5 hx, xm_73_6 hx, xm_77_1 hx, xm_77_2 hx, xm_77_3 hx, xm_77_4 hx, xm_77_5 hx, xm_77_6 hx, xm_77_7 hx, xm_77_8 hx, xm_77_9 hx, xm_87_2 hx, xm_87_3 hx, xm_87_4 hx, xm_87_5 hx, xm_87_6 hx, xm_87_7 hx, xm_87_8 hx, xm_lw2 hx hb, xm_lw3 hx hb, xm_lw4 hx hb, xm_lw5 hx hb, xm_st1 hx hb, xm_st10 hx hb, xm_st11 hx hb, xm_st13 hx hb, xm_st14 hx hb, xm_st15 hx hb, xm_st16 hx hb, xm_st17 hx hb, xm_st2 hx hb, xm_st4 hx hb, xm_st5 hx hb, xm_st6 hx hb, xm_st7 hx hb, xm_st9 hx hb, ite_self, Bool.false_eq_true, eq_self, isk_t, i20_t, w20_t, l23_t, b21_t, b22_t, w_t, bif_t, bif_f, bif_d, if_pos, if_neg, if_true, if_false, not_true_eq_false, not_false_eq_true, Option.bind_some, Option.toList_some, Option.toList_none, List.cons_append, List.nil_append, Int.toNat_natCast, Int.reduceToNat, up_eq, up_p, up_k, sN,  e ]
  | succ m ih =>
    intro i μ hi
    obtain ⟨μ', f1, f2, f3⟩ := ih (i + 1) (am_up (am_up μ (c + 17) i 0) (c + 18) i 0) (by omega)
    refine ⟨μ', fun p k hk => ?_, fun k h0 h1 => ?_, fun d => ?_⟩
    · rw [f1 p k (by omega), am_up_no (by omega), am_up_no (by omega)]
    · by_cases e : k = i
      · subst e
        rw [f1 _ _ (by omega), f1 _ _ (by omega), up_p (by omega), up_eq, up_eq]
        exact ⟨rfl, rfl⟩
      · exact f2 k (by omega) h1
    · have e2 : ((i + 1 : Nat) : Int) = (i : Int) + 1 := by omega
      have f3 := f3 d
      rw [e2] at f3
      have e : ¬ (3 : Int) ≤ (i : Int) := by omega
      rw [e31_12]; simp (disch := omega) only [xk_0, xk_1, xk_40, xk_41, xk_42, xk_43, xk_44, xk_45, xk_46, xk_47, xk_48, xk_49, xk_50, xk_51, xk_52, xk_53, xk_54, xk_55, xk_56, xk_57, xk_58, xk_59, xk_60, xk_61, xk_62, xk_63, xk_64, xk_65, xk_66, xk_67, xk_68, xk_69, xk_70, xk_71, xk_72, xk_73, xk_74, xk_75, xk_76, xk_77, xk_78, xk_79, xk_80, xk_81, xk_82, xk_83, xk_84, xk_85, xk_86, xk_87, xk_88, xk_89, xk_90, xk_91, xk_92, xk_93, xk_94, xk_95, xk_96, xk_97, xk_98, xk_st0 hb, xk_st1 hb, xk_st10 hb, xk_st11 hb, xk_st12 hb, xk_st13 hb, xk_st14 hb, xk_st15 hb, xk_st16 hb, xk_st17 hb, xk_st18 hb, xk_st2 hb, xk_st3 hb, xk_st4 hb, xk_st5 hb, xk_st6 hb, xk_st7 hb, xk_st8 hb, xk_st9 hb, xm_0_0 hx, xm_0_10 hx, xm_0_11 hx, xm_0_12 hx, xm_0_13 hx, xm_0_14 hx, xm_0_15 hx, xm_0_2 hx, xm_0_9 hx, xm_40_0 hx, xm_40_1 hx, xm_41_0 hx, xm_44_0 hx, xm_44_1 hx, xm_73_4 hx, xm_73_5 hx, xm_73_6 hx, xm_77_1 hx, xm_77_2 hx, xm_77_3 hx, xm_77_4 hx, xm_77_5 hx, xm_77_6 hx, xm_77_7 hx, xm_77_8 hx, xm_77_9 hx, xm_87_2 hx, xm_87_3 hx, xm_87_4 hx, xm_87_5 hx, xm_87_6 hx, xm_87_7 hx, xm_87_8 hx, xm_lw2 hx hb, xm_lw3 hx hb, xm_lw4 hx hb, xm_lw5 hx hb, xm_st1 hx hb, xm_st10 hx hb, xm_st11 hx hb, xm_st13 hx hb, xm_st14 hx hb, xm_st15 hx hb, xm_st16 hx hb, xm_st17 hx hb, xm_st2 hx hb, xm_st4 hx hb, xm_st5 hx hb, xm_st6 hx hb, xm_st7 hx hb, xm_st9 hx hb, ite_self, Bool.false_eq_true, eq_self, isk_t, i20_t, w20_t, l23_t, b21_t, b22_t, w_t, bif_t, bif_f, bif_d, if_pos, if_neg, if_true, if_false, not_true_eq_false, not_false_eq_true, Option.bind_some, Option.toList_some, Option.toList_none, List.cons_append, List.nil_append, Int.toNat_natCast, Int.reduceToNat, up_eq, up_p, up_k, sN,  e, f3 ]
theorem X_empty (hx : XM ρ) (hb : c = 2 ∨ c = 21) (hc : μ 1000001 0 = 1 ∧ μ 1000001 1 = 9 ∧ μ 1000001 2 = 100 ∧ μ 1000001 3 = 0) : ∃ μ', FC c μ μ' ∧ (∀ Z, XS μ' c (zt Z)) ∧ μ' (c + 14) 1 = 0 ∧ am_E (d + 1) 57 0 [some (.inr (.inr c))] [] (SH, ρ, μ, cs) = some (none, (SH, ρ, μ', cs)) := by
  obtain ⟨μ', f1, f2, f3⟩ := X_lws (ρ := ρ) (cs := cs) hx hb 3 0 (am_up (am_up (am_cp (am_up (am_up (am_up (am_up μ c 0 0) c 3 0) c 8 0) c 12 0) 1000001 (c + 13) 0 0 4) (c + 14) 0 0) (c + 14) 1 0) (by omega)
  have f3 : ∀ d, am_E d 31 12 [some (.inr (.inr (c + 14))), some (.inl 0)] [] (SH, ρ, am_up (am_up (am_cp (am_up (am_up (am_up (am_up μ c 0 0) c 3 0) c 8 0) c 12 0) 1000001 (c + 13) 0 0 4) (c + 14) 0 0) (c + 14) 1 0, cs) = some (none, (SH, ρ, μ', cs)) := f3
  have g : ∀ k, k < 4 → μ' (c + 13) k = μ 1000001 k := fun k hk => by
    rw [f1 _ _ (by omega), up_p (by omega), up_p (by omega), cp_in hk]
    simp (disch := omega) only [up_p]
  have g0 : ∀ k, k = 0 ∨ k = 3 ∨ k = 8 ∨ k = 12 → μ' c k = 0 := fun k hk => by
    rw [f1 _ _ (by omega), up_p (by omega), up_p (by omega), cp_out (by omega)]
    rcases hk with rfl | rfl | rfl | rfl <;> simp (disch := omega) only [up_k, up_eq]
  have g14 : μ' (c + 14) 0 = 0 := by rw [f1 _ _ (by omega), up_k (by omega), up_eq]
  refine ⟨μ', fun q k hk => ?_, fun Z => ?_, ?_, ?_⟩
  · rw [f1 _ _ (by omega), up_p (by omega), up_p (by omega), cp_out (by omega)]
    simp (disch := omega) only [up_p]
  · have e : ∀ k : Nat, k < 10 → zt Z 0 (k : Int) = dfl k := fun k hk => by rw [zt_0 (by omega), Int.toNat_natCast]
    have e0 : zt Z 0 0 = 0 := e 0 (by omega)
    have e1 : zt Z 0 1 = 0 := e 1 (by omega)
    have e3 : zt Z 0 3 = 0 := e 3 (by omega)
    have e4 : zt Z 0 4 = 0 := e 4 (by omega)
    have e5 : zt Z 0 5 = 1 := e 5 (by omega)
    have e6 : zt Z 0 6 = 9 := e 6 (by omega)
    have e7 : zt Z 0 7 = 100 := e 7 (by omega)
    have e8 : zt Z 0 8 = 0 := e 8 (by omega)
    have e9 : zt Z 0 9 = 0 := e 9 (by omega)
    have z14 : ∀ r : Int, r < 3 → zt Z 14 r = 0 ∧ zt Z 15 r = 0 := fun r hr => zt_14 (by omega)
    refine ⟨⟨?_, ?_, ?_, ?_⟩, ⟨?_, ?_, ?_, ?_, ?_⟩, fun k h0 h1 => by omega, fun k h0 h1 => by omega, fun k h0 h1 => by omega, fun k h0 h1 => by omega, fun r h0 h1 => ?_, fun r k h0 h1 h2 h3 => ?_⟩
    · rw [e0]; exact g0 0 (by omega)
    · rw [e1]; exact g0 3 (by omega)
    · rw [e3]; exact g0 8 (by omega)
    · rw [e4]; exact g0 12 (by omega)
    · rw [e5, g 0 (by omega)]; exact hc.1
    · rw [e6, g 1 (by omega)]; exact hc.2.1
    · rw [e7, g 2 (by omega)]; exact hc.2.2.1
    · rw [e8, g 3 (by omega)]; exact hc.2.2.2
    · rw [e9]; exact g14
    · rw [(z14 r h1).1, (z14 r h1).2]; exact f2 r.toNat (by omega) (by omega)
    · have := z14 r h1; omega
  · rw [f1 _ _ (by omega), up_eq]
  · have e1 : am_cpk (24, 4) (20, 4) 0 0 ((4 : Nat) : Int) = true := rfl
    have e2 : am_lnk (20, 4) = true := rfl
    have e3 : ∀ L, am_ks SH L 1000001 = (24, 4) := fun L => rfl
    simp (disch := omega) only [e57_0, e57_37, e57_44, e31_0, xk_0, xk_1, xk_40, xk_41, xk_42, xk_43, xk_44, xk_45, xk_46, xk_47, xk_48, xk_49, xk_50, xk_51, xk_52, xk_53, xk_54, xk_55, xk_56, xk_57, xk_58, xk_59, xk_60, xk_61, xk_62, xk_63, xk_64, xk_65, xk_66, xk_67, xk_68, xk_69, xk_70, xk_71, xk_72, xk_73, xk_74, xk_75, xk_76, xk_77, xk_78, xk_79, xk_80, xk_81, xk_82, xk_83, xk_84, xk_85, xk_86, xk_87, xk_88, xk_89, xk_90, xk_91, xk_92, xk_93, xk_94, xk_95, xk_96, xk_97, xk_98, xk_st0 hb, xk_st1 hb, xk_st10 hb, xk_st11 hb, xk_st12 hb, xk_st13 hb, xk_st14 hb, xk_st15 hb, xk_st16 hb, xk_st17 hb, xk_st18 hb, xk_st2 hb, xk_st3 hb, xk_st4 hb, xk_st5 hb, xk_st6 hb, xk_st7 hb, xk_st8 hb, xk_st9 hb, xm_0_0 hx, xm_0_10 hx, xm_0_11 hx, xm_0_12 hx, xm_0_13 hx, xm_0_14 hx, xm_0_15 hx, xm_0_2 hx, xm_0_9 hx, xm_40_0 hx, xm_40_1 hx, xm_41_0 hx, xm_44_0 hx, xm_44_1 hx, xm_73_4 hx, xm_73_5 hx, xm_73_6 hx, xm_77_1 hx, xm_77_2 hx, xm_77_3 hx, xm_77_4 hx, xm_77_5 hx, xm_77_6 hx, xm_77_7 hx, xm_77_8 hx, xm_77_9 hx, xm_87_2 hx, xm_87_3 hx, xm_87_4 hx, xm_87_5 hx, xm_87_6 hx, xm_87_7 hx, xm_87_8 hx, xm_lw2 hx hb, xm_lw3 hx hb, xm_lw4 hx hb, xm_lw5 hx hb, xm_st1 hx hb, xm_st10 hx hb, xm_st11 hx hb, xm_st13 hx hb, xm_st14 hx hb, xm_st15 hx hb, xm_st16 hx hb, xm_st17 hx hb, xm_st2 hx hb, xm_st4 hx hb, xm_st5 hx hb, xm_st6 hx hb, xm_st7 hx hb, xm_st9 hx hb, ite_self, Bool.false_eq_true, eq_self, isk_t, i20_t, w20_t, l23_t, b21_t, b22_t, w_t, bif_t, bif_f, bif_d, if_pos, if_neg, if_true, if_false, not_true_eq_false, not_false_eq_true, Option.bind_some, Option.toList_some, Option.toList_none, List.cons_append, List.nil_append, Int.toNat_natCast, Int.reduceToNat, up_eq, up_p, up_k, sN,  e1, e2, e3, f3 ]
end XTX
