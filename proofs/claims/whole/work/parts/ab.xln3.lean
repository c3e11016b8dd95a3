/-! TEXT: the class's lines, on -/
section XLP
variable {ρ : Nat → Nat → Nat} {μ : Nat → Nat → Int} {cs : Nat × Nat × Nat} {d n a c ts pk : Nat} {b : Nat → Int} {Z : MS}
theorem fx_o {μ' : Nat → Nat → Int} (h : ∀ q k, ¬ (q = 41 ∧ 3 ≤ k ∧ k ≤ 6) → ¬ (q = 40 ∧ k = 5) → μ' q k = μ q k) : FX c μ μ' := fun q k hq => h q k (by omega) (by omega)
theorem X_thing (hx : XM ρ) (hb : c = 2 ∨ c = 21) (hs : ρ 40 2 = c) (h : XTk ρ μ b n a) (hP : XP μ c Z ts) (hS : SI Z) (hk : μ 41 6 = (pk : Int)) : XLo ρ cs b n c ts μ (am_E (d + 4) 38 0 [some (.inr (.inr 40)), none, none] [] (SH, ρ, μ, cs)) (pThing b n Z pk a) := by
  obtain ⟨hX, h3, h4, h5, h6⟩ := hP
  have x0 := hX.1.2.1
  have b0 := hS.2.1
  unfold pThing
  by_cases c0 : 6 ≤ Z 0 1
  · rw [if_pos c0]
    refine ⟨μ, fx_rf c μ, hk, by simp, ?_⟩
    simp (disch := omega) only [e38_0, xk_0, xk_1, xk_40, xk_41, xk_42, xk_43, xk_44, xk_45, xk_46, xk_47, xk_48, xk_49, xk_50, xk_51, xk_52, xk_53, xk_54, xk_55, xk_56, xk_57, xk_58, xk_59, xk_60, xk_61, xk_62, xk_63, xk_64, xk_65, xk_66, xk_67, xk_68, xk_69, xk_70, xk_71, xk_72, xk_73, xk_74, xk_75, xk_76, xk_77, xk_78, xk_79, xk_80, xk_81, xk_82, xk_83, xk_84, xk_85, xk_86, xk_87, xk_88, xk_89, xk_90, xk_91, xk_92, xk_93, xk_94, xk_95, xk_96, xk_97, xk_98, xk_st0 hb, xk_st1 hb, xk_st10 hb, xk_st11 hb, xk_st12 hb, xk_st13 hb, xk_st14 hb, xk_st15 hb, xk_st16 hb, xk_st17 hb, xk_st18 hb, xk_st2 hb, xk_st3 hb, xk_st4 hb, xk_st5 hb, xk_st6 hb, xk_st7 hb, xk_st8 hb, xk_st9 hb, xm_0_0 hx, xm_0_10 hx, xm_0_11 hx, xm_0_12 hx, xm_0_13 hx, xm_0_14 hx, xm_0_15 hx, xm_0_2 hx, xm_0_9 hx, xm_40_0 hx, xm_40_1 hx, xm_41_0 hx, xm_44_0 hx, xm_44_1 hx, xm_73_4 hx, xm_73_5 hx, xm_73_6 hx, xm_77_1 hx, xm_77_2 hx, xm_77_3 hx, xm_77_4 hx, xm_77_5 hx, xm_77_6 hx, xm_77_7 hx, xm_77_8 hx, xm_77_9 hx, xm_87_2 hx, xm_87_3 hx, xm_87_4 hx, xm_87_5 hx, xm_87_6 hx, xm_87_7 hx, xm_87_8 hx, xm_lw2 hx hb, xm_lw3 hx hb, xm_lw4 hx hb, xm_lw5 hx hb, xm_st1 hx hb, xm_st10 hx hb, xm_st11 hx hb, xm_st13 hx hb, xm_st14 hx hb, xm_st15 hx hb, xm_st16 hx hb, xm_st17 hx hb, xm_st2 hx hb, xm_st4 hx hb, xm_st5 hx hb, xm_st6 hx hb, xm_st7 hx hb, xm_st9 hx hb, ite_self, Bool.false_eq_true, eq_self, isk_t, i20_t, w20_t, l23_t, b21_t, b22_t, w_t, bif_t, bif_f, bif_d, if_pos, if_neg, if_true, if_false, not_true_eq_false, not_false_eq_true, Option.bind_some, Option.toList_some, Option.toList_none, List.cons_append, List.nil_append, Int.toNat_natCast, Int.reduceToNat, up_eq, up_p, up_k, sN,  hs, x0 ]
  rw [if_neg c0]
  obtain ⟨i, hi⟩ := Int.eq_ofNat_of_zero_le b0.1
  have x0' : μ c 3 = (i : Int) := x0.trans hi
  have ei : (Z 0 1).toNat = i := by omega
  rw [ei]
  have en : nN b n (nmR Z 3) i a = nN b n (μ (c + 3)) i a := nN_c (fun j hj => by
    have := (hX.2.2.2.1 j (by omega) (by omega)).1
    rw [Int.toNat_natCast] at this
    exact this.symm)
  rw [en]
  have e44 : i < 6 := by omega
  obtain ⟨μ1, f1, f2, f3, f4⟩ := X_nN (d := d) (cs := cs) (c := i) (q := c + 3) hx h (xk_st3 (L := cs.2.2) hb) (by omega) (by omega) (by omega)
  cases hn : nN b n (μ (c + 3)) i a with
  | inl q =>
    rw [hn] at f2 f4
    have hne := nN_ne hn
    refine ⟨μ1, fx_ft f1, f2, hne, ?_⟩
    have f4 : am_E (d + 3) 44 0 [some (.inr (.inr 40)), some (.inr (.inr (c + 3))), some (.inl (i : Int))] [] (SH, ρ, μ, cs) = some (some (.inl q.1), (SH, ρ, μ1, cs)) := f4
    generalize q.1 = Q at *
    simp (disch := omega) only [e38_0, e38_28, xk_0, xk_1, xk_40, xk_41, xk_42, xk_43, xk_44, xk_45, xk_46, xk_47, xk_48, xk_49, xk_50, xk_51, xk_52, xk_53, xk_54, xk_55, xk_56, xk_57, xk_58, xk_59, xk_60, xk_61, xk_62, xk_63, xk_64, xk_65, xk_66, xk_67, xk_68, xk_69, xk_70, xk_71, xk_72, xk_73, xk_74, xk_75, xk_76, xk_77, xk_78, xk_79, xk_80, xk_81, xk_82, xk_83, xk_84, xk_85, xk_86, xk_87, xk_88, xk_89, xk_90, xk_91, xk_92, xk_93, xk_94, xk_95, xk_96, xk_97, xk_98, xk_st0 hb, xk_st1 hb, xk_st10 hb, xk_st11 hb, xk_st12 hb, xk_st13 hb, xk_st14 hb, xk_st15 hb, xk_st16 hb, xk_st17 hb, xk_st18 hb, xk_st2 hb, xk_st3 hb, xk_st4 hb, xk_st5 hb, xk_st6 hb, xk_st7 hb, xk_st8 hb, xk_st9 hb, xm_0_0 hx, xm_0_10 hx, xm_0_11 hx, xm_0_12 hx, xm_0_13 hx, xm_0_14 hx, xm_0_15 hx, xm_0_2 hx, xm_0_9 hx, xm_40_0 hx, xm_40_1 hx, xm_41_0 hx, xm_44_0 hx, xm_44_1 hx, xm_73_4 hx, xm_73_5 hx, xm_73_6 hx, xm_77_1 hx, xm_77_2 hx, xm_77_3 hx, xm_77_4 hx, xm_77_5 hx, xm_77_6 hx, xm_77_7 hx, xm_77_8 hx, xm_77_9 hx, xm_87_2 hx, xm_87_3 hx, xm_87_4 hx, xm_87_5 hx, xm_87_6 hx, xm_87_7 hx, xm_87_8 hx, xm_lw2 hx hb, xm_lw3 hx hb, xm_lw4 hx hb, xm_lw5 hx hb, xm_st1 hx hb, xm_st10 hx hb, xm_st11 hx hb, xm_st13 hx hb, xm_st14 hx hb, xm_st15 hx hb, xm_st16 hx hb, xm_st17 hx hb, xm_st2 hx hb, xm_st4 hx hb, xm_st5 hx hb, xm_st6 hx hb, xm_st7 hx hb, xm_st9 hx hb, ite_self, Bool.false_eq_true, eq_self, isk_t, i20_t, w20_t, l23_t, b21_t, b22_t, w_t, bif_t, bif_f, bif_d, if_pos, if_neg, if_true, if_false, not_true_eq_false, not_false_eq_true, Option.bind_some, Option.toList_some, Option.toList_none, List.cons_append, List.nil_append, Int.toNat_natCast, Int.reduceToNat, up_eq, up_p, up_k, sN,  hs, x0', f4 ]
  | inr q =>
    rw [hn] at f2 f4
    have f3 := f3 q hn
    have f2 : XTk ρ μ1 b n q.2 := f2
    have f4 : am_E (d + 3) 44 0 [some (.inr (.inr 40)), some (.inr (.inr (c + 3))), some (.inl (i : Int))] [] (SH, ρ, μ, cs) = some (some (.inl 0), (SH, ρ, μ1, cs)) := f4
    show XLo ρ cs b n c ts μ _ (bnd (nU b n 0 99 q.2) _)
    obtain ⟨μ2, g1, g2, g3, g4⟩ := X_nU (d := d) (cs := cs) (lo := 0) (hi := 99) hx (xt_up (q := c + 3) (k := i) (v := μ1 41 5) f2 (by omega)) (by omega) (by omega) (by omega)
    have fr2 : FX c μ μ2 := fx_tr (fx_up (fx_ft f1) (by omega)) (fx_ft g1)
    cases hm : nU b n 0 99 q.2 with
    | inl y =>
      rw [hm] at g2 g4
      have hne := nU_ne hm
      refine ⟨μ2, fr2, g2, hne, ?_⟩
      have g4 : am_E (d + 3) 46 0 [some (.inr (.inr 40)), some (.inl 0), some (.inl 99)] [] (SH, ρ, am_up μ1 (c + 3) i (μ1 41 5), cs) = some (some (.inl y.1), (SH, ρ, μ2, cs)) := g4
      generalize y.1 = Q at *
      simp (disch := omega) only [e38_0, e38_28, e38_56, xk_0, xk_1, xk_40, xk_41, xk_42, xk_43, xk_44, xk_45, xk_46, xk_47, xk_48, xk_49, xk_50, xk_51, xk_52, xk_53, xk_54, xk_55, xk_56, xk_57, xk_58, xk_59, xk_60, xk_61, xk_62, xk_63, xk_64, xk_65, xk_66, xk_67, xk_68, xk_69, xk_70, xk_71, xk_72, xk_73, xk_74, xk_75, xk_76, xk_77, xk_78, xk_79, xk_80, xk_81, xk_82, xk_83, xk_84, xk_85, xk_86, xk_87, xk_88, xk_89, xk_90, xk_91, xk_92, xk_93, xk_94, xk_95, xk_96, xk_97, xk_98, xk_st0 hb, xk_st1 hb, xk_st10 hb, xk_st11 hb, xk_st12 hb, xk_st13 hb, xk_st14 hb, xk_st15 hb, xk_st16 hb, xk_st17 hb, xk_st18 hb, xk_st2 hb, xk_st3 hb, xk_st4 hb, xk_st5 hb, xk_st6 hb, xk_st7 hb, xk_st8 hb, xk_st9 hb, xm_0_0 hx, xm_0_10 hx, xm_0_11 hx, xm_0_12 hx, xm_0_13 hx, xm_0_14 hx, xm_0_15 hx, xm_0_2 hx, xm_0_9 hx, xm_40_0 hx, xm_40_1 hx, xm_41_0 hx, xm_44_0 hx, xm_44_1 hx, xm_73_4 hx, xm_73_5 hx, xm_73_6 hx, xm_77_1 hx, xm_77_2 hx, xm_77_3 hx, xm_77_4 hx, xm_77_5 hx, xm_77_6 hx, xm_77_7 hx, xm_77_8 hx, xm_77_9 hx, xm_87_2 hx, xm_87_3 hx, xm_87_4 hx, xm_87_5 hx, xm_87_6 hx, xm_87_7 hx, xm_87_8 hx, xm_lw2 hx hb, xm_lw3 hx hb, xm_lw4 hx hb, xm_lw5 hx hb, xm_st1 hx hb, xm_st10 hx hb, xm_st11 hx hb, xm_st13 hx hb, xm_st14 hx hb, xm_st15 hx hb, xm_st16 hx hb, xm_st17 hx hb, xm_st2 hx hb, xm_st4 hx hb, xm_st5 hx hb, xm_st6 hx hb, xm_st7 hx hb, xm_st9 hx hb, ite_self, Bool.false_eq_true, eq_self, isk_t, i20_t, w20_t, l23_t, b21_t, b22_t, w_t, bif_t, bif_f, bif_d, if_pos, if_neg, if_true, if_false, not_true_eq_false, not_false_eq_true, Option.bind_some, Option.toList_some, Option.toList_none, List.cons_append, List.nil_append, Int.toNat_natCast, Int.reduceToNat, up_eq, up_p, up_k, sN,  hs, x0', f4, g4 ]
    | inr w =>
      rw [hm] at g2 g4
      have g3 := g3 w hm
      have g2 : XTk ρ μ2 b n w.2 := g2
      have g4 : am_E (d + 3) 46 0 [some (.inr (.inr 40)), some (.inl 0), some (.inl 99)] [] (SH, ρ, am_up μ1 (c + 3) i (μ1 41 5), cs) = some (some (.inl 0), (SH, ρ, μ2, cs)) := g4
      show XLo ρ cs b n c ts μ _ (bnd (nU b n 0 99 w.2) _)
      obtain ⟨μ4, l1, l2, l3, l4⟩ := X_nU (d := d) (cs := cs) (lo := 0) (hi := 99) hx (xt_up (q := c + 4) (k := i) (v := μ2 41 5) g2 (by omega)) (by omega) (by omega) (by omega)
      have fr4 : FX c μ μ4 := fx_tr (fx_up fr2 (by omega)) (fx_ft l1)
      cases hm2 : nU b n 0 99 w.2 with
      | inl y =>
        rw [hm2] at l2 l4
        have hne := nU_ne hm2
        refine ⟨μ4, fr4, l2, hne, ?_⟩
        have l4 : am_E (d + 3) 46 0 [some (.inr (.inr 40)), some (.inl 0), some (.inl 99)] [] (SH, ρ, am_up μ2 (c + 4) i (μ2 41 5), cs) = some (some (.inl y.1), (SH, ρ, μ4, cs)) := l4
        generalize y.1 = Q at *
        simp (disch := omega) only [e38_0, e38_28, e38_56, e38_84, xk_0, xk_1, xk_40, xk_41, xk_42, xk_43, xk_44, xk_45, xk_46, xk_47, xk_48, xk_49, xk_50, xk_51, xk_52, xk_53, xk_54, xk_55, xk_56, xk_57, xk_58, xk_59, xk_60, xk_61, xk_62, xk_63, xk_64, xk_65, xk_66, xk_67, xk_68, xk_69, xk_70, xk_71, xk_72, xk_73, xk_74, xk_75, xk_76, xk_77, xk_78, xk_79, xk_80, xk_81, xk_82, xk_83, xk_84, xk_85, xk_86, xk_87, xk_88, xk_89, xk_90, xk_91, xk_92, xk_93, xk_94, xk_95, xk_96, xk_97, xk_98, xk_st0 hb, xk_st1 hb, xk_st10 hb, xk_st11 hb, xk_st12 hb, xk_st13 hb, xk_st14 hb, xk_st15 hb, xk_st16 hb, xk_st17 hb, xk_st18 hb, xk_st2 hb, xk_st3 hb, xk_st4 hb, xk_st5 hb, xk_st6 hb, xk_st7 hb, xk_st8 hb, xk_st9 hb, xm_0_0 hx, xm_0_10 hx, xm_0_11 hx, xm_0_12 hx, xm_0_13 hx, xm_0_14 hx, xm_0_15 hx, xm_0_2 hx, xm_0_9 hx, xm_40_0 hx, xm_40_1 hx, xm_41_0 hx, xm_44_0 hx, xm_44_1 hx, xm_73_4 hx, xm_73_5 hx, xm_73_6 hx, xm_77_1 hx, xm_77_2 hx, xm_77_3 hx, xm_77_4 hx, xm_77_5 hx, xm_77_6 hx, xm_77_7 hx, xm_77_8 hx, xm_77_9 hx, xm_87_2 hx, xm_87_3 hx, xm_87_4 hx, xm_87_5 hx, xm_87_6 hx, xm_87_7 hx, xm_87_8 hx, xm_lw2 hx hb, xm_lw3 hx hb, xm_lw4 hx hb, xm_lw5 hx hb, xm_st1 hx hb, xm_st10 hx hb, xm_st11 hx hb, xm_st13 hx hb, xm_st14 hx hb, xm_st15 hx hb, xm_st16 hx hb, xm_st17 hx hb, xm_st2 hx hb, xm_st4 hx hb, xm_st5 hx hb, xm_st6 hx hb, xm_st7 hx hb, xm_st9 hx hb, ite_self, Bool.false_eq_true, eq_self, isk_t, i20_t, w20_t, l23_t, b21_t, b22_t, w_t, bif_t, bif_f, bif_d, if_pos, if_neg, if_true, if_false, not_true_eq_false, not_false_eq_true, Option.bind_some, Option.toList_some, Option.toList_none, List.cons_append, List.nil_append, Int.toNat_natCast, Int.reduceToNat, up_eq, up_p, up_k, sN,  hs, x0', f4, g4, l4 ]
      | inr x =>
        rw [hm2] at l2 l4
        have l3 := l3 x hm2
        have l2 : XTk ρ μ4 b n x.2 := l2
        have l4 : am_E (d + 3) 46 0 [some (.inr (.inr 40)), some (.inl 0), some (.inl 99)] [] (SH, ρ, am_up μ2 (c + 4) i (μ2 41 5), cs) = some (some (.inl 0), (SH, ρ, μ4, cs)) := l4
        have y0 : μ4 c 3 = (i : Int) := by rw [l1 _ _ (by omega), up_p (by omega), g1 _ _ (by omega), up_p (by omega), f1 _ _ (by omega)]; exact x0'
        show XLo ρ cs b n c ts μ _ (bnd (lE b n x.2) _)
        obtain ⟨μ3, k1, k2, k3⟩ := X_lE (d := d) (cs := cs) (μ := am_up (am_up (am_up μ4 (c + 5) i (μ4 41 5)) (c + 6) i 0) c 3 ((i : Int) + 1)) hx (xt_up (xt_up (xt_up l2 (by omega)) (by omega)) (by omega))
        have fr : FX c μ μ3 := fx_tr (fx_up (fx_up (fx_up fr4 (by omega)) (by omega)) (by omega)) (fx_ft k1)
        cases he : lE b n x.2 with
        | inl y =>
          obtain ⟨z1, z2, z3⟩ := k2 y he
          refine ⟨μ3, fr, z1, by rw [z2]; decide, ?_⟩
          rw [z2]
          simp (disch := omega) only [e38_0, e38_28, e38_56, e38_84, e38_128, e38_132, xk_0, xk_1, xk_40, xk_41, xk_42, xk_43, xk_44, xk_45, xk_46, xk_47, xk_48, xk_49, xk_50, xk_51, xk_52, xk_53, xk_54, xk_55, xk_56, xk_57, xk_58, xk_59, xk_60, xk_61, xk_62, xk_63, xk_64, xk_65, xk_66, xk_67, xk_68, xk_69, xk_70, xk_71, xk_72, xk_73, xk_74, xk_75, xk_76, xk_77, xk_78, xk_79, xk_80, xk_81, xk_82, xk_83, xk_84, xk_85, xk_86, xk_87, xk_88, xk_89, xk_90, xk_91, xk_92, xk_93, xk_94, xk_95, xk_96, xk_97, xk_98, xk_st0 hb, xk_st1 hb, xk_st10 hb, xk_st11 hb, xk_st12 hb, xk_st13 hb, xk_st14 hb, xk_st15 hb, xk_st16 hb, xk_st17 hb, xk_st18 hb, xk_st2 hb, xk_st3 hb, xk_st4 hb, xk_st5 hb, xk_st6 hb, xk_st7 hb, xk_st8 hb, xk_st9 hb, xm_0_0 hx, xm_0_10 hx, xm_0_11 hx, xm_0_12 hx, xm_0_13 hx, xm_0_14 hx, xm_0_15 hx, xm_0_2 hx, xm_0_9 hx, xm_40_0 hx, xm_40_1 hx, xm_41_0 hx, xm_44_0 hx, xm_44_1 hx, xm_73_4 hx, xm_73_5 hx, xm_73_6 hx, xm_77_1 hx, xm_77_2 hx, xm_77_3 hx, xm_77_4 hx, xm_77_5 hx, xm_77_6 hx, xm_77_7 hx, xm_77_8 hx, xm_77_9 hx, xm_87_2 hx, xm_87_3 hx, xm_87_4 hx, xm_87_5 hx, xm_87_6 hx, xm_87_7 hx, xm_87_8 hx, xm_lw2 hx hb, xm_lw3 hx hb, xm_lw4 hx hb, xm_lw5 hx hb, xm_st1 hx hb, xm_st10 hx hb, xm_st11 hx hb, xm_st13 hx hb, xm_st14 hx hb, xm_st15 hx hb, xm_st16 hx hb, xm_st17 hx hb, xm_st2 hx hb, xm_st4 hx hb, xm_st5 hx hb, xm_st6 hx hb, xm_st7 hx hb, xm_st9 hx hb, ite_self, Bool.false_eq_true, eq_self, isk_t, i20_t, w20_t, l23_t, b21_t, b22_t, w_t, bif_t, bif_f, bif_d, if_pos, if_neg, if_true, if_false, not_true_eq_false, not_false_eq_true, Option.bind_some, Option.toList_some, Option.toList_none, List.cons_append, List.nil_append, Int.toNat_natCast, Int.reduceToNat, up_eq, up_p, up_k, sN,  hs, x0', y0, f4, g4, l4, z3 ]
        | inr a' =>
          obtain ⟨z1, z3⟩ := k3 a' he
          refine ⟨μ3, fr, z1, ⟨?_, ?_, ?_, h5, ?_⟩, ?_⟩
          · refine xs_thing hX hS hi (fun q k q0 q1 n1 n2 n3 n4 n5 => ?_) ?_ ?_ ?_ ?_ ?_
            · rw [k1 _ _ (by omega), am_up_no n5, am_up_no n4, am_up_no n3, l1 _ _ (by omega), am_up_no n2, g1 _ _ (by omega), am_up_no n1, f1 _ _ (by omega)]
            · rw [k1 _ _ (by omega), up_p (by omega), up_p (by omega), up_p (by omega), l1 _ _ (by omega), up_p (by omega), g1 _ _ (by omega), up_eq]; exact f3
            · rw [k1 _ _ (by omega), up_p (by omega), up_p (by omega), up_p (by omega), l1 _ _ (by omega), up_eq]; exact g3
            · rw [k1 _ _ (by omega), up_p (by omega), up_p (by omega), up_eq]; exact l3
            · rw [k1 _ _ (by omega), up_p (by omega), up_eq]
            · rw [k1 _ _ (by omega), up_eq]
          · rw [k1 _ _ (by omega), up_p (by omega), up_p (by omega), up_p (by omega), l1 _ _ (by omega), up_p (by omega), g1 _ _ (by omega), up_p (by omega), f1 _ _ (by omega)]
            simp (disch := omega) only [zp_ne]
            exact h3
          · rw [k1 _ _ (by omega), up_p (by omega), up_p (by omega), up_p (by omega), l1 _ _ (by omega), up_p (by omega), g1 _ _ (by omega), up_p (by omega), f1 _ _ (by omega)]
            exact h4
          · rw [k1 _ _ (by omega), up_p (by omega), up_p (by omega), up_p (by omega), l1 _ _ (by omega), up_p (by omega), g1 _ _ (by omega), up_p (by omega), f1 _ _ (by omega)]
            simp (disch := omega) only [zp_ne]
            exact h6
          · simp (disch := omega) only [e38_0, e38_28, e38_56, e38_84, e38_128, e38_132, xk_0, xk_1, xk_40, xk_41, xk_42, xk_43, xk_44, xk_45, xk_46, xk_47, xk_48, xk_49, xk_50, xk_51, xk_52, xk_53, xk_54, xk_55, xk_56, xk_57, xk_58, xk_59, xk_60, xk_61, xk_62, xk_63, xk_64, xk_65, xk_66, xk_67, xk_68, xk_69, xk_70, xk_71, xk_72, xk_73, xk_74, xk_75, xk_76, xk_77, xk_78, xk_79, xk_80, xk_81, xk_82, xk_83, xk_84, xk_85, xk_86, xk_87, xk_88, xk_89, xk_90, xk_91, xk_92, xk_93, xk_94, xk_95, xk_96, xk_97, xk_98, xk_st0 hb, xk_st1 hb, xk_st10 hb, xk_st11 hb, xk_st12 hb, xk_st13 hb, xk_st14 hb, xk_st15 hb, xk_st16 hb, xk_st17 hb, xk_st18 hb, xk_st2 hb, xk_st3 hb, xk_st4 hb, xk_st5 hb, xk_st6 hb, xk_st7 hb, xk_st8 hb, xk_st9 hb, xm_0_0 hx, xm_0_10 hx, xm_0_11 hx, xm_0_12 hx, xm_0_13 hx, xm_0_14 hx, xm_0_15 hx, xm_0_2 hx, xm_0_9 hx, xm_40_0 hx, xm_40_1 hx, xm_41_0 hx, xm_44_0 hx, xm_44_1 hx, xm_73_4 hx, xm_73_5 hx, xm_73_6 hx, xm_77_1 hx, xm_77_2 hx, xm_77_3 hx, xm_77_4 hx, xm_77_5 hx, xm_77_6 hx, xm_77_7 hx, xm_77_8 hx, xm_77_9 hx, xm_87_2 hx, xm_87_3 hx, xm_87_4 hx, xm_87_5 hx, xm_87_6 hx, xm_87_7 hx, xm_87_8 hx, xm_lw2 hx hb, xm_lw3 hx hb, xm_lw4 hx hb, xm_lw5 hx hb, xm_st1 hx hb, xm_st10 hx hb, xm_st11 hx hb, xm_st13 hx hb, xm_st14 hx hb, xm_st15 hx hb, xm_st16 hx hb, xm_st17 hx hb, xm_st2 hx hb, xm_st4 hx hb, xm_st5 hx hb, xm_st6 hx hb, xm_st7 hx hb, xm_st9 hx hb, ite_self, Bool.false_eq_true, eq_self, isk_t, i20_t, w20_t, l23_t, b21_t, b22_t, w_t, bif_t, bif_f, bif_d, if_pos, if_neg, if_true, if_false, not_true_eq_false, not_false_eq_true, Option.bind_some, Option.toList_some, Option.toList_none, List.cons_append, List.nil_append, Int.toNat_natCast, Int.reduceToNat, up_eq, up_p, up_k, sN,  hs, x0', y0, f4, g4, l4, z3 ]
theorem xn1 (hX : XS μ c Z) (hS : SI Z) : oN b n (nmR Z 1) (Z 0 0).toNat a = oN b n (μ (c + 1)) (Z 0 0).toNat a := oN_c (fun j hj => by
    have := (hX.2.2.1 j (by omega) (by have := hS.1; omega)).1
    rw [Int.toNat_natCast] at this
    exact this.symm)
theorem xn3 (hX : XS μ c Z) (hS : SI Z) : oN b n (nmR Z 3) (Z 0 1).toNat a = oN b n (μ (c + 3)) (Z 0 1).toNat a := oN_c (fun j hj => by
    have := (hX.2.2.2.1 j (by omega) (by have := hS.2.1; omega)).1
    rw [Int.toNat_natCast] at this
    exact this.symm)
theorem oN_bd {f : Nat → Int} {k : Nat} {q : Int × Nat} (h : oN b n f k a = .inr q) : 0 ≤ q.1 ∧ q.1 < k := by
  obtain ⟨g1, g2, rfl⟩ := oN_inr h
  have := (fnd_bd (f := f) (z := (tok b n a).2.1) k 0).2.1
  exact ⟨g2, by show fnd f 0 (tok b n a).2.1 k 0 < _; omega⟩
theorem X_sees (hx : XM ρ) (hb : c = 2 ∨ c = 21) (hs : ρ 40 2 = c) (h : XTk ρ μ b n a) (hP : XP μ c Z ts) (hS : SI Z) (hk : μ 41 6 = (pk : Int)) : XLo ρ cs b n c ts μ (am_E (d + 4) 39 0 [some (.inr (.inr 40)), none, none] [] (SH, ρ, μ, cs)) (pSees b n Z pk a) := by
  obtain ⟨hX, h3, h4, h5, h6⟩ := hP
  have x0 := hX.1.1
  have x1 := hX.1.2.1
  have b0 := hS.1
  have b1 := hS.2.1
  have b2 := hS.2.2.1
  unfold pSees
  by_cases c0 : 10 ≤ Z 0 2
  · rw [if_pos c0]
    refine ⟨μ, fx_rf c μ, hk, by simp, ?_⟩
    simp (disch := omega) only [e39_0, xk_0, xk_1, xk_40, xk_41, xk_42, xk_43, xk_44, xk_45, xk_46, xk_47, xk_48, xk_49, xk_50, xk_51, xk_52, xk_53, xk_54, xk_55, xk_56, xk_57, xk_58, xk_59, xk_60, xk_61, xk_62, xk_63, xk_64, xk_65, xk_66, xk_67, xk_68, xk_69, xk_70, xk_71, xk_72, xk_73, xk_74, xk_75, xk_76, xk_77, xk_78, xk_79, xk_80, xk_81, xk_82, xk_83, xk_84, xk_85, xk_86, xk_87, xk_88, xk_89, xk_90, xk_91, xk_92, xk_93, xk_94, xk_95, xk_96, xk_97, xk_98, xk_st0 hb, xk_st1 hb, xk_st10 hb, xk_st11 hb, xk_st12 hb, xk_st13 hb, xk_st14 hb, xk_st15 hb, xk_st16 hb, xk_st17 hb, xk_st18 hb, xk_st2 hb, xk_st3 hb, xk_st4 hb, xk_st5 hb, xk_st6 hb, xk_st7 hb, xk_st8 hb, xk_st9 hb, xm_0_0 hx, xm_0_10 hx, xm_0_11 hx, xm_0_12 hx, xm_0_13 hx, xm_0_14 hx, xm_0_15 hx, xm_0_2 hx, xm_0_9 hx, xm_40_0 hx, xm_40_1 hx, xm_41_0 hx, xm_44_0 hx, xm_44_1 hx, xm_73_4 hx, xm_73_5 hx, xm_73_6 hx, xm_77_1 hx, xm_77_2 hx, xm_77_3 hx, xm_77_4 hx, xm_77_5 hx, xm_77_6 hx, xm_77_7 hx, xm_77_8 hx, xm_77_9 hx, xm_87_2 hx, xm_87_3 hx, xm_87_4 hx, xm_87_5 hx, xm_87_6 hx, xm_87_7 hx, xm_87_8 hx, xm_lw2 hx hb, xm_lw3 hx hb, xm_lw4 hx hb, xm_lw5 hx hb, xm_st1 hx hb, xm_st10 hx hb, xm_st11 hx hb, xm_st13 hx hb, xm_st14 hx hb, xm_st15 hx hb, xm_st16 hx hb, xm_st17 hx hb, xm_st2 hx hb, xm_st4 hx hb, xm_st5 hx hb, xm_st6 hx hb, xm_st7 hx hb, xm_st9 hx hb, ite_self, Bool.false_eq_true, eq_self, isk_t, i20_t, w20_t, l23_t, b21_t, b22_t, w_t, bif_t, bif_f, bif_d, if_pos, if_neg, if_true, if_false, not_true_eq_false, not_false_eq_true, Option.bind_some, Option.toList_some, Option.toList_none, List.cons_append, List.nil_append, Int.toNat_natCast, Int.reduceToNat, up_eq, up_p, up_k, sN,  h3 ]
  rw [if_neg c0]
  have x0' : μ c 0 = ((Z 0 0).toNat : Int) := by omega
  have x1' : μ c 3 = ((Z 0 1).toNat : Int) := by omega
  rw [xn1 hX hS]
  obtain ⟨μ1, f1, f2, f3, f4⟩ := X_oN (d := d) (cs := cs) (c := (Z 0 0).toNat) (q := c + 1) hx h (xk_st1 (L := cs.2.2) hb) (by omega) (by omega) (by omega)
  cases hn : oN b n (μ (c + 1)) (Z 0 0).toNat a with
  | inl q =>
    rw [hn] at f2 f4
    have hne := oN_ne hn
    refine ⟨μ1, fx_o f1, f2, hne, ?_⟩
    have f4 : am_E (d + 3) 45 0 [some (.inr (.inr 40)), some (.inr (.inr (c + 1))), some (.inl ((Z 0 0).toNat : Int)), none] [] (SH, ρ, μ, cs) = some (some (.inl q.1), (SH, ρ, μ1, cs)) := f4
    generalize q.1 = Q at *
    generalize ((Z 0 0).toNat : Int) = y at *
    simp (disch := omega) only [e39_0, e39_29, xk_0, xk_1, xk_40, xk_41, xk_42, xk_43, xk_44, xk_45, xk_46, xk_47, xk_48, xk_49, xk_50, xk_51, xk_52, xk_53, xk_54, xk_55, xk_56, xk_57, xk_58, xk_59, xk_60, xk_61, xk_62, xk_63, xk_64, xk_65, xk_66, xk_67, xk_68, xk_69, xk_70, xk_71, xk_72, xk_73, xk_74, xk_75, xk_76, xk_77, xk_78, xk_79, xk_80, xk_81, xk_82, xk_83, xk_84, xk_85, xk_86, xk_87, xk_88, xk_89, xk_90, xk_91, xk_92, xk_93, xk_94, xk_95, xk_96, xk_97, xk_98, xk_st0 hb, xk_st1 hb, xk_st10 hb, xk_st11 hb, xk_st12 hb, xk_st13 hb, xk_st14 hb, xk_st15 hb, xk_st16 hb, xk_st17 hb, xk_st18 hb, xk_st2 hb, xk_st3 hb, xk_st4 hb, xk_st5 hb, xk_st6 hb, xk_st7 hb, xk_st8 hb, xk_st9 hb, xm_0_0 hx, xm_0_10 hx, xm_0_11 hx, xm_0_12 hx, xm_0_13 hx, xm_0_14 hx, xm_0_15 hx, xm_0_2 hx, xm_0_9 hx, xm_40_0 hx, xm_40_1 hx, xm_41_0 hx, xm_44_0 hx, xm_44_1 hx, xm_73_4 hx, xm_73_5 hx, xm_73_6 hx, xm_77_1 hx, xm_77_2 hx, xm_77_3 hx, xm_77_4 hx, xm_77_5 hx, xm_77_6 hx, xm_77_7 hx, xm_77_8 hx, xm_77_9 hx, xm_87_2 hx, xm_87_3 hx, xm_87_4 hx, xm_87_5 hx, xm_87_6 hx, xm_87_7 hx, xm_87_8 hx, xm_lw2 hx hb, xm_lw3 hx hb, xm_lw4 hx hb, xm_lw5 hx hb, xm_st1 hx hb, xm_st10 hx hb, xm_st11 hx hb, xm_st13 hx hb, xm_st14 hx hb, xm_st15 hx hb, xm_st16 hx hb, xm_st17 hx hb, xm_st2 hx hb, xm_st4 hx hb, xm_st5 hx hb, xm_st6 hx hb, xm_st7 hx hb, xm_st9 hx hb, ite_self, Bool.false_eq_true, eq_self, isk_t, i20_t, w20_t, l23_t, b21_t, b22_t, w_t, bif_t, bif_f, bif_d, if_pos, if_neg, if_true, if_false, not_true_eq_false, not_false_eq_true, Option.bind_some, Option.toList_some, Option.toList_none, List.cons_append, List.nil_append, Int.toNat_natCast, Int.reduceToNat, up_eq, up_p, up_k, sN,  hs, h3, x0', f4 ]
  | inr q =>
    rw [hn] at f2 f4
    have f3 := (f3 q hn).1
    have f2 : XTk ρ μ1 b n q.2 := f2
    have qb := oN_bd hn
    have f4 : am_E (d + 3) 45 0 [some (.inr (.inr 40)), some (.inr (.inr (c + 1))), some (.inl ((Z 0 0).toNat : Int)), none] [] (SH, ρ, μ, cs) = some (some (.inl 0), (SH, ρ, μ1, cs)) := f4
    have hX1 : XS μ1 c Z := xs_fr hX (fun q k q0 q1 => f1 q k (by omega) (by omega))
    have x1'' : μ1 c 3 = ((Z 0 1).toNat : Int) := by rw [f1 _ _ (by omega) (by omega)]; exact x1'
    show XLo ρ cs b n c ts μ _ (bnd (oN b n (nmR Z 3) (Z 0 1).toNat q.2) _)
    rw [xn3 hX1 hS]
    obtain ⟨μ2, g1, g2, g3, g4⟩ := X_oN (d := d) (cs := cs) (c := (Z 0 1).toNat) (q := c + 3) hx f2 (xk_st3 (L := cs.2.2) hb) (by omega) (by omega) (by omega)
    have fr2 : FX c μ μ2 := fx_tr (fx_o f1) (fx_o g1)
    cases hm : oN b n (μ1 (c + 3)) (Z 0 1).toNat q.2 with
    | inl y =>
      rw [hm] at g2 g4
      have hne := oN_ne hm
      refine ⟨μ2, fr2, g2, hne, ?_⟩
      have g4 : am_E (d + 3) 45 0 [some (.inr (.inr 40)), some (.inr (.inr (c + 3))), some (.inl ((Z 0 1).toNat : Int)), none] [] (SH, ρ, μ1, cs) = some (some (.inl y.1), (SH, ρ, μ2, cs)) := g4
      generalize y.1 = Q at *
      generalize ((Z 0 0).toNat : Int) = y at *
      generalize ((Z 0 1).toNat : Int) = y1 at *
      simp (disch := omega) only [e39_0, e39_29, e39_61, xk_0, xk_1, xk_40, xk_41, xk_42, xk_43, xk_44, xk_45, xk_46, xk_47, xk_48, xk_49, xk_50, xk_51, xk_52, xk_53, xk_54, xk_55, xk_56, xk_57, xk_58, xk_59, xk_60, xk_61, xk_62, xk_63, xk_64, xk_65, xk_66, xk_67, xk_68, xk_69, xk_70, xk_71, xk_72, xk_73, xk_74, xk_75, xk_76, xk_77, xk_78, xk_79, xk_80, xk_81, xk_82, xk_83, xk_84, xk_85, xk_86, xk_87, xk_88, xk_89, xk_90, xk_91, xk_92, xk_93, xk_94, xk_95, xk_96, xk_97, xk_98, xk_st0 hb, xk_st1 hb, xk_st10 hb, xk_st11 hb, xk_st12 hb, xk_st13 hb, xk_st14 hb, xk_st15 hb, xk_st16 hb, xk_st17 hb, xk_st18 hb, xk_st2 hb, xk_st3 hb, xk_st4 hb, xk_st5 hb, xk_st6 hb, xk_st7 hb, xk_st8 hb, xk_st9 hb, xm_0_0 hx, xm_0_10 hx, xm_0_11 hx, xm_0_12 hx, xm_0_13 hx, xm_0_14 hx, xm_0_15 hx, xm_0_2 hx, xm_0_9 hx, xm_40_0 hx, xm_40_1 hx, xm_41_0 hx, xm_44_0 hx, xm_44_1 hx, xm_73_4 hx, xm_73_5 hx, xm_73_6 hx, xm_77_1 hx, xm_77_2 hx, xm_77_3 hx, xm_77_4 hx, xm_77_5 hx, xm_77_6 hx, xm_77_7 hx, xm_77_8 hx, xm_77_9 hx, xm_87_2 hx, xm_87_3 hx, xm_87_4 hx, xm_87_5 hx, xm_87_6 hx, xm_87_7 hx, xm_87_8 hx, xm_lw2 hx hb, xm_lw3 hx hb, xm_lw4 hx hb, xm_lw5 hx hb, xm_st1 hx hb, xm_st10 hx hb, xm_st11 hx hb, xm_st13 hx hb, xm_st14 hx hb, xm_st15 hx hb, xm_st16 hx hb, xm_st17 hx hb, xm_st2 hx hb, xm_st4 hx hb, xm_st5 hx hb, xm_st6 hx hb, xm_st7 hx hb, xm_st9 hx hb, ite_self, Bool.false_eq_true, eq_self, isk_t, i20_t, w20_t, l23_t, b21_t, b22_t, w_t, bif_t, bif_f, bif_d, if_pos, if_neg, if_true, if_false, not_true_eq_false, not_false_eq_true, Option.bind_some, Option.toList_some, Option.toList_none, List.cons_append, List.nil_append, Int.toNat_natCast, Int.reduceToNat, up_eq, up_p, up_k, sN,  hs, h3, x0', x1'', f4, g4 ]
    | inr w =>
      rw [hm] at g2 g4
      have g6 := (g3 w hm).2
      have g3 := (g3 w hm).1
      have g2 : XTk ρ μ2 b n w.2 := g2
      have wb := oN_bd hm
      have g4 : am_E (d + 3) 45 0 [some (.inr (.inr 40)), some (.inr (.inr (c + 3))), some (.inl ((Z 0 1).toNat : Int)), none] [] (SH, ρ, μ1, cs) = some (some (.inl 0), (SH, ρ, μ2, cs)) := g4
      obtain ⟨P, hPq⟩ := Int.eq_ofNat_of_zero_le qb.1
      obtain ⟨T, hTw⟩ := Int.eq_ofNat_of_zero_le wb.1
      have f3' : μ1 40 5 = (P : Int) := f3.trans hPq
      have g3' : μ2 40 5 = (T : Int) := g3.trans hTw
      have hX2 : XS μ2 c Z := xs_fr hX1 (fun q k q0 q1 => g1 q k (by omega) (by omega))
      have gc := hX2.2.2.2.1 (T : Int) (by omega) (by omega)
      rw [Int.toNat_natCast] at gc
      have z9 : μ2 40 3 = Z 0 2 := by rw [g1 _ _ (by omega) (by omega), f1 _ _ (by omega) (by omega)]; exact h3
      have ean : am_and (μ2 (c + 6) T) (am_shl 1 (P : Int)) = if seeB Z P T (Z 0 2).toNat 0 = true then ((2 ^ P : Nat) : Int) else 0 := by
        rw [zb_an1 gc.2.2.2.1.1 (by omega) (by omega) (by omega), ← gc.2.2.2.2 (P : Int) (by omega) (by omega), Int.toNat_natCast]
      have eor : am_or (μ2 (c + 6) T) (am_shl 1 (P : Int)) = (((μ2 (c + 6) T).toNat ||| 2 ^ P : Nat) : Int) := by
        have := zb_or1 (z := μ2 (c + 6) T) (k := (P : Int)) gc.2.2.2.1.1 (by omega) (by omega) (by omega)
        rw [Int.toNat_natCast] at this
        exact this
      show XLo ρ cs b n c ts μ _ (if seeB Z q.1 w.1 (Z 0 2).toNat 0 = true then _ else _)
      rw [hPq, hTw]
      have hpw : ((2 ^ P : Nat) : Int) ≠ 0 := by
        have := Nat.pow_pos (n := P) (show 0 < 2 by decide)
        omega
      have sP : ((P : Nat) : Int).toNat = P := Int.toNat_natCast P
      by_cases cs5 : seeB Z P T (Z 0 2).toNat 0 = true
      · rw [if_pos cs5] at ean
        rw [if_pos cs5]
        refine ⟨μ2, fr2, g6, by simp, ?_⟩
        generalize ((Z 0 0).toNat : Int) = y at *
        generalize ((Z 0 1).toNat : Int) = y1 at *
        simp (disch := omega) only [e39_0, e39_29, e39_61, xk_0, xk_1, xk_40, xk_41, xk_42, xk_43, xk_44, xk_45, xk_46, xk_47, xk_48, xk_49, xk_50, xk_51, xk_52, xk_53, xk_54, xk_55, xk_56, xk_57, xk_58, xk_59, xk_60, xk_61, xk_62, xk_63, xk_64, xk_65, xk_66, xk_67, xk_68, xk_69, xk_70, xk_71, xk_72, xk_73, xk_74, xk_75, xk_76, xk_77, xk_78, xk_79, xk_80, xk_81, xk_82, xk_83, xk_84, xk_85, xk_86, xk_87, xk_88, xk_89, xk_90, xk_91, xk_92, xk_93, xk_94, xk_95, xk_96, xk_97, xk_98, xk_st0 hb, xk_st1 hb, xk_st10 hb, xk_st11 hb, xk_st12 hb, xk_st13 hb, xk_st14 hb, xk_st15 hb, xk_st16 hb, xk_st17 hb, xk_st18 hb, xk_st2 hb, xk_st3 hb, xk_st4 hb, xk_st5 hb, xk_st6 hb, xk_st7 hb, xk_st8 hb, xk_st9 hb, xm_0_0 hx, xm_0_10 hx, xm_0_11 hx, xm_0_12 hx, xm_0_13 hx, xm_0_14 hx, xm_0_15 hx, xm_0_2 hx, xm_0_9 hx, xm_40_0 hx, xm_40_1 hx, xm_41_0 hx, xm_44_0 hx, xm_44_1 hx, xm_73_4 hx, xm_73_5 hx, xm_73_6 hx, xm_77_1 hx, xm_77_2 hx, xm_77_3 hx, xm_77_4 hx, xm_77_5 hx, xm_77_6 hx, xm_77_7 hx, xm_77_8 hx, xm_77_9 hx, xm_87_2 hx, xm_87_3 hx, xm_87_4 hx, xm_87_5 hx, xm_87_6 hx, xm_87_7 hx, xm_87_8 hx, xm_lw2 hx hb, xm_lw3 hx hb, xm_lw4 hx hb, xm_lw5 hx hb, xm_st1 hx hb, xm_st10 hx hb, xm_st11 hx hb, xm_st13 hx hb, xm_st14 hx hb, xm_st15 hx hb, xm_st16 hx hb, xm_st17 hx hb, xm_st2 hx hb, xm_st4 hx hb, xm_st5 hx hb, xm_st6 hx hb, xm_st7 hx hb, xm_st9 hx hb, ite_self, Bool.false_eq_true, eq_self, isk_t, i20_t, w20_t, l23_t, b21_t, b22_t, w_t, bif_t, bif_f, bif_d, if_pos, if_neg, if_true, if_false, not_true_eq_false, not_false_eq_true, Option.bind_some, Option.toList_some, Option.toList_none, List.cons_append, List.nil_append, Int.toNat_natCast, Int.reduceToNat, up_eq, up_p, up_k, sN,  hs, h3, x0', x1'', f4, g4, f3', g3', ean, hpw ]
      · rw [if_neg cs5] at ean
        rw [if_neg cs5]
        obtain ⟨μ3, k1, k2, k3⟩ := X_lE (d := d) (cs := cs) (μ := am_up (am_up μ2 (c + 6) T (((μ2 (c + 6) T).toNat ||| 2 ^ P : Nat) : Int)) 40 3 (Z 0 2 + 1)) hx (xt_up (xt_up g2 (by omega)) (by omega))
        have fr : FX c μ μ3 := fx_tr (fx_up (fx_up fr2 (by omega)) (by omega)) (fx_ft k1)
        cases he : lE b n w.2 with
        | inl y =>
          obtain ⟨z1, z2, z3⟩ := k2 y he
          refine ⟨μ3, fr, z1, by rw [z2]; decide, ?_⟩
          rw [z2]
          generalize ((Z 0 0).toNat : Int) = y at *
          generalize ((Z 0 1).toNat : Int) = y1 at *
          generalize (((μ2 (c + 6) T).toNat ||| 2 ^ P : Nat) : Int) = oo at *
          simp (disch := omega) only [e39_0, e39_29, e39_61, e39_117, xk_0, xk_1, xk_40, xk_41, xk_42, xk_43, xk_44, xk_45, xk_46, xk_47, xk_48, xk_49, xk_50, xk_51, xk_52, xk_53, xk_54, xk_55, xk_56, xk_57, xk_58, xk_59, xk_60, xk_61, xk_62, xk_63, xk_64, xk_65, xk_66, xk_67, xk_68, xk_69, xk_70, xk_71, xk_72, xk_73, xk_74, xk_75, xk_76, xk_77, xk_78, xk_79, xk_80, xk_81, xk_82, xk_83, xk_84, xk_85, xk_86, xk_87, xk_88, xk_89, xk_90, xk_91, xk_92, xk_93, xk_94, xk_95, xk_96, xk_97, xk_98, xk_st0 hb, xk_st1 hb, xk_st10 hb, xk_st11 hb, xk_st12 hb, xk_st13 hb, xk_st14 hb, xk_st15 hb, xk_st16 hb, xk_st17 hb, xk_st18 hb, xk_st2 hb, xk_st3 hb, xk_st4 hb, xk_st5 hb, xk_st6 hb, xk_st7 hb, xk_st8 hb, xk_st9 hb, xm_0_0 hx, xm_0_10 hx, xm_0_11 hx, xm_0_12 hx, xm_0_13 hx, xm_0_14 hx, xm_0_15 hx, xm_0_2 hx, xm_0_9 hx, xm_40_0 hx, xm_40_1 hx, xm_41_0 hx, xm_44_0 hx, xm_44_1 hx, xm_73_4 hx, xm_73_5 hx, xm_73_6 hx, xm_77_1 hx, xm_77_2 hx, xm_77_3 hx, xm_77_4 hx, xm_77_5 hx, xm_77_6 hx, xm_77_7 hx, xm_77_8 hx, xm_77_9 hx, xm_87_2 hx, xm_87_3 hx, xm_87_4 hx, xm_87_5 hx, xm_87_6 hx, xm_87_7 hx, xm_87_8 hx, xm_lw2 hx hb, xm_lw3 hx hb, xm_lw4 hx hb, xm_lw5 hx hb, xm_st1 hx hb, xm_st10 hx hb, xm_st11 hx hb, xm_st13 hx hb, xm_st14 hx hb, xm_st15 hx hb, xm_st16 hx hb, xm_st17 hx hb, xm_st2 hx hb, xm_st4 hx hb, xm_st5 hx hb, xm_st6 hx hb, xm_st7 hx hb, xm_st9 hx hb, ite_self, Bool.false_eq_true, eq_self, isk_t, i20_t, w20_t, l23_t, b21_t, b22_t, w_t, bif_t, bif_f, bif_d, if_pos, if_neg, if_true, if_false, not_true_eq_false, not_false_eq_true, Option.bind_some, Option.toList_some, Option.toList_none, List.cons_append, List.nil_append, Int.toNat_natCast, Int.reduceToNat, up_eq, up_p, up_k, sN,  hs, h3, x0', x1'', f4, g4, f3', g3', ean, eor, z9, z3 ]
        | inr a' =>
          obtain ⟨z1, z3⟩ := k3 a' he
          refine ⟨μ3, fr, z1, ⟨?_, ?_, ?_, h5, ?_⟩, ?_⟩
          · obtain ⟨i, hi⟩ := Int.eq_ofNat_of_zero_le b2.1
            refine xs_sees hX2 hS hi (by omega) (by omega) (fun q k q0 q1 n1 => ?_) ?_
            · rw [k1 _ _ (by omega), up_p (by omega), am_up_no n1]
            · rw [k1 _ _ (by omega), up_p (by omega), up_eq]
          · rw [k1 _ _ (by omega), up_eq]
            show _ = zp (zp (zp Z 6 (Z 0 2) P) 7 (Z 0 2) T) 0 2 (Z 0 2 + 1) 0 2
            rw [zp_eq]
          · rw [k1 _ _ (by omega), up_k (by omega), up_p (by omega), g1 _ _ (by omega) (by omega), f1 _ _ (by omega) (by omega)]
            exact h4
          · rw [k1 _ _ (by omega), up_p (by omega), up_p (by omega), g1 _ _ (by omega) (by omega), f1 _ _ (by omega) (by omega)]
            simp (disch := omega) only [zp_ne]
            exact h6
          · generalize ((Z 0 0).toNat : Int) = y at *
            generalize ((Z 0 1).toNat : Int) = y1 at *
            generalize (((μ2 (c + 6) T).toNat ||| 2 ^ P : Nat) : Int) = oo at *
            simp (disch := omega) only [e39_0, e39_29, e39_61, e39_117, xk_0, xk_1, xk_40, xk_41, xk_42, xk_43, xk_44, xk_45, xk_46, xk_47, xk_48, xk_49, xk_50, xk_51, xk_52, xk_53, xk_54, xk_55, xk_56, xk_57, xk_58, xk_59, xk_60, xk_61, xk_62, xk_63, xk_64, xk_65, xk_66, xk_67, xk_68, xk_69, xk_70, xk_71, xk_72, xk_73, xk_74, xk_75, xk_76, xk_77, xk_78, xk_79, xk_80, xk_81, xk_82, xk_83, xk_84, xk_85, xk_86, xk_87, xk_88, xk_89, xk_90, xk_91, xk_92, xk_93, xk_94, xk_95, xk_96, xk_97, xk_98, xk_st0 hb, xk_st1 hb, xk_st10 hb, xk_st11 hb, xk_st12 hb, xk_st13 hb, xk_st14 hb, xk_st15 hb, xk_st16 hb, xk_st17 hb, xk_st18 hb, xk_st2 hb, xk_st3 hb, xk_st4 hb, xk_st5 hb, xk_st6 hb, xk_st7 hb, xk_st8 hb, xk_st9 hb, xm_0_0 hx, xm_0_10 hx, xm_0_11 hx, xm_0_12 hx, xm_0_13 hx, xm_0_14 hx, xm_0_15 hx, xm_0_2 hx, xm_0_9 hx, xm_40_0 hx, xm_40_1 hx, xm_41_0 hx, xm_44_0 hx, xm_44_1 hx, xm_73_4 hx, xm_73_5 hx, xm_73_6 hx, xm_77_1 hx, xm_77_2 hx, xm_77_3 hx, xm_77_4 hx, xm_77_5 hx, xm_77_6 hx, xm_77_7 hx, xm_77_8 hx, xm_77_9 hx, xm_87_2 hx, xm_87_3 hx, xm_87_4 hx, xm_87_5 hx, xm_87_6 hx, xm_87_7 hx, xm_87_8 hx, xm_lw2 hx hb, xm_lw3 hx hb, xm_lw4 hx hb, xm_lw5 hx hb, xm_st1 hx hb, xm_st10 hx hb, xm_st11 hx hb, xm_st13 hx hb, xm_st14 hx hb, xm_st15 hx hb, xm_st16 hx hb, xm_st17 hx hb, xm_st2 hx hb, xm_st4 hx hb, xm_st5 hx hb, xm_st6 hx hb, xm_st7 hx hb, xm_st9 hx hb, ite_self, Bool.false_eq_true, eq_self, isk_t, i20_t, w20_t, l23_t, b21_t, b22_t, w_t, bif_t, bif_f, bif_d, if_pos, if_neg, if_true, if_false, not_true_eq_false, not_false_eq_true, Option.bind_some, Option.toList_some, Option.toList_none, List.cons_append, List.nil_append, Int.toNat_natCast, Int.reduceToNat, up_eq, up_p, up_k, sN,  hs, h3, x0', x1'', f4, g4, f3', g3', ean, eor, z9, z3 ]
end XLP
