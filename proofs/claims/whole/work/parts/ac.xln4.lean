/-! TEXT: the class's lines, ways, tellings, settings -/
section XLQ
variable {ρ : Nat → Nat → Nat} {μ : Nat → Nat → Int} {cs : Nat × Nat × Nat} {d n a c ts pk : Nat} {b : Nat → Int} {Z : MS}
theorem X_way (hx : XM ρ) (hb : c = 2 ∨ c = 21) (hs : ρ 40 2 = c) (h : XTk ρ μ b n a) (hP : XP μ c Z ts) (hS : SI Z) (hk : μ 41 6 = (pk : Int)) : XLo ρ cs b n c ts μ (am_E (d + 4) 40 0 [some (.inr (.inr 40)), none, none] [] (SH, ρ, μ, cs)) (pWay b n Z pk a) := by
  obtain ⟨hX, h3, h4, h5, h6⟩ := hP
  have x0 := hX.1.1
  have x3 := hX.1.2.2.1
  have b0 := hS.1
  have b3 := hS.2.2.2.1
  unfold pWay
  by_cases c0 : 12 ≤ Z 0 3
  · rw [if_pos c0]
    refine ⟨μ, fx_rf c μ, hk, by simp, ?_⟩
    simp (disch := omega) only [e40_0, xk_0, xk_1, xk_40, xk_41, xk_42, xk_43, xk_44, xk_45, xk_46, xk_47, xk_48, xk_49, xk_50, xk_51, xk_52, xk_53, xk_54, xk_55, xk_56, xk_57, xk_58, xk_59, xk_60, xk_61, xk_62, xk_63, xk_64, xk_65, xk_66, xk_67, xk_68, xk_69, xk_70, xk_71, xk_72, xk_73, xk_74, xk_75, xk_76, xk_77, xk_78, xk_79, xk_80, xk_81, xk_82, xk_83, xk_84, xk_85, xk_86, xk_87, xk_88, xk_89, xk_90, xk_91, xk_92, xk_93, xk_94, xk_95, xk_96, xk_97, xk_98, xk_st0 hb, xk_st1 hb, xk_st10 hb, xk_st11 hb, xk_st12 hb, xk_st13 hb, xk_st14 hb, xk_st15 hb, xk_st16 hb, xk_st17 hb, xk_st18 hb, xk_st2 hb, xk_st3 hb, xk_st4 hb, xk_st5 hb, xk_st6 hb, xk_st7 hb, xk_st8 hb, xk_st9 hb, xm_0_0 hx, xm_0_10 hx, xm_0_11 hx, xm_0_12 hx, xm_0_13 hx, xm_0_14 hx, xm_0_15 hx, xm_0_2 hx, xm_0_9 hx, xm_40_0 hx, xm_40_1 hx, xm_41_0 hx, xm_44_0 hx, xm_44_1 hx, xm_73_4 hx, xm_73_5 hx, xm_73_6 hx, xm_77_1 hx, xm_77_2 hx, xm_77_3 hx, xm_77_4 hx, xm_77_5 hx, xm_77_6 hx, xm_77_7 hx, xm_77_8 hx, xm_77_9 hx, xm_87_2 hx, xm_87_3 hx, xm_87_4 hx, xm_87_5 hx, xm_87_6 hx, xm_87_7 hx, xm_87_8 hx, xm_lw2 hx hb, xm_lw3 hx hb, xm_lw4 hx hb, xm_lw5 hx hb, xm_st1 hx hb, xm_st10 hx hb, xm_st11 hx hb, xm_st13 hx hb, xm_st14 hx hb, xm_st15 hx hb, xm_st16 hx hb, xm_st17 hx hb, xm_st2 hx hb, xm_st4 hx hb, xm_st5 hx hb, xm_st6 hx hb, xm_st7 hx hb, xm_st9 hx hb, ite_self, Bool.false_eq_true, eq_self, isk_t, i20_t, w20_t, l23_t, b21_t, b22_t, w_t, bif_t, bif_f, bif_d, if_pos, if_neg, if_true, if_false, not_true_eq_false, not_false_eq_true, Option.bind_some, Option.toList_some, Option.toList_none, List.cons_append, List.nil_append, Int.toNat_natCast, Int.reduceToNat, up_eq, up_p, up_k, sN,  hs, x3 ]
  rw [if_neg c0]
  obtain ⟨i, hi⟩ := Int.eq_ofNat_of_zero_le b3.1
  have x3' : μ c 8 = (i : Int) := x3.trans hi
  have e44 : i < 12 := by omega
  have x0' : μ c 0 = ((Z 0 0).toNat : Int) := by omega
  rw [xn1 hX hS]
  obtain ⟨μ1, f1, f2, f3, f4⟩ := X_oN (d := d) (cs := cs) (c := (Z 0 0).toNat) (q := c + 1) hx h (xk_st1 (L := cs.2.2) hb) (by omega) (by omega) (by omega)
  cases hn : oN b n (μ (c + 1)) (Z 0 0).toNat a with
  | inl q =>
    rw [hn] at f2 f4
    have hne := oN_ne hn
    refine ⟨μ1, fx_o f1, f2, hne, ?_⟩
    have f4 : am_E (d + 3) 45 0 [some (.inr (.inr 40)), some (.inr (.inr (c + 1))), some (.inl ((Z 0 0).toNat : Int)), none] [] (SH, ρ, μ, cs) = some (some (.inl q.1), (SH, ρ, μ1, cs)) := f4
    generalize q.1 = Q at *
    generalize ((Z 0 0).toNat : Int) = y at *
    simp (disch := omega) only [e40_0, e40_34, xk_0, xk_1, xk_40, xk_41, xk_42, xk_43, xk_44, xk_45, xk_46, xk_47, xk_48, xk_49, xk_50, xk_51, xk_52, xk_53, xk_54, xk_55, xk_56, xk_57, xk_58, xk_59, xk_60, xk_61, xk_62, xk_63, xk_64, xk_65, xk_66, xk_67, xk_68, xk_69, xk_70, xk_71, xk_72, xk_73, xk_74, xk_75, xk_76, xk_77, xk_78, xk_79, xk_80, xk_81, xk_82, xk_83, xk_84, xk_85, xk_86, xk_87, xk_88, xk_89, xk_90, xk_91, xk_92, xk_93, xk_94, xk_95, xk_96, xk_97, xk_98, xk_st0 hb, xk_st1 hb, xk_st10 hb, xk_st11 hb, xk_st12 hb, xk_st13 hb, xk_st14 hb, xk_st15 hb, xk_st16 hb, xk_st17 hb, xk_st18 hb, xk_st2 hb, xk_st3 hb, xk_st4 hb, xk_st5 hb, xk_st6 hb, xk_st7 hb, xk_st8 hb, xk_st9 hb, xm_0_0 hx, xm_0_10 hx, xm_0_11 hx, xm_0_12 hx, xm_0_13 hx, xm_0_14 hx, xm_0_15 hx, xm_0_2 hx, xm_0_9 hx, xm_40_0 hx, xm_40_1 hx, xm_41_0 hx, xm_44_0 hx, xm_44_1 hx, xm_73_4 hx, xm_73_5 hx, xm_73_6 hx, xm_77_1 hx, xm_77_2 hx, xm_77_3 hx, xm_77_4 hx, xm_77_5 hx, xm_77_6 hx, xm_77_7 hx, xm_77_8 hx, xm_77_9 hx, xm_87_2 hx, xm_87_3 hx, xm_87_4 hx, xm_87_5 hx, xm_87_6 hx, xm_87_7 hx, xm_87_8 hx, xm_lw2 hx hb, xm_lw3 hx hb, xm_lw4 hx hb, xm_lw5 hx hb, xm_st1 hx hb, xm_st10 hx hb, xm_st11 hx hb, xm_st13 hx hb, xm_st14 hx hb, xm_st15 hx hb, xm_st16 hx hb, xm_st17 hx hb, xm_st2 hx hb, xm_st4 hx hb, xm_st5 hx hb, xm_st6 hx hb, xm_st7 hx hb, xm_st9 hx hb, ite_self, Bool.false_eq_true, eq_self, isk_t, i20_t, w20_t, l23_t, b21_t, b22_t, w_t, bif_t, bif_f, bif_d, if_pos, if_neg, if_true, if_false, not_true_eq_false, not_false_eq_true, Option.bind_some, Option.toList_some, Option.toList_none, List.cons_append, List.nil_append, Int.toNat_natCast, Int.reduceToNat, up_eq, up_p, up_k, sN,  hs, x3', x0', f4 ]
  | inr q =>
    rw [hn] at f2 f4
    have f3 := (f3 q hn).1
    have f2 : XTk ρ μ1 b n q.2 := f2
    have f4 : am_E (d + 3) 45 0 [some (.inr (.inr 40)), some (.inr (.inr (c + 1))), some (.inl ((Z 0 0).toNat : Int)), none] [] (SH, ρ, μ, cs) = some (some (.inl 0), (SH, ρ, μ1, cs)) := f4
    have hX1 : XS (am_up μ1 (c + 7) i (μ1 40 5)) c Z := by
      obtain ⟨A, B, c1, c2, c3, c4⟩ := hX
      have hf : ∀ q k, c ≤ q → q < c + 19 → ¬ (q = c + 7 ∧ k = i) → (am_up μ1 (c + 7) i (μ1 40 5)) q k = μ q k := fun q k q0 q1 n1 => by rw [am_up_no n1, f1 _ _ (by omega) (by omega)]
      refine ⟨?_, ?_, fun k h0 h1 => ?_, fun k h0 h1 => ?_, fun k h0 h1 => ?_, ?_⟩
      · simp (disch := omega) only [hf]; exact A
      · simp (disch := omega) only [hf]; exact B
      · simp (disch := omega) only [hf]; exact c1 k h0 h1
      · simp (disch := omega) only [hf]; exact c2 k h0 h1
      · simp (disch := omega) only [hf]; exact c3 k h0 h1
      · refine ⟨fun k h0 h1 => ?_, fun k h0 h1 => ?_, fun r k h0 h1 h2 h3 => ?_⟩
        · simp (disch := omega) only [hf]; exact c4.1 k h0 h1
        · simp (disch := omega) only [hf]; exact c4.2.1 k h0 h1
        · simp (disch := omega) only [hf]; exact c4.2.2 r k h0 h1 h2 h3
    have x1'' : μ1 c 0 = ((Z 0 0).toNat : Int) := by rw [f1 _ _ (by omega) (by omega)]; exact x0'
    show XLo ρ cs b n c ts μ _ (bnd (oN b n (nmR Z 1) (Z 0 0).toNat q.2) _)
    rw [xn1 hX1 hS]
    obtain ⟨μ2, g1, g2, g3, g4⟩ := X_oN (d := d) (cs := cs) (c := (Z 0 0).toNat) (q := c + 1) hx (xt_up (q := c + 7) (k := i) (v := μ1 40 5) f2 (by omega)) (xk_st1 (L := cs.2.2) hb) (by omega) (by omega) (by omega)
    have fr2 : FX c μ μ2 := fx_tr (fx_up (fx_o f1) (by omega)) (fx_o g1)
    have w7 : μ2 (c + 7) i = q.1 := by rw [g1 _ _ (by omega) (by omega), up_eq]; exact f3
    cases hm : oN b n (am_up μ1 (c + 7) i (μ1 40 5) (c + 1)) (Z 0 0).toNat q.2 with
    | inl y =>
      rw [hm] at g2 g4
      have hne := oN_ne hm
      refine ⟨μ2, fr2, g2, hne, ?_⟩
      have g4 : am_E (d + 3) 45 0 [some (.inr (.inr 40)), some (.inr (.inr (c + 1))), some (.inl ((Z 0 0).toNat : Int)), none] [] (SH, ρ, am_up μ1 (c + 7) i (μ1 40 5), cs) = some (some (.inl y.1), (SH, ρ, μ2, cs)) := g4
      generalize y.1 = Q at *
      generalize ((Z 0 0).toNat : Int) = y at *
      simp (disch := omega) only [e40_0, e40_34, e40_70, xk_0, xk_1, xk_40, xk_41, xk_42, xk_43, xk_44, xk_45, xk_46, xk_47, xk_48, xk_49, xk_50, xk_51, xk_52, xk_53, xk_54, xk_55, xk_56, xk_57, xk_58, xk_59, xk_60, xk_61, xk_62, xk_63, xk_64, xk_65, xk_66, xk_67, xk_68, xk_69, xk_70, xk_71, xk_72, xk_73, xk_74, xk_75, xk_76, xk_77, xk_78, xk_79, xk_80, xk_81, xk_82, xk_83, xk_84, xk_85, xk_86, xk_87, xk_88, xk_89, xk_90, xk_91, xk_92, xk_93, xk_94, xk_95, xk_96, xk_97, xk_98, xk_st0 hb, xk_st1 hb, xk_st10 hb, xk_st11 hb, xk_st12 hb, xk_st13 hb, xk_st14 hb, xk_st15 hb, xk_st16 hb, xk_st17 hb, xk_st18 hb, xk_st2 hb, xk_st3 hb, xk_st4 hb, xk_st5 hb, xk_st6 hb, xk_st7 hb, xk_st8 hb, xk_st9 hb, xm_0_0 hx, xm_0_10 hx, xm_0_11 hx, xm_0_12 hx, xm_0_13 hx, xm_0_14 hx, xm_0_15 hx, xm_0_2 hx, xm_0_9 hx, xm_40_0 hx, xm_40_1 hx, xm_41_0 hx, xm_44_0 hx, xm_44_1 hx, xm_73_4 hx, xm_73_5 hx, xm_73_6 hx, xm_77_1 hx, xm_77_2 hx, xm_77_3 hx, xm_77_4 hx, xm_77_5 hx, xm_77_6 hx, xm_77_7 hx, xm_77_8 hx, xm_77_9 hx, xm_87_2 hx, xm_87_3 hx, xm_87_4 hx, xm_87_5 hx, xm_87_6 hx, xm_87_7 hx, xm_87_8 hx, xm_lw2 hx hb, xm_lw3 hx hb, xm_lw4 hx hb, xm_lw5 hx hb, xm_st1 hx hb, xm_st10 hx hb, xm_st11 hx hb, xm_st13 hx hb, xm_st14 hx hb, xm_st15 hx hb, xm_st16 hx hb, xm_st17 hx hb, xm_st2 hx hb, xm_st4 hx hb, xm_st5 hx hb, xm_st6 hx hb, xm_st7 hx hb, xm_st9 hx hb, ite_self, Bool.false_eq_true, eq_self, isk_t, i20_t, w20_t, l23_t, b21_t, b22_t, w_t, bif_t, bif_f, bif_d, if_pos, if_neg, if_true, if_false, not_true_eq_false, not_false_eq_true, Option.bind_some, Option.toList_some, Option.toList_none, List.cons_append, List.nil_append, Int.toNat_natCast, Int.reduceToNat, up_eq, up_p, up_k, sN,  hs, x3', x0', x1'', f4, g4 ]
    | inr w =>
      rw [hm] at g2 g4
      have g6 := (g3 w hm).2
      have g3 := (g3 w hm).1
      have g2 : XTk ρ μ2 b n w.2 := g2
      have g4 : am_E (d + 3) 45 0 [some (.inr (.inr 40)), some (.inr (.inr (c + 1))), some (.inl ((Z 0 0).toNat : Int)), none] [] (SH, ρ, am_up μ1 (c + 7) i (μ1 40 5), cs) = some (some (.inl 0), (SH, ρ, μ2, cs)) := g4
      show XLo ρ cs b n c ts μ _ (if w.1 = q.1 then _ else _)
      by_cases cw : w.1 = q.1
      · rw [if_pos cw]
        refine ⟨am_up μ2 (c + 8) i (μ2 40 5), fx_up fr2 (by omega), by rw [up_p (by omega)]; exact g6, by simp, ?_⟩
        have e9 : μ2 40 5 = q.1 := g3.trans cw
        generalize ((Z 0 0).toNat : Int) = y at *
        simp (disch := omega) only [e40_0, e40_34, e40_70, e40_120, xk_0, xk_1, xk_40, xk_41, xk_42, xk_43, xk_44, xk_45, xk_46, xk_47, xk_48, xk_49, xk_50, xk_51, xk_52, xk_53, xk_54, xk_55, xk_56, xk_57, xk_58, xk_59, xk_60, xk_61, xk_62, xk_63, xk_64, xk_65, xk_66, xk_67, xk_68, xk_69, xk_70, xk_71, xk_72, xk_73, xk_74, xk_75, xk_76, xk_77, xk_78, xk_79, xk_80, xk_81, xk_82, xk_83, xk_84, xk_85, xk_86, xk_87, xk_88, xk_89, xk_90, xk_91, xk_92, xk_93, xk_94, xk_95, xk_96, xk_97, xk_98, xk_st0 hb, xk_st1 hb, xk_st10 hb, xk_st11 hb, xk_st12 hb, xk_st13 hb, xk_st14 hb, xk_st15 hb, xk_st16 hb, xk_st17 hb, xk_st18 hb, xk_st2 hb, xk_st3 hb, xk_st4 hb, xk_st5 hb, xk_st6 hb, xk_st7 hb, xk_st8 hb, xk_st9 hb, xm_0_0 hx, xm_0_10 hx, xm_0_11 hx, xm_0_12 hx, xm_0_13 hx, xm_0_14 hx, xm_0_15 hx, xm_0_2 hx, xm_0_9 hx, xm_40_0 hx, xm_40_1 hx, xm_41_0 hx, xm_44_0 hx, xm_44_1 hx, xm_73_4 hx, xm_73_5 hx, xm_73_6 hx, xm_77_1 hx, xm_77_2 hx, xm_77_3 hx, xm_77_4 hx, xm_77_5 hx, xm_77_6 hx, xm_77_7 hx, xm_77_8 hx, xm_77_9 hx, xm_87_2 hx, xm_87_3 hx, xm_87_4 hx, xm_87_5 hx, xm_87_6 hx, xm_87_7 hx, xm_87_8 hx, xm_lw2 hx hb, xm_lw3 hx hb, xm_lw4 hx hb, xm_lw5 hx hb, xm_st1 hx hb, xm_st10 hx hb, xm_st11 hx hb, xm_st13 hx hb, xm_st14 hx hb, xm_st15 hx hb, xm_st16 hx hb, xm_st17 hx hb, xm_st2 hx hb, xm_st4 hx hb, xm_st5 hx hb, xm_st6 hx hb, xm_st7 hx hb, xm_st9 hx hb, ite_self, Bool.false_eq_true, eq_self, isk_t, i20_t, w20_t, l23_t, b21_t, b22_t, w_t, bif_t, bif_f, bif_d, if_pos, if_neg, if_true, if_false, not_true_eq_false, not_false_eq_true, Option.bind_some, Option.toList_some, Option.toList_none, List.cons_append, List.nil_append, Int.toNat_natCast, Int.reduceToNat, up_eq, up_p, up_k, sN,  hs, x3', x0', x1'', f4, g4, w7, e9 ]
      · rw [if_neg cw]
        obtain ⟨μ4, l1, l2, l3, l4⟩ := X_nU (d := d) (cs := cs) (lo := 1) (hi := 9) hx (xt_up (q := c + 8) (k := i) (v := μ2 40 5) g2 (by omega)) (by omega) (by omega) (by omega)
        have fr4 : FX c μ μ4 := fx_tr (fx_up fr2 (by omega)) (fx_ft l1)
        have e8 : ¬ w.1 = q.1 := cw
        cases hm2 : nU b n 1 9 w.2 with
        | inl y =>
          rw [hm2] at l2 l4
          have hne := nU_ne hm2
          refine ⟨μ4, fr4, l2, hne, ?_⟩
          have l4 : am_E (d + 3) 46 0 [some (.inr (.inr 40)), some (.inl 1), some (.inl 9)] [] (SH, ρ, am_up μ2 (c + 8) i (μ2 40 5), cs) = some (some (.inl y.1), (SH, ρ, μ4, cs)) := l4
          generalize y.1 = Q at *
          generalize ((Z 0 0).toNat : Int) = y at *
          rw [g3] at l4
          simp (disch := omega) only [e40_0, e40_34, e40_70, e40_120, xk_0, xk_1, xk_40, xk_41, xk_42, xk_43, xk_44, xk_45, xk_46, xk_47, xk_48, xk_49, xk_50, xk_51, xk_52, xk_53, xk_54, xk_55, xk_56, xk_57, xk_58, xk_59, xk_60, xk_61, xk_62, xk_63, xk_64, xk_65, xk_66, xk_67, xk_68, xk_69, xk_70, xk_71, xk_72, xk_73, xk_74, xk_75, xk_76, xk_77, xk_78, xk_79, xk_80, xk_81, xk_82, xk_83, xk_84, xk_85, xk_86, xk_87, xk_88, xk_89, xk_90, xk_91, xk_92, xk_93, xk_94, xk_95, xk_96, xk_97, xk_98, xk_st0 hb, xk_st1 hb, xk_st10 hb, xk_st11 hb, xk_st12 hb, xk_st13 hb, xk_st14 hb, xk_st15 hb, xk_st16 hb, xk_st17 hb, xk_st18 hb, xk_st2 hb, xk_st3 hb, xk_st4 hb, xk_st5 hb, xk_st6 hb, xk_st7 hb, xk_st8 hb, xk_st9 hb, xm_0_0 hx, xm_0_10 hx, xm_0_11 hx, xm_0_12 hx, xm_0_13 hx, xm_0_14 hx, xm_0_15 hx, xm_0_2 hx, xm_0_9 hx, xm_40_0 hx, xm_40_1 hx, xm_41_0 hx, xm_44_0 hx, xm_44_1 hx, xm_73_4 hx, xm_73_5 hx, xm_73_6 hx, xm_77_1 hx, xm_77_2 hx, xm_77_3 hx, xm_77_4 hx, xm_77_5 hx, xm_77_6 hx, xm_77_7 hx, xm_77_8 hx, xm_77_9 hx, xm_87_2 hx, xm_87_3 hx, xm_87_4 hx, xm_87_5 hx, xm_87_6 hx, xm_87_7 hx, xm_87_8 hx, xm_lw2 hx hb, xm_lw3 hx hb, xm_lw4 hx hb, xm_lw5 hx hb, xm_st1 hx hb, xm_st10 hx hb, xm_st11 hx hb, xm_st13 hx hb, xm_st14 hx hb, xm_st15 hx hb, xm_st16 hx hb, xm_st17 hx hb, xm_st2 hx hb, xm_st4 hx hb, xm_st5 hx hb, xm_st6 hx hb, xm_st7 hx hb, xm_st9 hx hb, ite_self, Bool.false_eq_true, eq_self, isk_t, i20_t, w20_t, l23_t, b21_t, b22_t, w_t, bif_t, bif_f, bif_d, if_pos, if_neg, if_true, if_false, not_true_eq_false, not_false_eq_true, Option.bind_some, Option.toList_some, Option.toList_none, List.cons_append, List.nil_append, Int.toNat_natCast, Int.reduceToNat, up_eq, up_p, up_k, sN,  hs, x3', x0', x1'', f4, g4, w7, g3, e8, l4 ]
        | inr x =>
          rw [hm2] at l2 l4
          have l3 := l3 x hm2
          have l2 : XTk ρ μ4 b n x.2 := l2
          have l4 : am_E (d + 3) 46 0 [some (.inr (.inr 40)), some (.inl 1), some (.inl 9)] [] (SH, ρ, am_up μ2 (c + 8) i (μ2 40 5), cs) = some (some (.inl 0), (SH, ρ, μ4, cs)) := l4
          have y0 : μ4 c 8 = (i : Int) := by rw [l1 _ _ (by omega), up_p (by omega), g1 _ _ (by omega) (by omega), up_p (by omega), f1 _ _ (by omega) (by omega)]; exact x3'
          show XLo ρ cs b n c ts μ _ (bnd (lE b n x.2) _)
          obtain ⟨μ3, k1, k2, k3⟩ := X_lE (d := d) (cs := cs) (μ := am_up (am_up μ4 (c + 9) i (μ4 41 5)) c 8 ((i : Int) + 1)) hx (xt_up (xt_up l2 (by omega)) (by omega))
          have fr : FX c μ μ3 := fx_tr (fx_up (fx_up fr4 (by omega)) (by omega)) (fx_ft k1)
          rw [g3] at l4
          cases he : lE b n x.2 with
          | inl y =>
            obtain ⟨z1, z2, z3⟩ := k2 y he
            refine ⟨μ3, fr, z1, by rw [z2]; decide, ?_⟩
            rw [z2]
            generalize ((Z 0 0).toNat : Int) = y at *
            simp (disch := omega) only [e40_0, e40_34, e40_70, e40_120, e40_158, xk_0, xk_1, xk_40, xk_41, xk_42, xk_43, xk_44, xk_45, xk_46, xk_47, xk_48, xk_49, xk_50, xk_51, xk_52, xk_53, xk_54, xk_55, xk_56, xk_57, xk_58, xk_59, xk_60, xk_61, xk_62, xk_63, xk_64, xk_65, xk_66, xk_67, xk_68, xk_69, xk_70, xk_71, xk_72, xk_73, xk_74, xk_75, xk_76, xk_77, xk_78, xk_79, xk_80, xk_81, xk_82, xk_83, xk_84, xk_85, xk_86, xk_87, xk_88, xk_89, xk_90, xk_91, xk_92, xk_93, xk_94, xk_95, xk_96, xk_97, xk_98, xk_st0 hb, xk_st1 hb, xk_st10 hb, xk_st11 hb, xk_st12 hb, xk_st13 hb, xk_st14 hb, xk_st15 hb, xk_st16 hb, xk_st17 hb, xk_st18 hb, xk_st2 hb, xk_st3 hb, xk_st4 hb, xk_st5 hb, xk_st6 hb, xk_st7 hb, xk_st8 hb, xk_st9 hb, xm_0_0 hx, xm_0_10 hx, xm_0_11 hx, xm_0_12 hx, xm_0_13 hx, xm_0_14 hx, xm_0_15 hx, xm_0_2 hx, xm_0_9 hx, xm_40_0 hx, xm_40_1 hx, xm_41_0 hx, xm_44_0 hx, xm_44_1 hx, xm_73_4 hx, xm_73_5 hx, xm_73_6 hx, xm_77_1 hx, xm_77_2 hx, xm_77_3 hx, xm_77_4 hx, xm_77_5 hx, xm_77_6 hx, xm_77_7 hx, xm_77_8 hx, xm_77_9 hx, xm_87_2 hx, xm_87_3 hx, xm_87_4 hx, xm_87_5 hx, xm_87_6 hx, xm_87_7 hx, xm_87_8 hx, xm_lw2 hx hb, xm_lw3 hx hb, xm_lw4 hx hb, xm_lw5 hx hb, xm_st1 hx hb, xm_st10 hx hb, xm_st11 hx hb, xm_st13 hx hb, xm_st14 hx hb, xm_st15 hx hb, xm_st16 hx hb, xm_st17 hx hb, xm_st2 hx hb, xm_st4 hx hb, xm_st5 hx hb, xm_st6 hx hb, xm_st7 hx hb, xm_st9 hx hb, ite_self, Bool.false_eq_true, eq_self, isk_t, i20_t, w20_t, l23_t, b21_t, b22_t, w_t, bif_t, bif_f, bif_d, if_pos, if_neg, if_true, if_false, not_true_eq_false, not_false_eq_true, Option.bind_some, Option.toList_some, Option.toList_none, List.cons_append, List.nil_append, Int.toNat_natCast, Int.reduceToNat, up_eq, up_p, up_k, sN,  hs, x3', x0', x1'', f4, g4, w7, g3, e8, l4, y0, z3 ]
          | inr a' =>
            obtain ⟨z1, z3⟩ := k3 a' he
            refine ⟨μ3, fr, z1, ⟨?_, ?_, ?_, h5, ?_⟩, ?_⟩
            · refine xs_way hX hi (fun q k q0 q1 n1 n2 n3 n4 => ?_) ?_ ?_ ?_ ?_
              · rw [k1 _ _ (by omega), am_up_no n4, am_up_no n3, l1 _ _ (by omega), am_up_no n2, g1 _ _ (by omega) (by omega), am_up_no n1, f1 _ _ (by omega) (by omega)]
              · rw [k1 _ _ (by omega), up_p (by omega), up_p (by omega), l1 _ _ (by omega), up_p (by omega)]; exact w7
              · rw [k1 _ _ (by omega), up_p (by omega), up_p (by omega), l1 _ _ (by omega), up_eq]; exact g3
              · rw [k1 _ _ (by omega), up_p (by omega), up_eq]; exact l3
              · rw [k1 _ _ (by omega), up_eq]
            · rw [k1 _ _ (by omega), up_p (by omega), up_p (by omega), l1 _ _ (by omega), up_p (by omega), g1 _ _ (by omega) (by omega), up_p (by omega), f1 _ _ (by omega) (by omega)]
              simp (disch := omega) only [zp_ne]
              exact h3
            · rw [k1 _ _ (by omega), up_p (by omega), up_p (by omega), l1 _ _ (by omega), up_p (by omega), g1 _ _ (by omega) (by omega), up_p (by omega), f1 _ _ (by omega) (by omega)]
              exact h4
            · rw [k1 _ _ (by omega), up_p (by omega), up_p (by omega), l1 _ _ (by omega), up_p (by omega), g1 _ _ (by omega) (by omega), up_p (by omega), f1 _ _ (by omega) (by omega)]
              simp (disch := omega) only [zp_ne]
              exact h6
            · generalize ((Z 0 0).toNat : Int) = y at *
              simp (disch := omega) only [e40_0, e40_34, e40_70, e40_120, e40_158, xk_0, xk_1, xk_40, xk_41, xk_42, xk_43, xk_44, xk_45, xk_46, xk_47, xk_48, xk_49, xk_50, xk_51, xk_52, xk_53, xk_54, xk_55, xk_56, xk_57, xk_58, xk_59, xk_60, xk_61, xk_62, xk_63, xk_64, xk_65, xk_66, xk_67, xk_68, xk_69, xk_70, xk_71, xk_72, xk_73, xk_74, xk_75, xk_76, xk_77, xk_78, xk_79, xk_80, xk_81, xk_82, xk_83, xk_84, xk_85, xk_86, xk_87, xk_88, xk_89, xk_90, xk_91, xk_92, xk_93, xk_94, xk_95, xk_96, xk_97, xk_98, xk_st0 hb, xk_st1 hb, xk_st10 hb, xk_st11 hb, xk_st12 hb, xk_st13 hb, xk_st14 hb, xk_st15 hb, xk_st16 hb, xk_st17 hb, xk_st18 hb, xk_st2 hb, xk_st3 hb, xk_st4 hb, xk_st5 hb, xk_st6 hb, xk_st7 hb, xk_st8 hb, xk_st9 hb, xm_0_0 hx, xm_0_10 hx, xm_0_11 hx, xm_0_12 hx, xm_0_13 hx, xm_0_14 hx, xm_0_15 hx, xm_0_2 hx, xm_0_9 hx, xm_40_0 hx, xm_40_1 hx, xm_41_0 hx, xm_44_0 hx, xm_44_1 hx, xm_73_4 hx, xm_73_5 hx, xm_73_6 hx, xm_77_1 hx, xm_77_2 hx, xm_77_3 hx, xm_77_4 hx, xm_77_5 hx, xm_77_6 hx, xm_77_7 hx, xm_77_8 hx, xm_77_9 hx, xm_87_2 hx, xm_87_3 hx, xm_87_4 hx, xm_87_5 hx, xm_87_6 hx, xm_87_7 hx, xm_87_8 hx, xm_lw2 hx hb, xm_lw3 hx hb, xm_lw4 hx hb, xm_lw5 hx hb, xm_st1 hx hb, xm_st10 hx hb, xm_st11 hx hb, xm_st13 hx hb, xm_st14 hx hb, xm_st15 hx hb, xm_st16 hx hb, xm_st17 hx hb, xm_st2 hx hb, xm_st4 hx hb, xm_st5 hx hb, xm_st6 hx hb, xm_st7 hx hb, xm_st9 hx hb, ite_self, Bool.false_eq_true, eq_self, isk_t, i20_t, w20_t, l23_t, b21_t, b22_t, w_t, bif_t, bif_f, bif_d, if_pos, if_neg, if_true, if_false, not_true_eq_false, not_false_eq_true, Option.bind_some, Option.toList_some, Option.toList_none, List.cons_append, List.nil_append, Int.toNat_natCast, Int.reduceToNat, up_eq, up_p, up_k, sN,  hs, x3', x0', x1'', f4, g4, w7, g3, e8, l4, y0, z3 ]
theorem X_tell2 (hx : XM ρ) (hb : c = 2 ∨ c = 21) (hs : ρ 40 2 = c) (h : XTk ρ μ b n a) (hP : XP μ c Z ts) (hS : SI Z) (hk : μ 41 6 = (pk : Int)) : XLo ρ cs b n c ts μ (am_E (d + 4) 41 0 [some (.inr (.inr 40)), none, none] [] (SH, ρ, μ, cs)) (pTell b n Z pk a) := by
  obtain ⟨hX, h3, h4, h5, h6⟩ := hP
  have x0 := hX.1.1
  have x1 := hX.1.2.1
  have x3 := hX.1.2.2.2
  have b0 := hS.1
  have b1 := hS.2.1
  have b3 := hS.2.2.2.2.1
  unfold pTell
  by_cases c0 : 12 ≤ Z 0 4
  · rw [if_pos c0]
    refine ⟨μ, fx_rf c μ, hk, by simp, ?_⟩
    simp (disch := omega) only [e41_0, xk_0, xk_1, xk_40, xk_41, xk_42, xk_43, xk_44, xk_45, xk_46, xk_47, xk_48, xk_49, xk_50, xk_51, xk_52, xk_53, xk_54, xk_55, xk_56, xk_57, xk_58, xk_59, xk_60, xk_61, xk_62, xk_63, xk_64, xk_65, xk_66, xk_67, xk_68, xk_69, xk_70, xk_71, xk_72, xk_73, xk_74, xk_75, xk_76, xk_77, xk_78, xk_79, xk_80, xk_81, xk_82, xk_83, xk_84, xk_85, xk_86, xk_87, xk_88, xk_89, xk_90, xk_91, xk_92, xk_93, xk_94, xk_95, xk_96, xk_97, xk_98, xk_st0 hb, xk_st1 hb, xk_st10 hb, xk_st11 hb, xk_st12 hb, xk_st13 hb, xk_st14 hb, xk_st15 hb, xk_st16 hb, xk_st17 hb, xk_st18 hb, xk_st2 hb, xk_st3 hb, xk_st4 hb, xk_st5 hb, xk_st6 hb, xk_st7 hb, xk_st8 hb, xk_st9 hb, xm_0_0 hx, xm_0_10 hx, xm_0_11 hx, xm_0_12 hx, xm_0_13 hx, xm_0_14 hx, xm_0_15 hx, xm_0_2 hx, xm_0_9 hx, xm_40_0 hx, xm_40_1 hx, xm_41_0 hx, xm_44_0 hx, xm_44_1 hx, xm_73_4 hx, xm_73_5 hx, xm_73_6 hx, xm_77_1 hx, xm_77_2 hx, xm_77_3 hx, xm_77_4 hx, xm_77_5 hx, xm_77_6 hx, xm_77_7 hx, xm_77_8 hx, xm_77_9 hx, xm_87_2 hx, xm_87_3 hx, xm_87_4 hx, xm_87_5 hx, xm_87_6 hx, xm_87_7 hx, xm_87_8 hx, xm_lw2 hx hb, xm_lw3 hx hb, xm_lw4 hx hb, xm_lw5 hx hb, xm_st1 hx hb, xm_st10 hx hb, xm_st11 hx hb, xm_st13 hx hb, xm_st14 hx hb, xm_st15 hx hb, xm_st16 hx hb, xm_st17 hx hb, xm_st2 hx hb, xm_st4 hx hb, xm_st5 hx hb, xm_st6 hx hb, xm_st7 hx hb, xm_st9 hx hb, ite_self, Bool.false_eq_true, eq_self, isk_t, i20_t, w20_t, l23_t, b21_t, b22_t, w_t, bif_t, bif_f, bif_d, if_pos, if_neg, if_true, if_false, not_true_eq_false, not_false_eq_true, Option.bind_some, Option.toList_some, Option.toList_none, List.cons_append, List.nil_append, Int.toNat_natCast, Int.reduceToNat, up_eq, up_p, up_k, sN,  hs, x3 ]
  rw [if_neg c0]
  obtain ⟨i, hi⟩ := Int.eq_ofNat_of_zero_le b3.1
  have x3' : μ c 12 = (i : Int) := x3.trans hi
  have e44 : i < 12 := by omega
  have x0' : μ c 0 = ((Z 0 0).toNat : Int) := by omega
  have x1' : μ c 3 = ((Z 0 1).toNat : Int) := by omega
  rw [xn1 hX hS]
  obtain ⟨μ1, f1, f2, f3, f4⟩ := X_oN (d := d) (cs := cs) (c := (Z 0 0).toNat) (q := c + 1) hx h (xk_st1 (L := cs.2.2) hb) (by omega) (by omega) (by omega)
  cases hn : oN b n (μ (c + 1)) (Z 0 0).toNat a with
  | inl q =>
    rw [hn] at f2 f4
    have hne := oN_ne hn
    refine ⟨μ1, fx_o f1, f2, hne, ?_⟩
    have f4 : am_E (d + 3) 45 0 [some (.inr (.inr 40)), some (.inr (.inr (c + 1))), some (.inl ((Z 0 0).toNat : Int)), none] [] (SH, ρ, μ, cs) = some (some (.inl q.1), (SH, ρ, μ1, cs)) := f4
    generalize q.1 = Q at *
    generalize ((Z 0 0).toNat : Int) = y at *
    simp (disch := omega) only [e41_0, e41_34, xk_0, xk_1, xk_40, xk_41, xk_42, xk_43, xk_44, xk_45, xk_46, xk_47, xk_48, xk_49, xk_50, xk_51, xk_52, xk_53, xk_54, xk_55, xk_56, xk_57, xk_58, xk_59, xk_60, xk_61, xk_62, xk_63, xk_64, xk_65, xk_66, xk_67, xk_68, xk_69, xk_70, xk_71, xk_72, xk_73, xk_74, xk_75, xk_76, xk_77, xk_78, xk_79, xk_80, xk_81, xk_82, xk_83, xk_84, xk_85, xk_86, xk_87, xk_88, xk_89, xk_90, xk_91, xk_92, xk_93, xk_94, xk_95, xk_96, xk_97, xk_98, xk_st0 hb, xk_st1 hb, xk_st10 hb, xk_st11 hb, xk_st12 hb, xk_st13 hb, xk_st14 hb, xk_st15 hb, xk_st16 hb, xk_st17 hb, xk_st18 hb, xk_st2 hb, xk_st3 hb, xk_st4 hb, xk_st5 hb, xk_st6 hb, xk_st7 hb, xk_st8 hb, xk_st9 hb, xm_0_0 hx, xm_0_10 hx, xm_0_11 hx, xm_0_12 hx, xm_0_13 hx, xm_0_14 hx, xm_0_15 hx, xm_0_2 hx, xm_0_9 hx, xm_40_0 hx, xm_40_1 hx, xm_41_0 hx, xm_44_0 hx, xm_44_1 hx, xm_73_4 hx, xm_73_5 hx, xm_73_6 hx, xm_77_1 hx, xm_77_2 hx, xm_77_3 hx, xm_77_4 hx, xm_77_5 hx, xm_77_6 hx, xm_77_7 hx, xm_77_8 hx, xm_77_9 hx, xm_87_2 hx, xm_87_3 hx, xm_87_4 hx, xm_87_5 hx, xm_87_6 hx, xm_87_7 hx, xm_87_8 hx, xm_lw2 hx hb, xm_lw3 hx hb, xm_lw4 hx hb, xm_lw5 hx hb, xm_st1 hx hb, xm_st10 hx hb, xm_st11 hx hb, xm_st13 hx hb, xm_st14 hx hb, xm_st15 hx hb, xm_st16 hx hb, xm_st17 hx hb, xm_st2 hx hb, xm_st4 hx hb, xm_st5 hx hb, xm_st6 hx hb, xm_st7 hx hb, xm_st9 hx hb, ite_self, Bool.false_eq_true, eq_self, isk_t, i20_t, w20_t, l23_t, b21_t, b22_t, w_t, bif_t, bif_f, bif_d, if_pos, if_neg, if_true, if_false, not_true_eq_false, not_false_eq_true, Option.bind_some, Option.toList_some, Option.toList_none, List.cons_append, List.nil_append, Int.toNat_natCast, Int.reduceToNat, up_eq, up_p, up_k, sN,  hs, x3', x0', f4 ]
  | inr q =>
    rw [hn] at f2 f4
    have f3 := (f3 q hn).1
    have f2 : XTk ρ μ1 b n q.2 := f2
    have f4 : am_E (d + 3) 45 0 [some (.inr (.inr 40)), some (.inr (.inr (c + 1))), some (.inl ((Z 0 0).toNat : Int)), none] [] (SH, ρ, μ, cs) = some (some (.inl 0), (SH, ρ, μ1, cs)) := f4
    have hX1 : XS (am_up μ1 (c + 10) i (μ1 40 5)) c Z := by
      obtain ⟨A, B, c1, c2, c3, c4⟩ := hX
      have hf : ∀ q k, c ≤ q → q < c + 19 → ¬ (q = c + 10 ∧ k = i) → (am_up μ1 (c + 10) i (μ1 40 5)) q k = μ q k := fun q k q0 q1 n1 => by rw [am_up_no n1, f1 _ _ (by omega) (by omega)]
      refine ⟨?_, ?_, fun k h0 h1 => ?_, fun k h0 h1 => ?_, fun k h0 h1 => ?_, ?_⟩
      · simp (disch := omega) only [hf]; exact A
      · simp (disch := omega) only [hf]; exact B
      · simp (disch := omega) only [hf]; exact c1 k h0 h1
      · simp (disch := omega) only [hf]; exact c2 k h0 h1
      · simp (disch := omega) only [hf]; exact c3 k h0 h1
      · refine ⟨fun k h0 h1 => ?_, fun k h0 h1 => ?_, fun r k h0 h1 h2 h3 => ?_⟩
        · simp (disch := omega) only [hf]; exact c4.1 k h0 h1
        · simp (disch := omega) only [hf]; exact c4.2.1 k h0 h1
        · simp (disch := omega) only [hf]; exact c4.2.2 r k h0 h1 h2 h3
    have x1'' : μ1 c 3 = ((Z 0 1).toNat : Int) := by rw [f1 _ _ (by omega) (by omega)]; exact x1'
    show XLo ρ cs b n c ts μ _ (bnd (oN b n (nmR Z 3) (Z 0 1).toNat q.2) _)
    rw [xn3 hX1 hS]
    obtain ⟨μ2, g1, g2, g3, g4⟩ := X_oN (d := d) (cs := cs) (c := (Z 0 1).toNat) (q := c + 3) hx (xt_up (q := c + 10) (k := i) (v := μ1 40 5) f2 (by omega)) (xk_st3 (L := cs.2.2) hb) (by omega) (by omega) (by omega)
    have fr2 : FX c μ μ2 := fx_tr (fx_up (fx_o f1) (by omega)) (fx_o g1)
    cases hm : oN b n (am_up μ1 (c + 10) i (μ1 40 5) (c + 3)) (Z 0 1).toNat q.2 with
    | inl y =>
      rw [hm] at g2 g4
      have hne := oN_ne hm
      refine ⟨μ2, fr2, g2, hne, ?_⟩
      have g4 : am_E (d + 3) 45 0 [some (.inr (.inr 40)), some (.inr (.inr (c + 3))), some (.inl ((Z 0 1).toNat : Int)), none] [] (SH, ρ, am_up μ1 (c + 10) i (μ1 40 5), cs) = some (some (.inl y.1), (SH, ρ, μ2, cs)) := g4
      generalize y.1 = Q at *
      generalize ((Z 0 0).toNat : Int) = y at *
      generalize ((Z 0 1).toNat : Int) = y1 at *
      simp (disch := omega) only [e41_0, e41_34, e41_70, xk_0, xk_1, xk_40, xk_41, xk_42, xk_43, xk_44, xk_45, xk_46, xk_47, xk_48, xk_49, xk_50, xk_51, xk_52, xk_53, xk_54, xk_55, xk_56, xk_57, xk_58, xk_59, xk_60, xk_61, xk_62, xk_63, xk_64, xk_65, xk_66, xk_67, xk_68, xk_69, xk_70, xk_71, xk_72, xk_73, xk_74, xk_75, xk_76, xk_77, xk_78, xk_79, xk_80, xk_81, xk_82, xk_83, xk_84, xk_85, xk_86, xk_87, xk_88, xk_89, xk_90, xk_91, xk_92, xk_93, xk_94, xk_95, xk_96, xk_97, xk_98, xk_st0 hb, xk_st1 hb, xk_st10 hb, xk_st11 hb, xk_st12 hb, xk_st13 hb, xk_st14 hb, xk_st15 hb, xk_st16 hb, xk_st17 hb, xk_st18 hb, xk_st2 hb, xk_st3 hb, xk_st4 hb, xk_st5 hb, xk_st6 hb, xk_st7 hb, xk_st8 hb, xk_st9 hb, xm_0_0 hx, xm_0_10 hx, xm_0_11 hx, xm_0_12 hx, xm_0_13 hx, xm_0_14 hx, xm_0_15 hx, xm_0_2 hx, xm_0_9 hx, xm_40_0 hx, xm_40_1 hx, xm_41_0 hx, xm_44_0 hx, xm_44_1 hx, xm_73_4 hx, xm_73_5 hx, xm_73_6 hx, xm_77_1 hx, xm_77_2 hx, xm_77_3 hx, xm_77_4 hx, xm_77_5 hx, xm_77_6 hx, xm_77_7 hx, xm_77_8 hx, xm_77_9 hx, xm_87_2 hx, xm_87_3 hx, xm_87_4 hx, xm_87_5 hx, xm_87_6 hx, xm_87_7 hx, xm_87_8 hx, xm_lw2 hx hb, xm_lw3 hx hb, xm_lw4 hx hb, xm_lw5 hx hb, xm_st1 hx hb, xm_st10 hx hb, xm_st11 hx hb, xm_st13 hx hb, xm_st14 hx hb, xm_st15 hx hb, xm_st16 hx hb, xm_st17 hx hb, xm_st2 hx hb, xm_st4 hx hb, xm_st5 hx hb, xm_st6 hx hb, xm_st7 hx hb, xm_st9 hx hb, ite_self, Bool.false_eq_true, eq_self, isk_t, i20_t, w20_t, l23_t, b21_t, b22_t, w_t, bif_t, bif_f, bif_d, if_pos, if_neg, if_true, if_false, not_true_eq_false, not_false_eq_true, Option.bind_some, Option.toList_some, Option.toList_none, List.cons_append, List.nil_append, Int.toNat_natCast, Int.reduceToNat, up_eq, up_p, up_k, sN,  hs, x3', x0', x1'', f4, g4 ]
    | inr w =>
      rw [hm] at g2 g4
      have g3 := (g3 w hm).1
      have g2 : XTk ρ μ2 b n w.2 := g2
      have g4 : am_E (d + 3) 45 0 [some (.inr (.inr 40)), some (.inr (.inr (c + 3))), some (.inl ((Z 0 1).toNat : Int)), none] [] (SH, ρ, am_up μ1 (c + 10) i (μ1 40 5), cs) = some (some (.inl 0), (SH, ρ, μ2, cs)) := g4
      show XLo ρ cs b n c ts μ _ (bnd (nU b n 0 99 w.2) _)
      obtain ⟨μ4, l1, l2, l3, l4⟩ := X_nU (d := d) (cs := cs) (lo := 0) (hi := 99) hx (xt_up (q := c + 11) (k := i) (v := μ2 40 5) g2 (by omega)) (by omega) (by omega) (by omega)
      have fr4 : FX c μ μ4 := fx_tr (fx_up fr2 (by omega)) (fx_ft l1)
      cases hm2 : nU b n 0 99 w.2 with
      | inl y =>
        rw [hm2] at l2 l4
        have hne := nU_ne hm2
        refine ⟨μ4, fr4, l2, hne, ?_⟩
        have l4 : am_E (d + 3) 46 0 [some (.inr (.inr 40)), some (.inl 0), some (.inl 99)] [] (SH, ρ, am_up μ2 (c + 11) i (μ2 40 5), cs) = some (some (.inl y.1), (SH, ρ, μ4, cs)) := l4
        generalize y.1 = Q at *
        generalize ((Z 0 0).toNat : Int) = y at *
        generalize ((Z 0 1).toNat : Int) = y1 at *
        simp (disch := omega) only [e41_0, e41_34, e41_70, e41_95, xk_0, xk_1, xk_40, xk_41, xk_42, xk_43, xk_44, xk_45, xk_46, xk_47, xk_48, xk_49, xk_50, xk_51, xk_52, xk_53, xk_54, xk_55, xk_56, xk_57, xk_58, xk_59, xk_60, xk_61, xk_62, xk_63, xk_64, xk_65, xk_66, xk_67, xk_68, xk_69, xk_70, xk_71, xk_72, xk_73, xk_74, xk_75, xk_76, xk_77, xk_78, xk_79, xk_80, xk_81, xk_82, xk_83, xk_84, xk_85, xk_86, xk_87, xk_88, xk_89, xk_90, xk_91, xk_92, xk_93, xk_94, xk_95, xk_96, xk_97, xk_98, xk_st0 hb, xk_st1 hb, xk_st10 hb, xk_st11 hb, xk_st12 hb, xk_st13 hb, xk_st14 hb, xk_st15 hb, xk_st16 hb, xk_st17 hb, xk_st18 hb, xk_st2 hb, xk_st3 hb, xk_st4 hb, xk_st5 hb, xk_st6 hb, xk_st7 hb, xk_st8 hb, xk_st9 hb, xm_0_0 hx, xm_0_10 hx, xm_0_11 hx, xm_0_12 hx, xm_0_13 hx, xm_0_14 hx, xm_0_15 hx, xm_0_2 hx, xm_0_9 hx, xm_40_0 hx, xm_40_1 hx, xm_41_0 hx, xm_44_0 hx, xm_44_1 hx, xm_73_4 hx, xm_73_5 hx, xm_73_6 hx, xm_77_1 hx, xm_77_2 hx, xm_77_3 hx, xm_77_4 hx, xm_77_5 hx, xm_77_6 hx, xm_77_7 hx, xm_77_8 hx, xm_77_9 hx, xm_87_2 hx, xm_87_3 hx, xm_87_4 hx, xm_87_5 hx, xm_87_6 hx, xm_87_7 hx, xm_87_8 hx, xm_lw2 hx hb, xm_lw3 hx hb, xm_lw4 hx hb, xm_lw5 hx hb, xm_st1 hx hb, xm_st10 hx hb, xm_st11 hx hb, xm_st13 hx hb, xm_st14 hx hb, xm_st15 hx hb, xm_st16 hx hb, xm_st17 hx hb, xm_st2 hx hb, xm_st4 hx hb, xm_st5 hx hb, xm_st6 hx hb, xm_st7 hx hb, xm_st9 hx hb, ite_self, Bool.false_eq_true, eq_self, isk_t, i20_t, w20_t, l23_t, b21_t, b22_t, w_t, bif_t, bif_f, bif_d, if_pos, if_neg, if_true, if_false, not_true_eq_false, not_false_eq_true, Option.bind_some, Option.toList_some, Option.toList_none, List.cons_append, List.nil_append, Int.toNat_natCast, Int.reduceToNat, up_eq, up_p, up_k, sN,  hs, x3', x0', x1'', f4, g4, l4 ]
      | inr x =>
        rw [hm2] at l2 l4
        have l3 := l3 x hm2
        have l2 : XTk ρ μ4 b n x.2 := l2
        have l4 : am_E (d + 3) 46 0 [some (.inr (.inr 40)), some (.inl 0), some (.inl 99)] [] (SH, ρ, am_up μ2 (c + 11) i (μ2 40 5), cs) = some (some (.inl 0), (SH, ρ, μ4, cs)) := l4
        have y0 : μ4 c 12 = (i : Int) := by rw [l1 _ _ (by omega), up_p (by omega), g1 _ _ (by omega) (by omega), up_p (by omega), f1 _ _ (by omega) (by omega)]; exact x3'
        show XLo ρ cs b n c ts μ _ (bnd (lE b n x.2) _)
        obtain ⟨μ3, k1, k2, k3⟩ := X_lE (d := d) (cs := cs) (μ := am_up (am_up μ4 (c + 12) i (μ4 41 5)) c 12 ((i : Int) + 1)) hx (xt_up (xt_up l2 (by omega)) (by omega))
        have fr : FX c μ μ3 := fx_tr (fx_up (fx_up fr4 (by omega)) (by omega)) (fx_ft k1)
        cases he : lE b n x.2 with
        | inl y =>
          obtain ⟨z1, z2, z3⟩ := k2 y he
          refine ⟨μ3, fr, z1, by rw [z2]; decide, ?_⟩
          rw [z2]
          generalize ((Z 0 0).toNat : Int) = y at *
          generalize ((Z 0 1).toNat : Int) = y1 at *
          simp (disch := omega) only [e41_0, e41_34, e41_70, e41_95, e41_133, xk_0, xk_1, xk_40, xk_41, xk_42, xk_43, xk_44, xk_45, xk_46, xk_47, xk_48, xk_49, xk_50, xk_51, xk_52, xk_53, xk_54, xk_55, xk_56, xk_57, xk_58, xk_59, xk_60, xk_61, xk_62, xk_63, xk_64, xk_65, xk_66, xk_67, xk_68, xk_69, xk_70, xk_71, xk_72, xk_73, xk_74, xk_75, xk_76, xk_77, xk_78, xk_79, xk_80, xk_81, xk_82, xk_83, xk_84, xk_85, xk_86, xk_87, xk_88, xk_89, xk_90, xk_91, xk_92, xk_93, xk_94, xk_95, xk_96, xk_97, xk_98, xk_st0 hb, xk_st1 hb, xk_st10 hb, xk_st11 hb, xk_st12 hb, xk_st13 hb, xk_st14 hb, xk_st15 hb, xk_st16 hb, xk_st17 hb, xk_st18 hb, xk_st2 hb, xk_st3 hb, xk_st4 hb, xk_st5 hb, xk_st6 hb, xk_st7 hb, xk_st8 hb, xk_st9 hb, xm_0_0 hx, xm_0_10 hx, xm_0_11 hx, xm_0_12 hx, xm_0_13 hx, xm_0_14 hx, xm_0_15 hx, xm_0_2 hx, xm_0_9 hx, xm_40_0 hx, xm_40_1 hx, xm_41_0 hx, xm_44_0 hx, xm_44_1 hx, xm_73_4 hx, xm_73_5 hx, xm_73_6 hx, xm_77_1 hx, xm_77_2 hx, xm_77_3 hx, xm_77_4 hx, xm_77_5 hx, xm_77_6 hx, xm_77_7 hx, xm_77_8 hx, xm_77_9 hx, xm_87_2 hx, xm_87_3 hx, xm_87_4 hx, xm_87_5 hx, xm_87_6 hx, xm_87_7 hx, xm_87_8 hx, xm_lw2 hx hb, xm_lw3 hx hb, xm_lw4 hx hb, xm_lw5 hx hb, xm_st1 hx hb, xm_st10 hx hb, xm_st11 hx hb, xm_st13 hx hb, xm_st14 hx hb, xm_st15 hx hb, xm_st16 hx hb, xm_st17 hx hb, xm_st2 hx hb, xm_st4 hx hb, xm_st5 hx hb, xm_st6 hx hb, xm_st7 hx hb, xm_st9 hx hb, ite_self, Bool.false_eq_true, eq_self, isk_t, i20_t, w20_t, l23_t, b21_t, b22_t, w_t, bif_t, bif_f, bif_d, if_pos, if_neg, if_true, if_false, not_true_eq_false, not_false_eq_true, Option.bind_some, Option.toList_some, Option.toList_none, List.cons_append, List.nil_append, Int.toNat_natCast, Int.reduceToNat, up_eq, up_p, up_k, sN,  hs, x3', x0', x1'', f4, g4, l4, y0, z3 ]
        | inr a' =>
          obtain ⟨z1, z3⟩ := k3 a' he
          refine ⟨μ3, fr, z1, ⟨?_, ?_, ?_, h5, ?_⟩, ?_⟩
          · refine xs_tell hX hi (fun q k q0 q1 n1 n2 n3 n4 => ?_) ?_ ?_ ?_ ?_
            · rw [k1 _ _ (by omega), am_up_no n4, am_up_no n3, l1 _ _ (by omega), am_up_no n2, g1 _ _ (by omega) (by omega), am_up_no n1, f1 _ _ (by omega) (by omega)]
            · rw [k1 _ _ (by omega), up_p (by omega), up_p (by omega), l1 _ _ (by omega), up_p (by omega), g1 _ _ (by omega) (by omega), up_eq]; exact f3
            · rw [k1 _ _ (by omega), up_p (by omega), up_p (by omega), l1 _ _ (by omega), up_eq]; exact g3
            · rw [k1 _ _ (by omega), up_p (by omega), up_eq]; exact l3
            · rw [k1 _ _ (by omega), up_eq]
          · rw [k1 _ _ (by omega), up_p (by omega), up_p (by omega), l1 _ _ (by omega), up_p (by omega), g1 _ _ (by omega) (by omega), up_p (by omega), f1 _ _ (by omega) (by omega)]
            simp (disch := omega) only [zp_ne]
            exact h3
          · rw [k1 _ _ (by omega), up_p (by omega), up_p (by omega), l1 _ _ (by omega), up_p (by omega), g1 _ _ (by omega) (by omega), up_p (by omega), f1 _ _ (by omega) (by omega)]
            exact h4
          · rw [k1 _ _ (by omega), up_p (by omega), up_p (by omega), l1 _ _ (by omega), up_p (by omega), g1 _ _ (by omega) (by omega), up_p (by omega), f1 _ _ (by omega) (by omega)]
            simp (disch := omega) only [zp_ne]
            exact h6
          · generalize ((Z 0 0).toNat : Int) = y at *
            generalize ((Z 0 1).toNat : Int) = y1 at *
            simp (disch := omega) only [e41_0, e41_34, e41_70, e41_95, e41_133, xk_0, xk_1, xk_40, xk_41, xk_42, xk_43, xk_44, xk_45, xk_46, xk_47, xk_48, xk_49, xk_50, xk_51, xk_52, xk_53, xk_54, xk_55, xk_56, xk_57, xk_58, xk_59, xk_60, xk_61, xk_62, xk_63, xk_64, xk_65, xk_66, xk_67, xk_68, xk_69, xk_70, xk_71, xk_72, xk_73, xk_74, xk_75, xk_76, xk_77, xk_78, xk_79, xk_80, xk_81, xk_82, xk_83, xk_84, xk_85, xk_86, xk_87, xk_88, xk_89, xk_90, xk_91, xk_92, xk_93, xk_94, xk_95, xk_96, xk_97, xk_98, xk_st0 hb, xk_st1 hb, xk_st10 hb, xk_st11 hb, xk_st12 hb, xk_st13 hb, xk_st14 hb, xk_st15 hb, xk_st16 hb, xk_st17 hb, xk_st18 hb, xk_st2 hb, xk_st3 hb, xk_st4 hb, xk_st5 hb, xk_st6 hb, xk_st7 hb, xk_st8 hb, xk_st9 hb, xm_0_0 hx, xm_0_10 hx, xm_0_11 hx, xm_0_12 hx, xm_0_13 hx, xm_0_14 hx, xm_0_15 hx, xm_0_2 hx, xm_0_9 hx, xm_40_0 hx, xm_40_1 hx, xm_41_0 hx, xm_44_0 hx, xm_44_1 hx, xm_73_4 hx, xm_73_5 hx, xm_73_6 hx, xm_77_1 hx, xm_77_2 hx, xm_77_3 hx, xm_77_4 hx, xm_77_5 hx, xm_77_6 hx, xm_77_7 hx, xm_77_8 hx, xm_77_9 hx, xm_87_2 hx, xm_87_3 hx, xm_87_4 hx, xm_87_5 hx, xm_87_6 hx, xm_87_7 hx, xm_87_8 hx, xm_lw2 hx hb, xm_lw3 hx hb, xm_lw4 hx hb, xm_lw5 hx hb, xm_st1 hx hb, xm_st10 hx hb, xm_st11 hx hb, xm_st13 hx hb, xm_st14 hx hb, xm_st15 hx hb, xm_st16 hx hb, xm_st17 hx hb, xm_st2 hx hb, xm_st4 hx hb, xm_st5 hx hb, xm_st6 hx hb, xm_st7 hx hb, xm_st9 hx hb, ite_self, Bool.false_eq_true, eq_self, isk_t, i20_t, w20_t, l23_t, b21_t, b22_t, w_t, bif_t, bif_f, bif_d, if_pos, if_neg, if_true, if_false, not_true_eq_false, not_false_eq_true, Option.bind_some, Option.toList_some, Option.toList_none, List.cons_append, List.nil_append, Int.toNat_natCast, Int.reduceToNat, up_eq, up_p, up_k, sN,  hs, x3', x0', x1'', f4, g4, l4, y0, z3 ]
theorem lnk4 : am_lnk (24, 4) = true := rfl
theorem ks_2m (L : Nat) : am_ks SH L 1000002 = (24, 4) := rfl
theorem i24 {i : Int} (h0 : 0 ≤ i) (h1 : i < 4) : am_i20 (24, 4) i = true := by simp [am_i20, am_in, h0, h1]
theorem X_set (hx : XM ρ) (hb : c = 2 ∨ c = 21) (hs : ρ 40 2 = c) (h : XTk ρ μ b n a) (hP : XP μ c Z ts) (hk : μ 41 6 = (pk : Int)) {s : Nat} (hs4 : s < 4) (hM : μ 1000002 s = mxS s) : XLo ρ cs b n c (ts ||| 2 ^ s) μ (am_E (d + 4) 42 0 [some (.inr (.inr 40)), some (.inl (s : Int)), none] [] (SH, ρ, μ, cs)) (pSet b n Z ts s pk a) := by
  obtain ⟨hX, h3, h4, h5, h6⟩ := hP
  unfold pSet
  rw [Int.toNat_natCast]
  have hbit : am_and (am_shr (ts : Int) (s : Int)) 1 = if ts.testBit s = true then 1 else 0 := by
    have := ib_bit (a := ts) (k := (s : Int)) (by omega) (by omega) (by omega)
    rw [Int.toNat_natCast] at this
    exact this
  have hor : am_or (ts : Int) (am_shl 1 (s : Int)) = ((ts ||| 2 ^ s : Nat) : Int) := by
    have := zb_or1 (z := (ts : Int)) (k := (s : Int)) (by omega) (by omega) (by omega) (by omega)
    rw [Int.toNat_natCast, Int.toNat_natCast] at this
    exact this
  have hlt : ts ||| 2 ^ s < 16 := by
    have : ts ||| 2 ^ s < 2 ^ 4 := Nat.or_lt_two_pow (by omega) (Nat.pow_lt_pow_right (by decide) hs4)
    omega
  generalize hT : ts ||| 2 ^ s = T at *
  by_cases c0 : ts.testBit s = true
  · rw [if_pos c0] at hbit
    rw [if_pos c0]
    refine ⟨μ, fx_rf c μ, hk, by simp, ?_⟩
    rw [e42_0]; simp only [bif_d]
    simp (disch := omega) only [xm_st1 hx hb, xm_st2 hx hb, xm_st4 hx hb, xm_st5 hx hb, xm_st6 hx hb, xm_st7 hx hb, xm_st9 hx hb, xm_st10 hx hb, xm_st11 hx hb, xm_st13 hx hb, xm_st14 hx hb, xm_st15 hx hb, xm_st16 hx hb, xm_st17 hx hb, xm_lw2 hx hb, xm_lw3 hx hb, xm_lw4 hx hb, xm_lw5 hx hb, xk_st0 hb, xk_st1 hb, xk_st2 hb, xk_st3 hb, xk_st4 hb, xk_st5 hb, xk_st6 hb, xk_st7 hb, xk_st8 hb, xk_st9 hb, xk_st10 hb, xk_st11 hb, xk_st12 hb, xk_st13 hb, xk_st14 hb, xk_st15 hb, xk_st16 hb, xk_st17 hb, xk_st18 hb, xm_0_0 hx, xm_0_2 hx, xm_0_9 hx, xm_0_10 hx, xm_0_11 hx, xm_0_12 hx, xm_0_13 hx, xm_0_14 hx, xm_0_15 hx, xm_40_0 hx, xm_40_1 hx, xm_41_0 hx, xm_44_0 hx, xm_44_1 hx, xm_73_4 hx, xm_73_5 hx, xm_73_6 hx, xm_77_1 hx, xm_77_2 hx, xm_77_3 hx, xm_77_4 hx, xm_77_5 hx, xm_77_6 hx, xm_77_7 hx, xm_77_8 hx, xm_77_9 hx, xm_87_2 hx, xm_87_3 hx, xm_87_4 hx, xm_87_5 hx, xm_87_6 hx, xm_87_7 hx, xm_87_8 hx, xk_0, xk_1, xk_40, xk_41, xk_42, xk_43, xk_44, xk_45, xk_46, xk_47, xk_48, xk_49, xk_50, xk_51, xk_52, xk_53, xk_54, xk_55, xk_56, xk_57, xk_58, xk_59, xk_60, xk_61, xk_62, xk_63, xk_64, xk_65, xk_66, xk_67, xk_68, xk_69, xk_70, xk_71, xk_72, xk_73, xk_74, xk_75, xk_76, xk_77, xk_78, xk_79, xk_80, xk_81, xk_82, xk_83, xk_84, xk_85, xk_86, xk_87, xk_88, xk_89, xk_90, xk_91, xk_92, xk_93, xk_94, xk_95, xk_96, xk_97, xk_98, ite_self, Bool.false_eq_true, eq_self, isk_t, i20_t, w20_t, l23_t, b21_t, b22_t, w_t, bif_t, bif_f, bif_d, if_pos, if_neg, if_true, if_false, not_true_eq_false, not_false_eq_true, Option.bind_some, Option.toList_some, Option.toList_none, List.cons_append, List.nil_append, Int.toNat_natCast, Int.reduceToNat, up_eq, up_p, up_k, sN,  h4, hbit, lnk4, ks_2m, i24 ]
    first | done | rfl
  rw [if_neg c0] at hbit
  rw [if_neg c0]
  have mb : 0 ≤ mxS s ∧ mxS s < 100000 := by
    unfold mxS
    repeat' split
    all_goals omega
  obtain ⟨μ2, g1, g2, g3, g4⟩ := X_nU (d := d) (cs := cs) (lo := 0) (hi := mxS s) hx (xt_up (q := 40) (k := 4) (v := (T : Int)) h (by omega)) (by omega) mb.2 mb.1
  have fr2 : FX c μ μ2 := fx_tr (fx_up (fx_rf c μ) (by omega)) (fx_ft g1)
  cases hm : nU b n 0 (mxS s) a with
  | inl y =>
    rw [hm] at g2 g4
    have hne := nU_ne hm
    refine ⟨μ2, fr2, g2, hne, ?_⟩
    have g4 : am_E (d + 3) 46 0 [some (.inr (.inr 40)), some (.inl 0), some (.inl (mxS s))] [] (SH, ρ, am_up μ 40 4 (T : Int), cs) = some (some (.inl y.1), (SH, ρ, μ2, cs)) := g4
    generalize y.1 = Q at *
    generalize (T : Int) = T9 at *
    generalize mxS s = M at *
    rw [e42_0]; simp only [bif_d]
    simp (disch := omega) only [xm_st1 hx hb, xm_st2 hx hb, xm_st4 hx hb, xm_st5 hx hb, xm_st6 hx hb, xm_st7 hx hb, xm_st9 hx hb, xm_st10 hx hb, xm_st11 hx hb, xm_st13 hx hb, xm_st14 hx hb, xm_st15 hx hb, xm_st16 hx hb, xm_st17 hx hb, xm_lw2 hx hb, xm_lw3 hx hb, xm_lw4 hx hb, xm_lw5 hx hb, xk_st0 hb, xk_st1 hb, xk_st2 hb, xk_st3 hb, xk_st4 hb, xk_st5 hb, xk_st6 hb, xk_st7 hb, xk_st8 hb, xk_st9 hb, xk_st10 hb, xk_st11 hb, xk_st12 hb, xk_st13 hb, xk_st14 hb, xk_st15 hb, xk_st16 hb, xk_st17 hb, xk_st18 hb, xm_0_0 hx, xm_0_2 hx, xm_0_9 hx, xm_0_10 hx, xm_0_11 hx, xm_0_12 hx, xm_0_13 hx, xm_0_14 hx, xm_0_15 hx, xm_40_0 hx, xm_40_1 hx, xm_41_0 hx, xm_44_0 hx, xm_44_1 hx, xm_73_4 hx, xm_73_5 hx, xm_73_6 hx, xm_77_1 hx, xm_77_2 hx, xm_77_3 hx, xm_77_4 hx, xm_77_5 hx, xm_77_6 hx, xm_77_7 hx, xm_77_8 hx, xm_77_9 hx, xm_87_2 hx, xm_87_3 hx, xm_87_4 hx, xm_87_5 hx, xm_87_6 hx, xm_87_7 hx, xm_87_8 hx, xk_0, xk_1, xk_40, xk_41, xk_42, xk_43, xk_44, xk_45, xk_46, xk_47, xk_48, xk_49, xk_50, xk_51, xk_52, xk_53, xk_54, xk_55, xk_56, xk_57, xk_58, xk_59, xk_60, xk_61, xk_62, xk_63, xk_64, xk_65, xk_66, xk_67, xk_68, xk_69, xk_70, xk_71, xk_72, xk_73, xk_74, xk_75, xk_76, xk_77, xk_78, xk_79, xk_80, xk_81, xk_82, xk_83, xk_84, xk_85, xk_86, xk_87, xk_88, xk_89, xk_90, xk_91, xk_92, xk_93, xk_94, xk_95, xk_96, xk_97, xk_98, ite_self, Bool.false_eq_true, eq_self, isk_t, i20_t, w20_t, l23_t, b21_t, b22_t, w_t, bif_t, bif_f, bif_d, if_pos, if_neg, if_true, if_false, not_true_eq_false, not_false_eq_true, Option.bind_some, Option.toList_some, Option.toList_none, List.cons_append, List.nil_append, Int.toNat_natCast, Int.reduceToNat, up_eq, up_p, up_k, sN,  e42_48, h4, hbit, hor, hM, g4, lnk4, ks_2m, i24 ]
    first | done | rfl
  | inr w =>
    rw [hm] at g2 g4
    have g3 := g3 w hm
    have g2 : XTk ρ μ2 b n w.2 := g2
    have g4 : am_E (d + 3) 46 0 [some (.inr (.inr 40)), some (.inl 0), some (.inl (mxS s))] [] (SH, ρ, am_up μ 40 4 (T : Int), cs) = some (some (.inl 0), (SH, ρ, μ2, cs)) := g4
    show XLo ρ cs b n c T μ _ (bnd (lE b n w.2) _)
    obtain ⟨μ3, k1, k2, k3⟩ := X_lE (d := d) (cs := cs) (μ := am_up μ2 (c + 13) s (μ2 41 5)) hx (xt_up g2 (by omega))
    have fr : FX c μ μ3 := fx_tr (fx_up fr2 (by omega)) (fx_ft k1)
    cases he : lE b n w.2 with
    | inl y =>
      obtain ⟨z1, z2, z3⟩ := k2 y he
      refine ⟨μ3, fr, z1, by rw [z2]; decide, ?_⟩
      rw [z2]
      generalize (T : Int) = T9 at *
      generalize mxS s = M at *
      rw [e42_0]; simp only [bif_d]
      simp (disch := omega) only [xm_st1 hx hb, xm_st2 hx hb, xm_st4 hx hb, xm_st5 hx hb, xm_st6 hx hb, xm_st7 hx hb, xm_st9 hx hb, xm_st10 hx hb, xm_st11 hx hb, xm_st13 hx hb, xm_st14 hx hb, xm_st15 hx hb, xm_st16 hx hb, xm_st17 hx hb, xm_lw2 hx hb, xm_lw3 hx hb, xm_lw4 hx hb, xm_lw5 hx hb, xk_st0 hb, xk_st1 hb, xk_st2 hb, xk_st3 hb, xk_st4 hb, xk_st5 hb, xk_st6 hb, xk_st7 hb, xk_st8 hb, xk_st9 hb, xk_st10 hb, xk_st11 hb, xk_st12 hb, xk_st13 hb, xk_st14 hb, xk_st15 hb, xk_st16 hb, xk_st17 hb, xk_st18 hb, xm_0_0 hx, xm_0_2 hx, xm_0_9 hx, xm_0_10 hx, xm_0_11 hx, xm_0_12 hx, xm_0_13 hx, xm_0_14 hx, xm_0_15 hx, xm_40_0 hx, xm_40_1 hx, xm_41_0 hx, xm_44_0 hx, xm_44_1 hx, xm_73_4 hx, xm_73_5 hx, xm_73_6 hx, xm_77_1 hx, xm_77_2 hx, xm_77_3 hx, xm_77_4 hx, xm_77_5 hx, xm_77_6 hx, xm_77_7 hx, xm_77_8 hx, xm_77_9 hx, xm_87_2 hx, xm_87_3 hx, xm_87_4 hx, xm_87_5 hx, xm_87_6 hx, xm_87_7 hx, xm_87_8 hx, xk_0, xk_1, xk_40, xk_41, xk_42, xk_43, xk_44, xk_45, xk_46, xk_47, xk_48, xk_49, xk_50, xk_51, xk_52, xk_53, xk_54, xk_55, xk_56, xk_57, xk_58, xk_59, xk_60, xk_61, xk_62, xk_63, xk_64, xk_65, xk_66, xk_67, xk_68, xk_69, xk_70, xk_71, xk_72, xk_73, xk_74, xk_75, xk_76, xk_77, xk_78, xk_79, xk_80, xk_81, xk_82, xk_83, xk_84, xk_85, xk_86, xk_87, xk_88, xk_89, xk_90, xk_91, xk_92, xk_93, xk_94, xk_95, xk_96, xk_97, xk_98, ite_self, Bool.false_eq_true, eq_self, isk_t, i20_t, w20_t, l23_t, b21_t, b22_t, w_t, bif_t, bif_f, bif_d, if_pos, if_neg, if_true, if_false, not_true_eq_false, not_false_eq_true, Option.bind_some, Option.toList_some, Option.toList_none, List.cons_append, List.nil_append, Int.toNat_natCast, Int.reduceToNat, up_eq, up_p, up_k, sN,  e42_48, e42_73, hs, h4, hbit, hor, hM, g4, z3, lnk4, ks_2m, i24 ]
      first | done | rfl
    | inr a' =>
      obtain ⟨z1, z3⟩ := k3 a' he
      refine ⟨μ3, fr, z1, ⟨?_, ?_, ?_, hlt, ?_⟩, ?_⟩
      · refine xs_set hX hs4 (fun q k q0 q1 n1 => ?_) ?_
        · rw [k1 _ _ (by omega), am_up_no n1, g1 _ _ (by omega), up_p (by omega)]
        · rw [k1 _ _ (by omega), up_eq]; exact g3
      · rw [k1 _ _ (by omega), up_p (by omega), g1 _ _ (by omega), up_k (by omega)]
        simp (disch := omega) only [zp_ne]
        exact h3
      · rw [k1 _ _ (by omega), up_p (by omega), g1 _ _ (by omega), up_eq]
      · rw [k1 _ _ (by omega), up_p (by omega), g1 _ _ (by omega), up_p (by omega)]
        simp (disch := omega) only [zp_ne]
        exact h6
      · generalize (T : Int) = T9 at *
        generalize mxS s = M at *
        rw [e42_0]; simp only [bif_d]
        simp (disch := omega) only [xm_st1 hx hb, xm_st2 hx hb, xm_st4 hx hb, xm_st5 hx hb, xm_st6 hx hb, xm_st7 hx hb, xm_st9 hx hb, xm_st10 hx hb, xm_st11 hx hb, xm_st13 hx hb, xm_st14 hx hb, xm_st15 hx hb, xm_st16 hx hb, xm_st17 hx hb, xm_lw2 hx hb, xm_lw3 hx hb, xm_lw4 hx hb, xm_lw5 hx hb, xk_st0 hb, xk_st1 hb, xk_st2 hb, xk_st3 hb, xk_st4 hb, xk_st5 hb, xk_st6 hb, xk_st7 hb, xk_st8 hb, xk_st9 hb, xk_st10 hb, xk_st11 hb, xk_st12 hb, xk_st13 hb, xk_st14 hb, xk_st15 hb, xk_st16 hb, xk_st17 hb, xk_st18 hb, xm_0_0 hx, xm_0_2 hx, xm_0_9 hx, xm_0_10 hx, xm_0_11 hx, xm_0_12 hx, xm_0_13 hx, xm_0_14 hx, xm_0_15 hx, xm_40_0 hx, xm_40_1 hx, xm_41_0 hx, xm_44_0 hx, xm_44_1 hx, xm_73_4 hx, xm_73_5 hx, xm_73_6 hx, xm_77_1 hx, xm_77_2 hx, xm_77_3 hx, xm_77_4 hx, xm_77_5 hx, xm_77_6 hx, xm_77_7 hx, xm_77_8 hx, xm_77_9 hx, xm_87_2 hx, xm_87_3 hx, xm_87_4 hx, xm_87_5 hx, xm_87_6 hx, xm_87_7 hx, xm_87_8 hx, xk_0, xk_1, xk_40, xk_41, xk_42, xk_43, xk_44, xk_45, xk_46, xk_47, xk_48, xk_49, xk_50, xk_51, xk_52, xk_53, xk_54, xk_55, xk_56, xk_57, xk_58, xk_59, xk_60, xk_61, xk_62, xk_63, xk_64, xk_65, xk_66, xk_67, xk_68, xk_69, xk_70, xk_71, xk_72, xk_73, xk_74, xk_75, xk_76, xk_77, xk_78, xk_79, xk_80, xk_81, xk_82, xk_83, xk_84, xk_85, xk_86, xk_87, xk_88, xk_89, xk_90, xk_91, xk_92, xk_93, xk_94, xk_95, xk_96, xk_97, xk_98, ite_self, Bool.false_eq_true, eq_self, isk_t, i20_t, w20_t, l23_t, b21_t, b22_t, w_t, bif_t, bif_f, bif_d, if_pos, if_neg, if_true, if_false, not_true_eq_false, not_false_eq_true, Option.bind_some, Option.toList_some, Option.toList_none, List.cons_append, List.nil_append, Int.toNat_natCast, Int.reduceToNat, up_eq, up_p, up_k, sN,  e42_48, e42_73, hs, h4, hbit, hor, hM, g4, z3, lnk4, ks_2m, i24 ]
        first | done | rfl
end XLQ
