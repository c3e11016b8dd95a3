/-! TEXT: the class's lines -/
section XLM
variable {ρ : Nat → Nat → Nat} {μ : Nat → Nat → Int} {cs : Nat × Nat × Nat} {d n a c ts pk : Nat} {b : Nat → Int} {Z : MS}
/-- the class, between lines -/
def XP (μ : Nat → Nat → Int) (c : Nat) (Z : MS) (ts : Nat) : Prop := XS μ c Z ∧ μ 40 3 = Z 0 2 ∧ μ 40 4 = (ts : Int) ∧ ts < 16 ∧ μ (c + 14) 1 = Z 0 9
/-- what reading a line may change -/
def FX (c : Nat) (μ μ' : Nat → Nat → Int) : Prop := ∀ q k, ¬ ((q = 41 ∧ 3 ≤ k ∧ k ≤ 6) ∨ (q = 40 ∧ 3 ≤ k ∧ k ≤ 5) ∨ (c ≤ q ∧ q < c + 19) ∨ q = 44 ∨ q = 45) → μ' q k = μ q k
theorem fx_rf (c : Nat) (μ : Nat → Nat → Int) : FX c μ μ := fun _ _ _ => rfl
theorem fx_tr {a b e : Nat → Nat → Int} (h1 : FX c a b) (h2 : FX c b e) : FX c a e := fun q k h => (h2 q k h).trans (h1 q k h)
theorem fx_ft {a b : Nat → Nat → Int} (h : FT a b) : FX c a b := fun q k hq => h q k (by omega)
theorem fx_up {μ μ' : Nat → Nat → Int} {q k : Nat} {v : Int} (h1 : FX c μ μ') (h : (q = 40 ∧ 3 ≤ k ∧ k ≤ 5) ∨ (c ≤ q ∧ q < c + 19) ∨ q = 44 ∨ q = 45) : FX c μ (am_up μ' q k v) := fun q' k' h' => by
  rw [am_up_no (fun e => h' (by omega))]
  exact h1 q' k' h'
def XLo (ρ : Nat → Nat → Nat) (cs : Nat × Nat × Nat) (b : Nat → Int) (n c ts : Nat) (μ : Nat → Nat → Int) (run : Option am_Res) (x : PE (MS × Nat)) : Prop := ∃ μ', FX c μ μ' ∧ match x with
  | .inl q => μ' 41 6 = (q.2 : Int) ∧ q.1 ≠ 0 ∧ run = some (some (.inl q.1), (SH, ρ, μ', cs))
  | .inr z => XTk ρ μ' b n z.2 ∧ XP μ' c z.1 ts ∧ run = some (some (.inl 0), (SH, ρ, μ', cs))
theorem nN_c {f g : Nat → Int} {k : Nat} (h : ∀ j, j < k → f j = g j) : nN b n f k a = nN b n g k a := by
  unfold nN
  rw [fnd_c k 0 (fun j _ h1 => h j (by omega))]
theorem oN_c {f g : Nat → Int} {k : Nat} (h : ∀ j, j < k → f j = g j) : oN b n f k a = oN b n g k a := by
  unfold oN
  rw [fnd_c k 0 (fun j _ h1 => h j (by omega))]
theorem xt_up {q k : Nat} {v : Int} (h : XTk ρ μ b n a) (hq : q ≠ 1 ∧ q ≠ 41 ∧ q ≠ 42) : XTk ρ (am_up μ q k v) b n a := xt_fr h rfl (fun i => up_p (by omega)) (fun i => up_p (by omega)) (up_p (by omega)) (up_p (by omega))
theorem nN_ne {f : Nat → Int} {k : Nat} {q : Int × Nat} (h : nN b n f k a = .inl q) : q.1 ≠ 0 := by
  rcases nN_inl h with ⟨_, rfl⟩ | ⟨_, _, rfl⟩ <;> simp
theorem oN_ne {f : Nat → Int} {k : Nat} {q : Int × Nat} (h : oN b n f k a = .inl q) : q.1 ≠ 0 := by
  rcases oN_inl h with ⟨_, rfl⟩ | ⟨_, _, rfl⟩ <;> simp
theorem nU_ne {lo hi : Int} {q : Int × Nat} (h : nU b n lo hi a = .inl q) : q.1 ≠ 0 := by
  rcases nU_inl h with ⟨_, rfl⟩ | ⟨_, _, rfl⟩ <;> simp
theorem X_man (hx : XM ρ) (hb : c = 2 ∨ c = 21) (hs : ρ 40 2 = c) (h : XTk ρ μ b n a) (hP : XP μ c Z ts) (hS : SI Z) (hk : μ 41 6 = (pk : Int)) : XLo ρ cs b n c ts μ (am_E (d + 4) 37 0 [some (.inr (.inr 40)), none, none] [] (SH, ρ, μ, cs)) (pMan b n Z pk a) := by
  obtain ⟨hX, h3, h4, h5, h6⟩ := hP
  have x0 := hX.1.1
  have b0 := hS.1
  unfold pMan
  by_cases c0 : 7 ≤ Z 0 0
  · rw [if_pos c0]
    refine ⟨μ, fx_rf c μ, hk, by simp, ?_⟩
    simp (disch := omega) only [e37_0, xk_0, xk_1, xk_40, xk_41, xk_42, xk_43, xk_44, xk_45, xk_46, xk_47, xk_48, xk_49, xk_50, xk_51, xk_52, xk_53, xk_54, xk_55, xk_56, xk_57, xk_58, xk_59, xk_60, xk_61, xk_62, xk_63, xk_64, xk_65, xk_66, xk_67, xk_68, xk_69, xk_70, xk_71, xk_72, xk_73, xk_74, xk_75, xk_76, xk_77, xk_78, xk_79, xk_80, xk_81, xk_82, xk_83, xk_84, xk_85, xk_86, xk_87, xk_88, xk_89, xk_90, xk_91, xk_92, xk_93, xk_94, xk_95, xk_96, xk_97, xk_98, xk_st0 hb, xk_st1 hb, xk_st10 hb, xk_st11 hb, xk_st12 hb, xk_st13 hb, xk_st14 hb, xk_st15 hb, xk_st16 hb, xk_st17 hb, xk_st18 hb, xk_st2 hb, xk_st3 hb, xk_st4 hb, xk_st5 hb, xk_st6 hb, xk_st7 hb, xk_st8 hb, xk_st9 hb, xm_0_0 hx, xm_0_10 hx, xm_0_11 hx, xm_0_12 hx, xm_0_13 hx, xm_0_14 hx, xm_0_15 hx, xm_0_2 hx, xm_0_9 hx, xm_40_0 hx, xm_40_1 hx, xm_41_0 hx, xm_44_0 hx, xm_44_1 hx, xm_73_4 hx, xm_73_5 hx, xm_73_6 hx, xm_77_1 hx, xm_77_2 hx, xm_77_3 hx, xm_77_4 hx, xm_77_5 hx, xm_77_6 hx, xm_77_7 hx, xm_77_8 hx, xm_77_9 hx, xm_87_2 hx, xm_87_3 hx, xm_87_4 hx, xm_87_5 hx, xm_87_6 hx, xm_87_7 hx, xm_87_8 hx, xm_lw2 hx hb, xm_lw3 hx hb, xm_lw4 hx hb, xm_lw5 hx hb, xm_st1 hx hb, xm_st10 hx hb, xm_st11 hx hb, xm_st13 hx hb, xm_st14 hx hb, xm_st15 hx hb, xm_st16 hx hb, xm_st17 hx hb, xm_st2 hx hb, xm_st4 hx hb, xm_st5 hx hb, xm_st6 hx hb, xm_st7 hx hb, xm_st9 hx hb, ite_self, Bool.false_eq_true, eq_self, isk_t, i20_t, w20_t, l23_t, b21_t, b22_t, w_t, bif_t, bif_f, bif_d, if_pos, if_neg, if_true, if_false, not_true_eq_false, not_false_eq_true, Option.bind_some, Option.toList_some, Option.toList_none, List.cons_append, List.nil_append, Int.toNat_natCast, Int.reduceToNat, up_eq, up_p, up_k, sN,  hs, x0 ]
  rw [if_neg c0]
  obtain ⟨i, hi⟩ := Int.eq_ofNat_of_zero_le b0.1
  have x0' : μ c 0 = (i : Int) := x0.trans hi
  have ei : (Z 0 0).toNat = i := by omega
  rw [ei]
  have en : nN b n (nmR Z 1) i a = nN b n (μ (c + 1)) i a := nN_c (fun j hj => by
    have := (hX.2.2.1 j (by omega) (by omega)).1
    rw [Int.toNat_natCast] at this
    exact this.symm)
  rw [en]
  obtain ⟨μ1, f1, f2, f3, f4⟩ := X_nN (d := d) (cs := cs) (c := i) (q := c + 1) hx h (xk_st1 (L := cs.2.2) hb) (by omega) (by omega) (by omega)
  cases hn : nN b n (μ (c + 1)) i a with
  | inl q =>
    rw [hn] at f2 f4
    have hne := nN_ne hn
    refine ⟨μ1, fx_ft f1, f2, hne, ?_⟩
    have f4 : am_E (d + 3) 44 0 [some (.inr (.inr 40)), some (.inr (.inr (c + 1))), some (.inl (i : Int))] [] (SH, ρ, μ, cs) = some (some (.inl q.1), (SH, ρ, μ1, cs)) := f4
    generalize q.1 = Q at *
    simp (disch := omega) only [e37_0, e37_28, xk_0, xk_1, xk_40, xk_41, xk_42, xk_43, xk_44, xk_45, xk_46, xk_47, xk_48, xk_49, xk_50, xk_51, xk_52, xk_53, xk_54, xk_55, xk_56, xk_57, xk_58, xk_59, xk_60, xk_61, xk_62, xk_63, xk_64, xk_65, xk_66, xk_67, xk_68, xk_69, xk_70, xk_71, xk_72, xk_73, xk_74, xk_75, xk_76, xk_77, xk_78, xk_79, xk_80, xk_81, xk_82, xk_83, xk_84, xk_85, xk_86, xk_87, xk_88, xk_89, xk_90, xk_91, xk_92, xk_93, xk_94, xk_95, xk_96, xk_97, xk_98, xk_st0 hb, xk_st1 hb, xk_st10 hb, xk_st11 hb, xk_st12 hb, xk_st13 hb, xk_st14 hb, xk_st15 hb, xk_st16 hb, xk_st17 hb, xk_st18 hb, xk_st2 hb, xk_st3 hb, xk_st4 hb, xk_st5 hb, xk_st6 hb, xk_st7 hb, xk_st8 hb, xk_st9 hb, xm_0_0 hx, xm_0_10 hx, xm_0_11 hx, xm_0_12 hx, xm_0_13 hx, xm_0_14 hx, xm_0_15 hx, xm_0_2 hx, xm_0_9 hx, xm_40_0 hx, xm_40_1 hx, xm_41_0 hx, xm_44_0 hx, xm_44_1 hx, xm_73_4 hx, xm_73_5 hx, xm_73_6 hx, xm_77_1 hx, xm_77_2 hx, xm_77_3 hx, xm_77_4 hx, xm_77_5 hx, xm_77_6 hx, xm_77_7 hx, xm_77_8 hx, xm_77_9 hx, xm_87_2 hx, xm_87_3 hx, xm_87_4 hx, xm_87_5 hx, xm_87_6 hx, xm_87_7 hx, xm_87_8 hx, xm_lw2 hx hb, xm_lw3 hx hb, xm_lw4 hx hb, xm_lw5 hx hb, xm_st1 hx hb, xm_st10 hx hb, xm_st11 hx hb, xm_st13 hx hb, xm_st14 hx hb, xm_st15 hx hb, xm_st16 hx hb, xm_st17 hx hb, xm_st2 hx hb, xm_st4 hx hb, xm_st5 hx hb, xm_st6 hx hb, xm_st7 hx hb, xm_st9 hx hb, ite_self, Bool.false_eq_true, eq_self, isk_t, i20_t, w20_t, l23_t, b21_t, b22_t, w_t, bif_t, bif_f, bif_d, if_pos, if_neg, if_true, if_false, not_true_eq_false, not_false_eq_true, Option.bind_some, Option.toList_some, Option.toList_none, List.cons_append, List.nil_append, Int.toNat_natCast, Int.reduceToNat, up_eq, up_p, up_k, sN,  hs, x0', f4 ]
  | inr q =>
    rw [hn] at f2 f4
    have f3 := f3 q hn
    have f2 : XTk ρ μ1 b n q.2 := f2
    have f4 : am_E (d + 3) 44 0 [some (.inr (.inr 40)), some (.inr (.inr (c + 1))), some (.inl (i : Int))] [] (SH, ρ, μ, cs) = some (some (.inl 0), (SH, ρ, μ1, cs)) := f4
    show XLo ρ cs b n c ts μ _ (bnd (nU b n 0 9 q.2) _)
    obtain ⟨μ2, g1, g2, g3, g4⟩ := X_nU (d := d) (cs := cs) (lo := 0) (hi := 9) hx (xt_up (q := c + 1) (k := i) (v := μ1 41 5) f2 (by omega)) (by omega) (by omega) (by omega)
    cases hm : nU b n 0 9 q.2 with
    | inl y =>
      rw [hm] at g2 g4
      have hne := nU_ne hm
      refine ⟨μ2, fx_tr (fx_up (fx_ft f1) (by omega)) (fx_ft g1), g2, hne, ?_⟩
      have g4 : am_E (d + 3) 46 0 [some (.inr (.inr 40)), some (.inl 0), some (.inl 9)] [] (SH, ρ, am_up μ1 (c + 1) i (μ1 41 5), cs) = some (some (.inl y.1), (SH, ρ, μ2, cs)) := g4
      generalize y.1 = Q at *
      simp (disch := omega) only [e37_0, e37_28, e37_56, xk_0, xk_1, xk_40, xk_41, xk_42, xk_43, xk_44, xk_45, xk_46, xk_47, xk_48, xk_49, xk_50, xk_51, xk_52, xk_53, xk_54, xk_55, xk_56, xk_57, xk_58, xk_59, xk_60, xk_61, xk_62, xk_63, xk_64, xk_65, xk_66, xk_67, xk_68, xk_69, xk_70, xk_71, xk_72, xk_73, xk_74, xk_75, xk_76, xk_77, xk_78, xk_79, xk_80, xk_81, xk_82, xk_83, xk_84, xk_85, xk_86, xk_87, xk_88, xk_89, xk_90, xk_91, xk_92, xk_93, xk_94, xk_95, xk_96, xk_97, xk_98, xk_st0 hb, xk_st1 hb, xk_st10 hb, xk_st11 hb, xk_st12 hb, xk_st13 hb, xk_st14 hb, xk_st15 hb, xk_st16 hb, xk_st17 hb, xk_st18 hb, xk_st2 hb, xk_st3 hb, xk_st4 hb, xk_st5 hb, xk_st6 hb, xk_st7 hb, xk_st8 hb, xk_st9 hb, xm_0_0 hx, xm_0_10 hx, xm_0_11 hx, xm_0_12 hx, xm_0_13 hx, xm_0_14 hx, xm_0_15 hx, xm_0_2 hx, xm_0_9 hx, xm_40_0 hx, xm_40_1 hx, xm_41_0 hx, xm_44_0 hx, xm_44_1 hx, xm_73_4 hx, xm_73_5 hx, xm_73_6 hx, xm_77_1 hx, xm_77_2 hx, xm_77_3 hx, xm_77_4 hx, xm_77_5 hx, xm_77_6 hx, xm_77_7 hx, xm_77_8 hx, xm_77_9 hx, xm_87_2 hx, xm_87_3 hx, xm_87_4 hx, xm_87_5 hx, xm_87_6 hx, xm_87_7 hx, xm_87_8 hx, xm_lw2 hx hb, xm_lw3 hx hb, xm_lw4 hx hb, xm_lw5 hx hb, xm_st1 hx hb, xm_st10 hx hb, xm_st11 hx hb, xm_st13 hx hb, xm_st14 hx hb, xm_st15 hx hb, xm_st16 hx hb, xm_st17 hx hb, xm_st2 hx hb, xm_st4 hx hb, xm_st5 hx hb, xm_st6 hx hb, xm_st7 hx hb, xm_st9 hx hb, ite_self, Bool.false_eq_true, eq_self, isk_t, i20_t, w20_t, l23_t, b21_t, b22_t, w_t, bif_t, bif_f, bif_d, if_pos, if_neg, if_true, if_false, not_true_eq_false, not_false_eq_true, Option.bind_some, Option.toList_some, Option.toList_none, List.cons_append, List.nil_append, Int.toNat_natCast, Int.reduceToNat, up_eq, up_p, up_k, sN,  hs, x0', f4, g4 ]
    | inr w =>
      rw [hm] at g2 g4
      have g3 := g3 w hm
      have g2 : XTk ρ μ2 b n w.2 := g2
      have g4 : am_E (d + 3) 46 0 [some (.inr (.inr 40)), some (.inl 0), some (.inl 9)] [] (SH, ρ, am_up μ1 (c + 1) i (μ1 41 5), cs) = some (some (.inl 0), (SH, ρ, μ2, cs)) := g4
      have y0 : μ2 c 0 = (i : Int) := by rw [g1 _ _ (by omega), up_p (by omega), f1 _ _ (by omega)]; exact x0'
      show XLo ρ cs b n c ts μ _ (bnd (lE b n w.2) _)
      obtain ⟨μ3, k1, k2, k3⟩ := X_lE (d := d) (cs := cs) (μ := am_up (am_up μ2 (c + 2) i (μ2 41 5)) c 0 ((i : Int) + 1)) hx (xt_up (xt_up g2 (by omega)) (by omega))
      have fr : FX c μ μ3 := fx_tr (fx_up (fx_up (fx_tr (fx_up (fx_ft f1) (by omega)) (fx_ft g1)) (by omega)) (by omega)) (fx_ft k1)
      have e44 : i < 7 := by omega
      cases he : lE b n w.2 with
      | inl y =>
        obtain ⟨z1, z2, z3⟩ := k2 y he
        refine ⟨μ3, fr, z1, by rw [z2]; decide, ?_⟩
        rw [z2]
        simp (disch := omega) only [e37_0, e37_28, e37_56, e37_94, xk_0, xk_1, xk_40, xk_41, xk_42, xk_43, xk_44, xk_45, xk_46, xk_47, xk_48, xk_49, xk_50, xk_51, xk_52, xk_53, xk_54, xk_55, xk_56, xk_57, xk_58, xk_59, xk_60, xk_61, xk_62, xk_63, xk_64, xk_65, xk_66, xk_67, xk_68, xk_69, xk_70, xk_71, xk_72, xk_73, xk_74, xk_75, xk_76, xk_77, xk_78, xk_79, xk_80, xk_81, xk_82, xk_83, xk_84, xk_85, xk_86, xk_87, xk_88, xk_89, xk_90, xk_91, xk_92, xk_93, xk_94, xk_95, xk_96, xk_97, xk_98, xk_st0 hb, xk_st1 hb, xk_st10 hb, xk_st11 hb, xk_st12 hb, xk_st13 hb, xk_st14 hb, xk_st15 hb, xk_st16 hb, xk_st17 hb, xk_st18 hb, xk_st2 hb, xk_st3 hb, xk_st4 hb, xk_st5 hb, xk_st6 hb, xk_st7 hb, xk_st8 hb, xk_st9 hb, xm_0_0 hx, xm_0_10 hx, xm_0_11 hx, xm_0_12 hx, xm_0_13 hx, xm_0_14 hx, xm_0_15 hx, xm_0_2 hx, xm_0_9 hx, xm_40_0 hx, xm_40_1 hx, xm_41_0 hx, xm_44_0 hx, xm_44_1 hx, xm_73_4 hx, xm_73_5 hx, xm_73_6 hx, xm_77_1 hx, xm_77_2 hx, xm_77_3 hx, xm_77_4 hx, xm_77_5 hx, xm_77_6 hx, xm_77_7 hx, xm_77_8 hx, xm_77_9 hx, xm_87_2 hx, xm_87_3 hx, xm_87_4 hx, xm_87_5 hx, xm_87_6 hx, xm_87_7 hx, xm_87_8 hx, xm_lw2 hx hb, xm_lw3 hx hb, xm_lw4 hx hb, xm_lw5 hx hb, xm_st1 hx hb, xm_st10 hx hb, xm_st11 hx hb, xm_st13 hx hb, xm_st14 hx hb, xm_st15 hx hb, xm_st16 hx hb, xm_st17 hx hb, xm_st2 hx hb, xm_st4 hx hb, xm_st5 hx hb, xm_st6 hx hb, xm_st7 hx hb, xm_st9 hx hb, ite_self, Bool.false_eq_true, eq_self, isk_t, i20_t, w20_t, l23_t, b21_t, b22_t, w_t, bif_t, bif_f, bif_d, if_pos, if_neg, if_true, if_false, not_true_eq_false, not_false_eq_true, Option.bind_some, Option.toList_some, Option.toList_none, List.cons_append, List.nil_append, Int.toNat_natCast, Int.reduceToNat, up_eq, up_p, up_k, sN,  hs, x0', y0, f4, g4, z3 ]
      | inr a' =>
        obtain ⟨z1, z3⟩ := k3 a' he
        refine ⟨μ3, fr, z1, ⟨?_, ?_, ?_, h5, ?_⟩, ?_⟩
        · refine xs_man hX hS hi (fun q k q0 q1 n1 n2 n3 => ?_) ?_ ?_ ?_
          · rw [k1 _ _ (by omega), am_up_no n3, am_up_no n2, g1 _ _ (by omega), am_up_no n1, f1 _ _ (by omega)]
          · rw [k1 _ _ (by omega), up_p (by omega), up_p (by omega), g1 _ _ (by omega), up_eq]; exact f3
          · rw [k1 _ _ (by omega), up_p (by omega), up_eq]; exact g3
          · rw [k1 _ _ (by omega), up_eq]
        · rw [k1 _ _ (by omega), up_p (by omega), up_p (by omega), g1 _ _ (by omega), up_p (by omega), f1 _ _ (by omega)]
          simp (disch := omega) only [zp_ne]
          exact h3
        · rw [k1 _ _ (by omega), up_p (by omega), up_p (by omega), g1 _ _ (by omega), up_p (by omega), f1 _ _ (by omega)]
          exact h4
        · rw [k1 _ _ (by omega), up_p (by omega), up_p (by omega), g1 _ _ (by omega), up_p (by omega), f1 _ _ (by omega)]
          simp (disch := omega) only [zp_ne]
          exact h6
        · simp (disch := omega) only [e37_0, e37_28, e37_56, e37_94, xk_0, xk_1, xk_40, xk_41, xk_42, xk_43, xk_44, xk_45, xk_46, xk_47, xk_48, xk_49, xk_50, xk_51, xk_52, xk_53, xk_54, xk_55, xk_56, xk_57, xk_58, xk_59, xk_60, xk_61, xk_62, xk_63, xk_64, xk_65, xk_66, xk_67, xk_68, xk_69, xk_70, xk_71, xk_72, xk_73, xk_74, xk_75, xk_76, xk_77, xk_78, xk_79, xk_80, xk_81, xk_82, xk_83, xk_84, xk_85, xk_86, xk_87, xk_88, xk_89, xk_90, xk_91, xk_92, xk_93, xk_94, xk_95, xk_96, xk_97, xk_98, xk_st0 hb, xk_st1 hb, xk_st10 hb, xk_st11 hb, xk_st12 hb, xk_st13 hb, xk_st14 hb, xk_st15 hb, xk_st16 hb, xk_st17 hb, xk_st18 hb, xk_st2 hb, xk_st3 hb, xk_st4 hb, xk_st5 hb, xk_st6 hb, xk_st7 hb, xk_st8 hb, xk_st9 hb, xm_0_0 hx, xm_0_10 hx, xm_0_11 hx, xm_0_12 hx, xm_0_13 hx, xm_0_14 hx, xm_0_15 hx, xm_0_2 hx, xm_0_9 hx, xm_40_0 hx, xm_40_1 hx, xm_41_0 hx, xm_44_0 hx, xm_44_1 hx, xm_73_4 hx, xm_73_5 hx, xm_73_6 hx, xm_77_1 hx, xm_77_2 hx, xm_77_3 hx, xm_77_4 hx, xm_77_5 hx, xm_77_6 hx, xm_77_7 hx, xm_77_8 hx, xm_77_9 hx, xm_87_2 hx, xm_87_3 hx, xm_87_4 hx, xm_87_5 hx, xm_87_6 hx, xm_87_7 hx, xm_87_8 hx, xm_lw2 hx hb, xm_lw3 hx hb, xm_lw4 hx hb, xm_lw5 hx hb, xm_st1 hx hb, xm_st10 hx hb, xm_st11 hx hb, xm_st13 hx hb, xm_st14 hx hb, xm_st15 hx hb, xm_st16 hx hb, xm_st17 hx hb, xm_st2 hx hb, xm_st4 hx hb, xm_st5 hx hb, xm_st6 hx hb, xm_st7 hx hb, xm_st9 hx hb, ite_self, Bool.false_eq_true, eq_self, isk_t, i20_t, w20_t, l23_t, b21_t, b22_t, w_t, bif_t, bif_f, bif_d, if_pos, if_neg, if_true, if_false, not_true_eq_false, not_false_eq_true, Option.bind_some, Option.toList_some, Option.toList_none, List.cons_append, List.nil_append, Int.toNat_natCast, Int.reduceToNat, up_eq, up_p, up_k, sN,  hs, x0', y0, f4, g4, z3 ]
end XLM
