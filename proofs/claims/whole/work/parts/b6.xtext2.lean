/-! TEXT: how the class reads a story, from its beginning -/
section XRD
variable {ρ : Nat → Nat → Nat} {μ : Nat → Nat → Int} {cs : Nat × Nat × Nat} {d n c : Nat} {b : Nat → Int} {Z : MS}
def FP3 (ρ ρ' : Nat → Nat → Nat) : Prop := ∀ p k, ¬ ((p = 44 ∧ k = 4) ∨ (p = 40 ∧ k = 2) ∨ (p = 41 ∧ k = 1)) → ρ' p k = ρ p k
def FX3 (c : Nat) (μ μ' : Nat → Nat → Int) : Prop := ∀ q k, ¬ ((q = 41 ∧ 2 ≤ k ∧ k ≤ 6) ∨ (q = 40 ∧ 3 ≤ k ∧ k ≤ 7) ∨ (c ≤ q ∧ q < c + 19) ∨ q = 44 ∨ q = 45) → μ' q k = μ q k
theorem xs_fc {μ' : Nat → Nat → Int} (h : XS μ c Z) (hf : ∀ q k, c ≤ q → q < c + 19 → μ' q k = μ q k) : XS μ' c Z := xs_fr h (fun q k h0 h1 => hf q k h0 h1)
theorem X_begin (hx : XM ρ) (hn : n ≤ 700) : am_E d 62 0 [some (.inr (.inr 41)), some (.inr (.inr 1)), some (.inl (n : Int))] [] (SH, ρ, μ, cs) = some (none, (SH, am_up ρ 41 1 1, am_up (am_up μ 41 2 n) 41 3 0, cs)) := by
  have e1 : am_lnk (21, 700) = true := rfl
  have e3 : ∀ L, am_ks SH L 1 = (21, 700) := fun L => rfl
  by_cases c : n = 700
  · subst c
    simp (disch := omega) only [e62_0, xk_0, xk_1, xk_40, xk_41, xk_42, xk_43, xk_44, xk_45, xk_46, xk_47, xk_48, xk_49, xk_50, xk_51, xk_52, xk_53, xk_54, xk_55, xk_56, xk_57, xk_58, xk_59, xk_60, xk_61, xk_62, xk_63, xk_64, xk_65, xk_66, xk_67, xk_68, xk_69, xk_70, xk_71, xk_72, xk_73, xk_74, xk_75, xk_76, xk_77, xk_78, xk_79, xk_80, xk_81, xk_82, xk_83, xk_84, xk_85, xk_86, xk_87, xk_88, xk_89, xk_90, xk_91, xk_92, xk_93, xk_94, xk_95, xk_96, xk_97, xk_98, xm_0_0 hx, xm_0_10 hx, xm_0_11 hx, xm_0_12 hx, xm_0_13 hx, xm_0_14 hx, xm_0_15 hx, xm_0_2 hx, xm_0_9 hx, xm_40_0 hx, xm_40_1 hx, xm_41_0 hx, xm_44_0 hx, xm_44_1 hx, xm_73_4 hx, xm_73_5 hx, xm_73_6 hx, xm_77_1 hx, xm_77_2 hx, xm_77_3 hx, xm_77_4 hx, xm_77_5 hx, xm_77_6 hx, xm_77_7 hx, xm_77_8 hx, xm_77_9 hx, xm_87_2 hx, xm_87_3 hx, xm_87_4 hx, xm_87_5 hx, xm_87_6 hx, xm_87_7 hx, xm_87_8 hx, ite_self, Bool.false_eq_true, eq_self, isk_t, i20_t, w20_t, l23_t, b21_t, b22_t, w_t, bif_t, bif_f, bif_d, if_pos, if_neg, if_true, if_false, not_true_eq_false, not_false_eq_true, Option.bind_some, Option.toList_some, Option.toList_none, List.cons_append, List.nil_append, Int.toNat_natCast, Int.reduceToNat, up_eq, up_p, up_k, sN,  e1, e3 ]
  · have e : ¬ ((700 : Nat) : Int) ≤ (n : Int) := by omega
    simp (disch := omega) only [e62_0, xk_0, xk_1, xk_40, xk_41, xk_42, xk_43, xk_44, xk_45, xk_46, xk_47, xk_48, xk_49, xk_50, xk_51, xk_52, xk_53, xk_54, xk_55, xk_56, xk_57, xk_58, xk_59, xk_60, xk_61, xk_62, xk_63, xk_64, xk_65, xk_66, xk_67, xk_68, xk_69, xk_70, xk_71, xk_72, xk_73, xk_74, xk_75, xk_76, xk_77, xk_78, xk_79, xk_80, xk_81, xk_82, xk_83, xk_84, xk_85, xk_86, xk_87, xk_88, xk_89, xk_90, xk_91, xk_92, xk_93, xk_94, xk_95, xk_96, xk_97, xk_98, xm_0_0 hx, xm_0_10 hx, xm_0_11 hx, xm_0_12 hx, xm_0_13 hx, xm_0_14 hx, xm_0_15 hx, xm_0_2 hx, xm_0_9 hx, xm_40_0 hx, xm_40_1 hx, xm_41_0 hx, xm_44_0 hx, xm_44_1 hx, xm_73_4 hx, xm_73_5 hx, xm_73_6 hx, xm_77_1 hx, xm_77_2 hx, xm_77_3 hx, xm_77_4 hx, xm_77_5 hx, xm_77_6 hx, xm_77_7 hx, xm_77_8 hx, xm_77_9 hx, xm_87_2 hx, xm_87_3 hx, xm_87_4 hx, xm_87_5 hx, xm_87_6 hx, xm_87_7 hx, xm_87_8 hx, ite_self, Bool.false_eq_true, eq_self, isk_t, i20_t, w20_t, l23_t, b21_t, b22_t, w_t, bif_t, bif_f, bif_d, if_pos, if_neg, if_true, if_false, not_true_eq_false, not_false_eq_true, Option.bind_some, Option.toList_some, Option.toList_none, List.cons_append, List.nil_append, Int.toNat_natCast, Int.reduceToNat, up_eq, up_p, up_k, sN,  e1, e3, e ]
theorem X_read (hx : XM ρ) (hb : c = 2 ∨ c = 21) (hn7 : n ≤ 700) (ht : ∀ i, i < n → μ 1 i = b i) (hg : ∀ i, i < 23 → μ 42 i = lang.getD i 0) (hc : μ 1000001 0 = 1 ∧ μ 1000001 1 = 9 ∧ μ 1000001 2 = 100 ∧ μ 1000001 3 = 0) (hm : ∀ s : Nat, s < 4 → μ 1000002 s = mxS s) : ∃ ρ' μ', FP3 ρ ρ' ∧ FX3 c μ μ' ∧ match pSF b n (n + 1) (zt Z) 0 0 0 with
    | .inl q => μ' 40 6 = q.1 ∧ μ' 40 7 = (q.2 : Int) ∧ am_E (d + 8) 35 0 [some (.inr (.inr 40)), some (.inr (.inr 1)), some (.inl (n : Int)), some (.inr (.inr c)), none] [] (SH, ρ, μ, cs) = some (some (.inl (-1)), (SH, ρ', μ', cs))
    | .inr z => XS μ' c z.1 ∧ μ' 40 6 = 0 ∧ μ' 40 7 = -1 ∧ am_E (d + 8) 35 0 [some (.inr (.inr 40)), some (.inr (.inr 1)), some (.inl (n : Int)), some (.inr (.inr c)), none] [] (SH, ρ, μ, cs) = some (some (.inl (z.2.2 : Int)), (SH, ρ', μ', cs)) := by
  have hx1 : XM (am_up ρ 40 2 c) := xm_t hx (fun p k _ h2 _ _ => am_up_no h2)
  have hx2 : XM (am_up (am_up ρ 40 2 c) 41 1 1) := xm_t hx1 (fun p k _ _ h3 _ => am_up_no h3)
  obtain ⟨μ1, f1, f2, f3, f4⟩ := X_empty (d := d + 6) (ρ := am_up ρ 40 2 c) (cs := cs) hx1 hb hc
  have hB := fun d => X_begin (d := d) (ρ := am_up ρ 40 2 c) (μ := am_up (am_up μ1 40 3 0) 40 4 0) (cs := cs) hx1 hn7
  generalize hM : am_up (am_up (am_up (am_up μ1 40 3 0) 40 4 0) 41 2 (n : Int)) 41 3 0 = M at *
  have hMq : ∀ q k, q ≠ 40 → q ≠ 41 → M q k = μ1 q k := fun q k q0 q1 => by
    rw [← hM]
    simp (disch := omega) only [up_p]
  have hT : XTk (am_up (am_up ρ 40 2 c) 41 1 1) M b n 0 := by
    refine ⟨up_eq, hn7, by omega, ?_, ?_, fun i hi => ?_, fun i hi => ?_⟩
    · rw [← hM, up_k (by omega), up_eq]
    · rw [← hM, up_eq]; rfl
    · rw [hMq _ _ (by omega) (by omega), f1 _ _ (by omega)]; exact ht i hi
    · rw [hMq _ _ (by omega) (by omega), f1 _ _ (by omega)]; exact hg i hi
  obtain ⟨μ2, g1, g2, g3, g4⟩ := X_next (d := d + 5) (cs := cs) hx2 hT
  have h2q : ∀ q k, q ≠ 40 → q ≠ 41 → μ2 q k = μ1 q k := fun q k q0 q1 => by rw [g1 _ _ (by omega), hMq _ _ q0 q1]
  have hXP : XP (am_up μ2 40 6 0) c (zt Z) 0 := by
    refine ⟨xs_fc (f2 Z) (fun q k q0 q1 => ?_), ?_, ?_, by omega, ?_⟩
    · rw [up_p (by omega), h2q _ _ (by omega) (by omega)]
    · rw [up_k (by omega), g1 _ _ (by omega), ← hM, zt_0 (by decide), up_p (by omega), up_p (by omega), up_k (by omega), up_eq]
      all_goals rfl
    · rw [up_k (by omega), g1 _ _ (by omega), ← hM, up_p (by omega), up_p (by omega), up_eq]
      all_goals rfl
    · rw [up_p (by omega), h2q _ _ (by omega) (by omega), f3, zt_0 (by decide)]
      all_goals rfl
  have hS := X_story (d := d) (cs := cs) (b := b) (n := n) hb (x2 := (n : Int)) (n + 1) (zt Z) 0 0 0 (ρ := am_up (am_up ρ 40 2 c) 41 1 1) (μ := am_up μ2 40 6 0) (by omega) (by omega) (by omega) hx2 (by rw [up_p (by omega), up_eq]) (xt_up g2 (by omega)) (by
    obtain ⟨k1, k2, k3, k4⟩ := g3
    exact ⟨by rw [up_p (by omega)]; exact k1, by rw [up_p (by omega)]; exact k2, by rw [up_p (by omega)]; exact k3, by rw [up_p (by omega)]; exact k4⟩) hXP (zt_si Z) (zt_lb Z) (fun s hs => by rw [up_p (by omega), h2q _ _ (by omega) (by omega), f1 _ _ (by omega)]; exact hm s hs) up_eq
  have run : am_E (d + 8) 35 0 [some (.inr (.inr 40)), some (.inr (.inr 1)), some (.inl (n : Int)), some (.inr (.inr c)), none] [] (SH, ρ, μ, cs) = am_E (d + 8) 35 46 [some (.inr (.inr 40)), some (.inr (.inr 1)), some (.inl (n : Int)), some (.inr (.inr c)), some (.inl ((0 : Nat) : Int))] [] (SH, am_up (am_up ρ 40 2 c) 41 1 1, am_up μ2 40 6 0, cs) := by
    have u1 : (am_up ρ 40 2 c) 40 0 = 41 := by rw [am_up_no (by omega)]; exact xm_40_0 hx
    have u2 : (am_up (am_up ρ 40 2 c) 41 1 1) 40 0 = 41 := by rw [am_up_no (by omega)]; exact u1
    simp (disch := omega) only [e35_0, e35_12, e35_31, e35_38, xk_0, xk_1, xk_40, xk_41, xk_42, xk_43, xk_44, xk_45, xk_46, xk_47, xk_48, xk_49, xk_50, xk_51, xk_52, xk_53, xk_54, xk_55, xk_56, xk_57, xk_58, xk_59, xk_60, xk_61, xk_62, xk_63, xk_64, xk_65, xk_66, xk_67, xk_68, xk_69, xk_70, xk_71, xk_72, xk_73, xk_74, xk_75, xk_76, xk_77, xk_78, xk_79, xk_80, xk_81, xk_82, xk_83, xk_84, xk_85, xk_86, xk_87, xk_88, xk_89, xk_90, xk_91, xk_92, xk_93, xk_94, xk_95, xk_96, xk_97, xk_98, xk_st0 hb, xk_st1 hb, xk_st10 hb, xk_st11 hb, xk_st12 hb, xk_st13 hb, xk_st14 hb, xk_st15 hb, xk_st16 hb, xk_st17 hb, xk_st18 hb, xk_st2 hb, xk_st3 hb, xk_st4 hb, xk_st5 hb, xk_st6 hb, xk_st7 hb, xk_st8 hb, xk_st9 hb, xm_0_0 hx, xm_0_10 hx, xm_0_11 hx, xm_0_12 hx, xm_0_13 hx, xm_0_14 hx, xm_0_15 hx, xm_0_2 hx, xm_0_9 hx, xm_40_0 hx, xm_40_1 hx, xm_41_0 hx, xm_44_0 hx, xm_44_1 hx, xm_73_4 hx, xm_73_5 hx, xm_73_6 hx, xm_77_1 hx, xm_77_2 hx, xm_77_3 hx, xm_77_4 hx, xm_77_5 hx, xm_77_6 hx, xm_77_7 hx, xm_77_8 hx, xm_77_9 hx, xm_87_2 hx, xm_87_3 hx, xm_87_4 hx, xm_87_5 hx, xm_87_6 hx, xm_87_7 hx, xm_87_8 hx, xm_lw2 hx hb, xm_lw3 hx hb, xm_lw4 hx hb, xm_lw5 hx hb, xm_st1 hx hb, xm_st10 hx hb, xm_st11 hx hb, xm_st13 hx hb, xm_st14 hx hb, xm_st15 hx hb, xm_st16 hx hb, xm_st17 hx hb, xm_st2 hx hb, xm_st4 hx hb, xm_st5 hx hb, xm_st6 hx hb, xm_st7 hx hb, xm_st9 hx hb, ite_self, Bool.false_eq_true, eq_self, isk_t, i20_t, w20_t, l23_t, b21_t, b22_t, w_t, bif_t, bif_f, bif_d, if_pos, if_neg, if_true, if_false, not_true_eq_false, not_false_eq_true, Option.bind_some, Option.toList_some, Option.toList_none, List.cons_append, List.nil_append, Int.toNat_natCast, Int.reduceToNat, up_eq, up_p, up_k, sN,  up_eq, f4, hB, g4, u1, u2 ]
    all_goals rfl
  rw [run]
  obtain ⟨ρ', μ', k1, k2, k3⟩ := hS
  have fr : FX3 c μ μ' := fun q k hk => by
    rw [k2 q k (by omega), am_up_no (by omega), g1 q k (by omega), ← hM, am_up_no (by omega), am_up_no (by omega), am_up_no (by omega), am_up_no (by omega), f1 q k (by omega)]
  refine ⟨ρ', μ', fun p k hk => ?_, fr, ?_⟩
  · rw [k1 p k (by omega), am_up_no (by omega), am_up_no (by omega)]
  · cases hp : pSF b n (n + 1) (zt Z) 0 0 0 with
    | inl q => rw [hp] at k3; exact k3
    | inr z => rw [hp] at k3; exact k3
end XRD
