/-! TEXT: the class's next token -/
section XTN
variable {ρ : Nat → Nat → Nat} {μ : Nat → Nat → Int} {cs : Nat × Nat × Nat} {d n a : Nat} {b : Nat → Int}
/-- what the class's tokens read -/
def XTk (ρ : Nat → Nat → Nat) (μ : Nat → Nat → Int) (b : Nat → Int) (n a : Nat) : Prop := ρ 41 1 = 1 ∧ n ≤ 700 ∧ a ≤ n ∧ μ 41 2 = (n : Int) ∧ μ 41 3 = (a : Int) ∧ (∀ i, i < n → μ 1 i = b i) ∧ ∀ i, i < 23 → μ 42 i = lang.getD i 0
/-- the token at hand -/
def XK (μ : Nat → Nat → Int) (t : Int × Int × Nat × Nat) : Prop := μ 41 4 = t.1 ∧ μ 41 6 = (t.2.2.1 : Int) ∧ (t.1 ≤ 23 → μ 41 5 = t.2.1) ∧ (t.1 = 24 → NV (μ 41 5) t.2.1)
theorem xt_fr {μ' : Nat → Nat → Int} {ρ' : Nat → Nat → Nat} (h : XTk ρ μ b n a) (hr : ρ' 41 1 = ρ 41 1) (h1 : ∀ i, μ' 1 i = μ 1 i) (h2 : ∀ i, μ' 42 i = μ 42 i) (h3 : μ' 41 2 = μ 41 2) (h4 : μ' 41 3 = μ 41 3) : XTk ρ' μ' b n a := by
  obtain ⟨a1, a2, a3, a4, a5, a6, a7⟩ := h
  exact ⟨hr.trans a1, a2, a3, h3.trans a4, h4.trans a5, fun i hi => (h1 i).trans (a6 i hi), fun i hi => (h2 i).trans (a7 i hi)⟩
theorem X_blk (hx : XM ρ) (hy : ρ 41 1 = 1) (hn : n ≤ 700) : ∀ (m a : Nat) {μ : Nat → Nat → Int}, n - a = m → a ≤ n → μ 41 2 = (n : Int) → μ 41 3 = (a : Int) → (∀ i, i < n → μ 1 i = b i) → am_E (d + 2) 63 0 [some (.inr (.inr 41))] [] (SH, ρ, μ, cs) = am_E (d + 2) 63 0 [some (.inr (.inr 41))] [] (SH, ρ, am_up μ 41 3 (rn blk b n a), cs) := by
  intro m
  induction m with
  | zero =>
    intro a μ hm ha h2 h3 hb
    rw [rn_no (by omega), am_upi h3]
  | succ m ih =>
    intro a μ hm ha h2 h3 hb
    by_cases c : blk (b a) = true
    · have h := ih (a + 1) (μ := am_up μ 41 3 ((a : Int) + 1)) (by omega) (by omega) (by rw [up_k (by decide)]; exact h2) (up_eq.trans (by omega)) (fun i hi => by rw [up_p (by decide)]; exact hb i hi)
      rw [am_up2] at h
      rw [rn_yes (by omega) c, ← h]
      have hbk := hb a (by omega)
      simp only [blk, decide_eq_true_eq] at c
      rcases c with c | c
      · rw [c] at hbk
        rw [e63_0]; simp (disch := omega) only [xk_0, xk_1, xk_40, xk_41, xk_42, xk_43, xk_44, xk_45, xk_46, xk_47, xk_48, xk_49, xk_50, xk_51, xk_52, xk_53, xk_54, xk_55, xk_56, xk_57, xk_58, xk_59, xk_60, xk_61, xk_62, xk_63, xk_64, xk_65, xk_66, xk_67, xk_68, xk_69, xk_70, xk_71, xk_72, xk_73, xk_74, xk_75, xk_76, xk_77, xk_78, xk_79, xk_80, xk_81, xk_82, xk_83, xk_84, xk_85, xk_86, xk_87, xk_88, xk_89, xk_90, xk_91, xk_92, xk_93, xk_94, xk_95, xk_96, xk_97, xk_98, xm_0_0 hx, xm_0_10 hx, xm_0_11 hx, xm_0_12 hx, xm_0_13 hx, xm_0_14 hx, xm_0_15 hx, xm_0_2 hx, xm_0_9 hx, xm_40_0 hx, xm_40_1 hx, xm_41_0 hx, xm_44_0 hx, xm_44_1 hx, xm_73_4 hx, xm_73_5 hx, xm_73_6 hx, xm_77_1 hx, xm_77_2 hx, xm_77_3 hx, xm_77_4 hx, xm_77_5 hx, xm_77_6 hx, xm_77_7 hx, xm_77_8 hx, xm_77_9 hx, xm_87_2 hx, xm_87_3 hx, xm_87_4 hx, xm_87_5 hx, xm_87_6 hx, xm_87_7 hx, xm_87_8 hx, ite_self, Bool.false_eq_true, eq_self, isk_t, i20_t, w20_t, l23_t, b21_t, b22_t, w_t, bif_t, bif_f, bif_d, if_pos, if_neg, if_true, if_false, not_true_eq_false, not_false_eq_true, Option.bind_some, Option.toList_some, Option.toList_none, List.cons_append, List.nil_append, Int.toNat_natCast, Int.reduceToNat, up_eq, up_p, up_k, sN,  hy, h2, h3, hbk ]
        all_goals rfl
      · rw [c] at hbk
        rw [e63_0]; simp (disch := omega) only [xk_0, xk_1, xk_40, xk_41, xk_42, xk_43, xk_44, xk_45, xk_46, xk_47, xk_48, xk_49, xk_50, xk_51, xk_52, xk_53, xk_54, xk_55, xk_56, xk_57, xk_58, xk_59, xk_60, xk_61, xk_62, xk_63, xk_64, xk_65, xk_66, xk_67, xk_68, xk_69, xk_70, xk_71, xk_72, xk_73, xk_74, xk_75, xk_76, xk_77, xk_78, xk_79, xk_80, xk_81, xk_82, xk_83, xk_84, xk_85, xk_86, xk_87, xk_88, xk_89, xk_90, xk_91, xk_92, xk_93, xk_94, xk_95, xk_96, xk_97, xk_98, xm_0_0 hx, xm_0_10 hx, xm_0_11 hx, xm_0_12 hx, xm_0_13 hx, xm_0_14 hx, xm_0_15 hx, xm_0_2 hx, xm_0_9 hx, xm_40_0 hx, xm_40_1 hx, xm_41_0 hx, xm_44_0 hx, xm_44_1 hx, xm_73_4 hx, xm_73_5 hx, xm_73_6 hx, xm_77_1 hx, xm_77_2 hx, xm_77_3 hx, xm_77_4 hx, xm_77_5 hx, xm_77_6 hx, xm_77_7 hx, xm_77_8 hx, xm_77_9 hx, xm_87_2 hx, xm_87_3 hx, xm_87_4 hx, xm_87_5 hx, xm_87_6 hx, xm_87_7 hx, xm_87_8 hx, ite_self, Bool.false_eq_true, eq_self, isk_t, i20_t, w20_t, l23_t, b21_t, b22_t, w_t, bif_t, bif_f, bif_d, if_pos, if_neg, if_true, if_false, not_true_eq_false, not_false_eq_true, Option.bind_some, Option.toList_some, Option.toList_none, List.cons_append, List.nil_append, Int.toNat_natCast, Int.reduceToNat, up_eq, up_p, up_k, sN,  hy, h2, h3, hbk ]
        all_goals rfl
    · rw [rn_no (fun z => c z.2), am_upi h3]
theorem ft_c {μ' : Nat → Nat → Int} {k : Nat} {v : Int} (h : FT (am_up μ 41 k v) μ') (hk : 3 ≤ k ∧ k ≤ 6) : FT μ μ' := ft_tr (ft_up (ft_rf μ) hk) h
theorem tok_bd (hn : a ≤ n) : a ≤ (tok b n a).2.2.1 ∧ (tok b n a).2.2.1 ≤ (tok b n a).2.2.2 ∧ (tok b n a).2.2.2 ≤ n ∧ ((tok b n a).1 ≠ 39 → (tok b n a).2.2.1 < (tok b n a).2.2.2) := by
  have g0 := rn_ge (P := blk) (b := b) (n := n) (i := a)
  have g1 := rn_le (P := blk) (b := b) hn
  unfold tok
  generalize rn blk b n a = p at *
  by_cases c0 : n ≤ p
  · rw [if_pos c0]; exact ⟨g0, Nat.le_refl _, by show p ≤ n; omega, fun h => absurd rfl h⟩
  rw [if_neg c0]
  by_cases c1 : ltr (b p) = true
  · rw [if_pos c1]
    have g2 := rn_gt (P := ltr) (b := b) (n := n) (i := p) (by omega) c1
    have g3 := rn_le (P := ltr) (b := b) (n := n) (i := p) (by omega)
    by_cases c2 : 6 < rn ltr b n p - p
    · rw [if_pos c2]; exact ⟨g0, Nat.le_of_lt g2, g3, fun _ => g2⟩
    · rw [if_neg c2]; exact ⟨g0, Nat.le_of_lt g2, g3, fun _ => g2⟩
  rw [if_neg c1]
  by_cases c2 : dgt (b p) = true
  · rw [if_pos c2]
    have g2 := rn_gt (P := dgt) (b := b) (n := n) (i := p) (by omega) c2
    have g3 := rn_le (P := dgt) (b := b) (n := n) (i := p) (by omega)
    exact ⟨g0, Nat.le_of_lt g2, g3, fun _ => g2⟩
  rw [if_neg c2]
  have g4 : 1 ≤ (sg2 b n p).2 ∧ p + (sg2 b n p).2 ≤ n := by
    unfold sg2
    by_cases q1 : b p = 60 ∧ p + 1 < n ∧ b (p + 1) = 61
    · rw [if_pos q1]; simp only; omega
    rw [if_neg q1]
    by_cases q2 : b p = 60 ∧ p + 1 < n ∧ b (p + 1) = 62
    · rw [if_pos q2]; simp only; omega
    rw [if_neg q2]
    by_cases q3 : b p = 62 ∧ p + 1 < n ∧ b (p + 1) = 61
    · rw [if_pos q3]; simp only; omega
    rw [if_neg q3]; simp only; omega
  exact ⟨g0, Nat.le_add_right _ _, g4.2, fun _ => by show p < p + (sg2 b n p).2; omega⟩
theorem sgn_bd (c : Int) : 25 ≤ sgn c ∧ sgn c ≤ 38 := by
  unfold sgn
  repeat' split
  all_goals omega
theorem sg2_bd (p : Nat) : 25 ≤ (sg2 b n p).1 ∧ (sg2 b n p).1 ≤ 38 := by
  unfold sg2
  have := sgn_bd (b p)
  repeat' split
  all_goals simp only
  all_goals omega
theorem X_next (hx : XM ρ) (h : XTk ρ μ b n a) : ∃ μ', FT μ μ' ∧ XTk ρ μ' b n (tok b n a).2.2.2 ∧ XK μ' (tok b n a) ∧ am_E (d + 2) 63 0 [some (.inr (.inr 41))] [] (SH, ρ, μ, cs) = some (none, (SH, ρ, μ', cs)) := by
  obtain ⟨hy, hn, ha, h2, h3, hb, hg⟩ := h
  suffices hs : ∃ μ', FT μ μ' ∧ μ' 41 3 = ((tok b n a).2.2.2 : Int) ∧ XK μ' (tok b n a) ∧ am_E (d + 2) 63 0 [some (.inr (.inr 41))] [] (SH, ρ, μ, cs) = some (none, (SH, ρ, μ', cs)) by
    obtain ⟨μ', f1, f2, f3, f4⟩ := hs
    exact ⟨μ', f1, ⟨hy, hn, (tok_bd ha).2.2.1, by rw [f1 _ _ (by omega)]; exact h2, f2, fun i hi => by rw [f1 _ _ (by omega)]; exact hb i hi, fun i hi => by rw [f1 _ _ (by omega)]; exact hg i hi⟩, f3, f4⟩
  rw [X_blk hx hy hn _ a rfl ha h2 h3 hb]
  have g0 := rn_ge (P := blk) (b := b) (n := n) (i := a)
  have g1 := rn_le (P := blk) (b := b) ha
  have g9 := rn_end (P := blk) (b := b) (n := n) (i := a)
  unfold tok
  generalize rn blk b n a = p at *
  have m2 : (am_up μ 41 3 p) 41 2 = (n : Int) := by rw [up_k (by decide)]; exact h2
  have m3 : (am_up μ 41 3 p) 41 3 = (p : Int) := up_eq
  have mb : ∀ i, i < n → (am_up μ 41 3 p) 1 i = b i := fun i hi => by rw [up_p (by decide)]; exact hb i hi
  have mg : ∀ i, i < 23 → (am_up μ 41 3 p) 42 i = lang.getD i 0 := fun i hi => by rw [up_p (by decide)]; exact hg i hi
  have mf : FT μ (am_up μ 41 3 p) := ft_up (ft_rf μ) (by omega)
  generalize am_up μ 41 3 (p : Int) = μ1 at *
  by_cases c0 : n ≤ p
  · rw [if_pos c0]
    refine ⟨am_up (am_up μ1 41 6 p) 41 4 39, ft_up (ft_up mf (by omega)) (by omega), by rw [up_k (by decide), up_k (by decide)]; exact m3, ⟨up_eq, by rw [up_k (by decide), up_eq], fun z => absurd z (by show ¬ (39 : Int) ≤ 23; decide), fun z => absurd z (by show ¬ (39 : Int) = 24; decide)⟩, ?_⟩
    rw [e63_0]; simp (disch := omega) only [e63_128, xk_0, xk_1, xk_40, xk_41, xk_42, xk_43, xk_44, xk_45, xk_46, xk_47, xk_48, xk_49, xk_50, xk_51, xk_52, xk_53, xk_54, xk_55, xk_56, xk_57, xk_58, xk_59, xk_60, xk_61, xk_62, xk_63, xk_64, xk_65, xk_66, xk_67, xk_68, xk_69, xk_70, xk_71, xk_72, xk_73, xk_74, xk_75, xk_76, xk_77, xk_78, xk_79, xk_80, xk_81, xk_82, xk_83, xk_84, xk_85, xk_86, xk_87, xk_88, xk_89, xk_90, xk_91, xk_92, xk_93, xk_94, xk_95, xk_96, xk_97, xk_98, xm_0_0 hx, xm_0_10 hx, xm_0_11 hx, xm_0_12 hx, xm_0_13 hx, xm_0_14 hx, xm_0_15 hx, xm_0_2 hx, xm_0_9 hx, xm_40_0 hx, xm_40_1 hx, xm_41_0 hx, xm_44_0 hx, xm_44_1 hx, xm_73_4 hx, xm_73_5 hx, xm_73_6 hx, xm_77_1 hx, xm_77_2 hx, xm_77_3 hx, xm_77_4 hx, xm_77_5 hx, xm_77_6 hx, xm_77_7 hx, xm_77_8 hx, xm_77_9 hx, xm_87_2 hx, xm_87_3 hx, xm_87_4 hx, xm_87_5 hx, xm_87_6 hx, xm_87_7 hx, xm_87_8 hx, ite_self, Bool.false_eq_true, eq_self, isk_t, i20_t, w20_t, l23_t, b21_t, b22_t, w_t, bif_t, bif_f, bif_d, if_pos, if_neg, if_true, if_false, not_true_eq_false, not_false_eq_true, Option.bind_some, Option.toList_some, Option.toList_none, List.cons_append, List.nil_append, Int.toNat_natCast, Int.reduceToNat, up_eq, up_p, up_k, sN,  hy, m2, m3 ]
  rw [if_neg c0]
  have hbk := mb p (by omega)
  have hnb := g9 (by omega)
  simp only [blk, decide_eq_false_iff_not] at hnb
  have k2 : (am_up μ1 41 6 p) 41 2 = (n : Int) := by rw [up_k (by decide)]; exact m2
  have k3 : (am_up μ1 41 6 p) 41 3 = (p : Int) := by rw [up_k (by decide)]; exact m3
  have k6 : (am_up μ1 41 6 p) 41 6 = (p : Int) := up_eq
  have kb : ∀ i, i < n → (am_up μ1 41 6 p) 1 i = b i := fun i hi => by rw [up_p (by decide)]; exact mb i hi
  have kg : ∀ i, i < 23 → (am_up μ1 41 6 p) 42 i = lang.getD i 0 := fun i hi => by rw [up_p (by decide)]; exact mg i hi
  have kf : FT μ (am_up μ1 41 6 p) := ft_up mf (by omega)
  by_cases c1 : ltr (b p) = true
  · rw [if_pos c1]
    have g2 := rn_gt (P := ltr) (b := b) (n := n) (i := p) (by omega) c1
    have g3 := rn_le (P := ltr) (b := b) (n := n) (i := p) (by omega)
    have g4 := fun j => rn_in (P := ltr) (b := b) (n := n) (i := p) (j := j)
    have g5 := rn_end (P := ltr) (b := b) (n := n) (i := p)
    generalize rn ltr b n p = e at *
    have w1 := X_tw1 (d := d) (cs := cs) (ρ := ρ) hx hy hn g3 (fun j h0 h1 => g4 j h0 h1) (e - p) 0 (by omega) k2 (by rw [k3]; simp) k6 kb
    have w2 := X_tw2 (d := d) (cs := cs) (ρ := ρ) (μ := am_up (am_up μ1 41 6 p) 41 3 e) hx hy hn g2 g3 (fun j h0 h1 => g4 j h0 h1) g5 (fun i hi => by rw [up_p (by decide)]; exact kg i hi) (by rw [up_k (by decide)]; exact k2) up_eq (by rw [up_k (by decide)]; exact k6) (fun i hi => by rw [up_p (by decide)]; exact kb i hi)
    have w3 : am_E (d + 1) 64 0 [some (.inr (.inr 41)), none, none, none] [] (SH, ρ, am_up μ1 41 6 p, cs) = am_E (d + 1) 64 2 [some (.inr (.inr 41)), some (.inl (cdP b p e (min 0 6))), none, none] [] (SH, ρ, am_up μ1 41 6 p, cs) := by
      simp (disch := omega) only [e64_0, xk_0, xk_1, xk_40, xk_41, xk_42, xk_43, xk_44, xk_45, xk_46, xk_47, xk_48, xk_49, xk_50, xk_51, xk_52, xk_53, xk_54, xk_55, xk_56, xk_57, xk_58, xk_59, xk_60, xk_61, xk_62, xk_63, xk_64, xk_65, xk_66, xk_67, xk_68, xk_69, xk_70, xk_71, xk_72, xk_73, xk_74, xk_75, xk_76, xk_77, xk_78, xk_79, xk_80, xk_81, xk_82, xk_83, xk_84, xk_85, xk_86, xk_87, xk_88, xk_89, xk_90, xk_91, xk_92, xk_93, xk_94, xk_95, xk_96, xk_97, xk_98, xm_0_0 hx, xm_0_10 hx, xm_0_11 hx, xm_0_12 hx, xm_0_13 hx, xm_0_14 hx, xm_0_15 hx, xm_0_2 hx, xm_0_9 hx, xm_40_0 hx, xm_40_1 hx, xm_41_0 hx, xm_44_0 hx, xm_44_1 hx, xm_73_4 hx, xm_73_5 hx, xm_73_6 hx, xm_77_1 hx, xm_77_2 hx, xm_77_3 hx, xm_77_4 hx, xm_77_5 hx, xm_77_6 hx, xm_77_7 hx, xm_77_8 hx, xm_77_9 hx, xm_87_2 hx, xm_87_3 hx, xm_87_4 hx, xm_87_5 hx, xm_87_6 hx, xm_87_7 hx, xm_87_8 hx, ite_self, Bool.false_eq_true, eq_self, isk_t, i20_t, w20_t, l23_t, b21_t, b22_t, w_t, bif_t, bif_f, bif_d, if_pos, if_neg, if_true, if_false, not_true_eq_false, not_false_eq_true, Option.bind_some, Option.toList_some, Option.toList_none, List.cons_append, List.nil_append, Int.toNat_natCast, Int.reduceToNat, up_eq, up_p, up_k, sN]
      all_goals rfl
    rw [w1.trans w2] at w3
    simp only [ltr, decide_eq_true_eq] at c1
    by_cases c2 : 6 < e - p
    · rw [if_pos c2] at w3 ⊢
      refine ⟨am_up (am_up (am_up μ1 41 6 p) 41 3 e) 41 4 38, ft_up (ft_up kf (by omega)) (by omega), ?_, ⟨up_eq, ?_, fun z => absurd z (by show ¬ (38 : Int) ≤ 23; decide), fun z => absurd z (by show ¬ (38 : Int) = 24; decide)⟩, ?_⟩
      rotate_left 2
      · rw [e63_0]; simp (disch := omega) only [e63_92, e69_0, e63_99, e63_128, xk_0, xk_1, xk_40, xk_41, xk_42, xk_43, xk_44, xk_45, xk_46, xk_47, xk_48, xk_49, xk_50, xk_51, xk_52, xk_53, xk_54, xk_55, xk_56, xk_57, xk_58, xk_59, xk_60, xk_61, xk_62, xk_63, xk_64, xk_65, xk_66, xk_67, xk_68, xk_69, xk_70, xk_71, xk_72, xk_73, xk_74, xk_75, xk_76, xk_77, xk_78, xk_79, xk_80, xk_81, xk_82, xk_83, xk_84, xk_85, xk_86, xk_87, xk_88, xk_89, xk_90, xk_91, xk_92, xk_93, xk_94, xk_95, xk_96, xk_97, xk_98, xm_0_0 hx, xm_0_10 hx, xm_0_11 hx, xm_0_12 hx, xm_0_13 hx, xm_0_14 hx, xm_0_15 hx, xm_0_2 hx, xm_0_9 hx, xm_40_0 hx, xm_40_1 hx, xm_41_0 hx, xm_44_0 hx, xm_44_1 hx, xm_73_4 hx, xm_73_5 hx, xm_73_6 hx, xm_77_1 hx, xm_77_2 hx, xm_77_3 hx, xm_77_4 hx, xm_77_5 hx, xm_77_6 hx, xm_77_7 hx, xm_77_8 hx, xm_77_9 hx, xm_87_2 hx, xm_87_3 hx, xm_87_4 hx, xm_87_5 hx, xm_87_6 hx, xm_87_7 hx, xm_87_8 hx, ite_self, Bool.false_eq_true, eq_self, isk_t, i20_t, w20_t, l23_t, b21_t, b22_t, w_t, bif_t, bif_f, bif_d, if_pos, if_neg, if_true, if_false, not_true_eq_false, not_false_eq_true, Option.bind_some, Option.toList_some, Option.toList_none, List.cons_append, List.nil_append, Int.toNat_natCast, Int.reduceToNat, up_eq, up_p, up_k, sN,  hy, m2, m3, hbk, w3 ]
        all_goals rfl
      · rw [up_k (by decide), up_eq]
      · rw [up_k (by decide), up_k (by decide)]; exact k6
    · rw [if_neg c2] at w3 ⊢
      refine ⟨am_up (am_up (am_up (am_up μ1 41 6 p) 41 3 e) 41 5 (wc b p e)) 41 4 (wkd (wc b p e)), ft_up (ft_up (ft_up kf (by omega)) (by omega)) (by omega), ?_, ⟨up_eq, ?_, fun z => ?_, fun z => ?_⟩, ?_⟩
      rotate_left 4
      · rw [e63_0]; simp (disch := omega) only [e63_92, e69_0, e63_99, e63_128, xk_0, xk_1, xk_40, xk_41, xk_42, xk_43, xk_44, xk_45, xk_46, xk_47, xk_48, xk_49, xk_50, xk_51, xk_52, xk_53, xk_54, xk_55, xk_56, xk_57, xk_58, xk_59, xk_60, xk_61, xk_62, xk_63, xk_64, xk_65, xk_66, xk_67, xk_68, xk_69, xk_70, xk_71, xk_72, xk_73, xk_74, xk_75, xk_76, xk_77, xk_78, xk_79, xk_80, xk_81, xk_82, xk_83, xk_84, xk_85, xk_86, xk_87, xk_88, xk_89, xk_90, xk_91, xk_92, xk_93, xk_94, xk_95, xk_96, xk_97, xk_98, xm_0_0 hx, xm_0_10 hx, xm_0_11 hx, xm_0_12 hx, xm_0_13 hx, xm_0_14 hx, xm_0_15 hx, xm_0_2 hx, xm_0_9 hx, xm_40_0 hx, xm_40_1 hx, xm_41_0 hx, xm_44_0 hx, xm_44_1 hx, xm_73_4 hx, xm_73_5 hx, xm_73_6 hx, xm_77_1 hx, xm_77_2 hx, xm_77_3 hx, xm_77_4 hx, xm_77_5 hx, xm_77_6 hx, xm_77_7 hx, xm_77_8 hx, xm_77_9 hx, xm_87_2 hx, xm_87_3 hx, xm_87_4 hx, xm_87_5 hx, xm_87_6 hx, xm_87_7 hx, xm_87_8 hx, ite_self, Bool.false_eq_true, eq_self, isk_t, i20_t, w20_t, l23_t, b21_t, b22_t, w_t, bif_t, bif_f, bif_d, if_pos, if_neg, if_true, if_false, not_true_eq_false, not_false_eq_true, Option.bind_some, Option.toList_some, Option.toList_none, List.cons_append, List.nil_append, Int.toNat_natCast, Int.reduceToNat, up_eq, up_p, up_k, sN,  hy, m2, m3, hbk, w3 ]
        all_goals rfl
      · rw [up_k (by decide), up_k (by decide), up_eq]
      · rw [up_k (by decide), up_k (by decide), up_k (by decide)]; exact k6
      · rw [up_k (by decide), up_eq]
      · have := wkd_bd (wc b p e)
        have z : wkd (wc b p e) = 24 := z
        omega
  rw [if_neg c1]
  simp only [ltr, decide_eq_true_eq] at c1
  by_cases c2 : dgt (b p) = true
  · rw [if_pos c2]
    have g2 := rn_gt (P := dgt) (b := b) (n := n) (i := p) (by omega) c2
    have g3 := rn_le (P := dgt) (b := b) (n := n) (i := p) (by omega)
    have g4 := fun j => rn_in (P := dgt) (b := b) (n := n) (i := p) (j := j)
    have g5 := rn_end (P := dgt) (b := b) (n := n) (i := p)
    generalize rn dgt b n p = e at *
    obtain ⟨μ', f1, f2, f3, f4, f5, f6⟩ := X_tn1 (d := d) (cs := cs) (ρ := ρ) (μ := am_up (am_up μ1 41 6 p) 41 5 0) (p := p) hx hy hn g3 (fun j h0 h1 => g4 j h0 h1) g5 (e - p) 0 (by omega) (by rw [up_k (by decide)]; exact k2) (by rw [up_k (by decide), k3]; simp) up_eq (fun i hi => by rw [up_p (by decide)]; exact kb i hi)
    have nv := nm_nv (b := b) (p := p) (m := e - p) (fun j h0 h1 => g4 j h0 (by omega)) (e - p) (Nat.le_refl _)
    simp only [dgt, decide_eq_true_eq] at c2
    refine ⟨μ', ft_tr (ft_up kf (by omega)) f1, f2, ⟨f3, by rw [f5, up_k (by decide)]; exact k6, fun z => absurd z (by show ¬ (24 : Int) ≤ 23; decide), fun _ => by rw [f4]; exact nv⟩, ?_⟩
    rw [e63_0]; simp (disch := omega) only [e63_92, e63_114, e65_0, e69_0, e70_0, e63_121, e63_128, xk_0, xk_1, xk_40, xk_41, xk_42, xk_43, xk_44, xk_45, xk_46, xk_47, xk_48, xk_49, xk_50, xk_51, xk_52, xk_53, xk_54, xk_55, xk_56, xk_57, xk_58, xk_59, xk_60, xk_61, xk_62, xk_63, xk_64, xk_65, xk_66, xk_67, xk_68, xk_69, xk_70, xk_71, xk_72, xk_73, xk_74, xk_75, xk_76, xk_77, xk_78, xk_79, xk_80, xk_81, xk_82, xk_83, xk_84, xk_85, xk_86, xk_87, xk_88, xk_89, xk_90, xk_91, xk_92, xk_93, xk_94, xk_95, xk_96, xk_97, xk_98, xm_0_0 hx, xm_0_10 hx, xm_0_11 hx, xm_0_12 hx, xm_0_13 hx, xm_0_14 hx, xm_0_15 hx, xm_0_2 hx, xm_0_9 hx, xm_40_0 hx, xm_40_1 hx, xm_41_0 hx, xm_44_0 hx, xm_44_1 hx, xm_73_4 hx, xm_73_5 hx, xm_73_6 hx, xm_77_1 hx, xm_77_2 hx, xm_77_3 hx, xm_77_4 hx, xm_77_5 hx, xm_77_6 hx, xm_77_7 hx, xm_77_8 hx, xm_77_9 hx, xm_87_2 hx, xm_87_3 hx, xm_87_4 hx, xm_87_5 hx, xm_87_6 hx, xm_87_7 hx, xm_87_8 hx, ite_self, Bool.false_eq_true, eq_self, isk_t, i20_t, w20_t, l23_t, b21_t, b22_t, w_t, bif_t, bif_f, bif_d, if_pos, if_neg, if_true, if_false, not_true_eq_false, not_false_eq_true, Option.bind_some, Option.toList_some, Option.toList_none, List.cons_append, List.nil_append, Int.toNat_natCast, Int.reduceToNat, up_eq, up_p, up_k, sN,  hy, m2, m3, hbk, f6 ]
  rw [if_neg c2]
  simp only [dgt, decide_eq_true_eq] at c2
  obtain ⟨μ', f1, f2, f3, f4, f5⟩ := X_ts (d := d) (cs := cs) (ρ := ρ) (μ := am_up μ1 41 6 p) (p := p) hx hy hn (by omega) k2 k3 kb
  have sb := sg2_bd (b := b) (n := n) p
  refine ⟨μ', ft_tr kf f1, f2, ⟨f3, by rw [f4]; exact k6, fun z => ?_, fun z => ?_⟩, ?_⟩
  · have z : (sg2 b n p).1 ≤ 23 := z
    omega
  · have z : (sg2 b n p).1 = 24 := z
    omega
  by_cases q1 : b p < 97
  · by_cases q2 : b p < 48
    · rw [e63_0]; simp (disch := omega) only [e63_92, e63_114, e69_0, e70_0, e63_121, e63_128, xk_0, xk_1, xk_40, xk_41, xk_42, xk_43, xk_44, xk_45, xk_46, xk_47, xk_48, xk_49, xk_50, xk_51, xk_52, xk_53, xk_54, xk_55, xk_56, xk_57, xk_58, xk_59, xk_60, xk_61, xk_62, xk_63, xk_64, xk_65, xk_66, xk_67, xk_68, xk_69, xk_70, xk_71, xk_72, xk_73, xk_74, xk_75, xk_76, xk_77, xk_78, xk_79, xk_80, xk_81, xk_82, xk_83, xk_84, xk_85, xk_86, xk_87, xk_88, xk_89, xk_90, xk_91, xk_92, xk_93, xk_94, xk_95, xk_96, xk_97, xk_98, xm_0_0 hx, xm_0_10 hx, xm_0_11 hx, xm_0_12 hx, xm_0_13 hx, xm_0_14 hx, xm_0_15 hx, xm_0_2 hx, xm_0_9 hx, xm_40_0 hx, xm_40_1 hx, xm_41_0 hx, xm_44_0 hx, xm_44_1 hx, xm_73_4 hx, xm_73_5 hx, xm_73_6 hx, xm_77_1 hx, xm_77_2 hx, xm_77_3 hx, xm_77_4 hx, xm_77_5 hx, xm_77_6 hx, xm_77_7 hx, xm_77_8 hx, xm_77_9 hx, xm_87_2 hx, xm_87_3 hx, xm_87_4 hx, xm_87_5 hx, xm_87_6 hx, xm_87_7 hx, xm_87_8 hx, ite_self, Bool.false_eq_true, eq_self, isk_t, i20_t, w20_t, l23_t, b21_t, b22_t, w_t, bif_t, bif_f, bif_d, if_pos, if_neg, if_true, if_false, not_true_eq_false, not_false_eq_true, Option.bind_some, Option.toList_some, Option.toList_none, List.cons_append, List.nil_append, Int.toNat_natCast, Int.reduceToNat, up_eq, up_p, up_k, sN,  hy, m2, m3, hbk, f5 ]
    · rw [e63_0]; simp (disch := omega) only [e63_92, e63_114, e69_0, e70_0, e63_121, e63_128, xk_0, xk_1, xk_40, xk_41, xk_42, xk_43, xk_44, xk_45, xk_46, xk_47, xk_48, xk_49, xk_50, xk_51, xk_52, xk_53, xk_54, xk_55, xk_56, xk_57, xk_58, xk_59, xk_60, xk_61, xk_62, xk_63, xk_64, xk_65, xk_66, xk_67, xk_68, xk_69, xk_70, xk_71, xk_72, xk_73, xk_74, xk_75, xk_76, xk_77, xk_78, xk_79, xk_80, xk_81, xk_82, xk_83, xk_84, xk_85, xk_86, xk_87, xk_88, xk_89, xk_90, xk_91, xk_92, xk_93, xk_94, xk_95, xk_96, xk_97, xk_98, xm_0_0 hx, xm_0_10 hx, xm_0_11 hx, xm_0_12 hx, xm_0_13 hx, xm_0_14 hx, xm_0_15 hx, xm_0_2 hx, xm_0_9 hx, xm_40_0 hx, xm_40_1 hx, xm_41_0 hx, xm_44_0 hx, xm_44_1 hx, xm_73_4 hx, xm_73_5 hx, xm_73_6 hx, xm_77_1 hx, xm_77_2 hx, xm_77_3 hx, xm_77_4 hx, xm_77_5 hx, xm_77_6 hx, xm_77_7 hx, xm_77_8 hx, xm_77_9 hx, xm_87_2 hx, xm_87_3 hx, xm_87_4 hx, xm_87_5 hx, xm_87_6 hx, xm_87_7 hx, xm_87_8 hx, ite_self, Bool.false_eq_true, eq_self, isk_t, i20_t, w20_t, l23_t, b21_t, b22_t, w_t, bif_t, bif_f, bif_d, if_pos, if_neg, if_true, if_false, not_true_eq_false, not_false_eq_true, Option.bind_some, Option.toList_some, Option.toList_none, List.cons_append, List.nil_append, Int.toNat_natCast, Int.reduceToNat, up_eq, up_p, up_k, sN,  hy, m2, m3, hbk, f5 ]
  · rw [e63_0]; simp (disch := omega) only [e63_92, e63_114, e69_0, e70_0, e63_121, e63_128, xk_0, xk_1, xk_40, xk_41, xk_42, xk_43, xk_44, xk_45, xk_46, xk_47, xk_48, xk_49, xk_50, xk_51, xk_52, xk_53, xk_54, xk_55, xk_56, xk_57, xk_58, xk_59, xk_60, xk_61, xk_62, xk_63, xk_64, xk_65, xk_66, xk_67, xk_68, xk_69, xk_70, xk_71, xk_72, xk_73, xk_74, xk_75, xk_76, xk_77, xk_78, xk_79, xk_80, xk_81, xk_82, xk_83, xk_84, xk_85, xk_86, xk_87, xk_88, xk_89, xk_90, xk_91, xk_92, xk_93, xk_94, xk_95, xk_96, xk_97, xk_98, xm_0_0 hx, xm_0_10 hx, xm_0_11 hx, xm_0_12 hx, xm_0_13 hx, xm_0_14 hx, xm_0_15 hx, xm_0_2 hx, xm_0_9 hx, xm_40_0 hx, xm_40_1 hx, xm_41_0 hx, xm_44_0 hx, xm_44_1 hx, xm_73_4 hx, xm_73_5 hx, xm_73_6 hx, xm_77_1 hx, xm_77_2 hx, xm_77_3 hx, xm_77_4 hx, xm_77_5 hx, xm_77_6 hx, xm_77_7 hx, xm_77_8 hx, xm_77_9 hx, xm_87_2 hx, xm_87_3 hx, xm_87_4 hx, xm_87_5 hx, xm_87_6 hx, xm_87_7 hx, xm_87_8 hx, ite_self, Bool.false_eq_true, eq_self, isk_t, i20_t, w20_t, l23_t, b21_t, b22_t, w_t, bif_t, bif_f, bif_d, if_pos, if_neg, if_true, if_false, not_true_eq_false, not_false_eq_true, Option.bind_some, Option.toList_some, Option.toList_none, List.cons_append, List.nil_append, Int.toNat_natCast, Int.reduceToNat, up_eq, up_p, up_k, sN,  hy, m2, m3, hbk, f5 ]
end XTN
