/-! NOTES: the things that they speak of; whether a town is so on a day -/
/-- the things of the notes that stand -/
def tkn (L : Nat → Bool) (th : Nat → Int) : Nat → Nat
  | 0 => 0
  | k + 1 => if L k = true then tkn L th k ||| 2 ^ (th k).toNat else tkn L th k
theorem tkn_lt {L : Nat → Bool} {th : Nat → Int} (h : ∀ j, L j = true → 0 ≤ th j ∧ th j < 6) : ∀ n, tkn L th n < 64
  | 0 => by show 0 < 64; omega
  | n + 1 => by
    show (if L n = true then tkn L th n ||| 2 ^ (th n).toNat else tkn L th n) < 64
    split
    · next g => exact or1_lt (n := 6) (tkn_lt h n) (h n g).1 (h n g).2
    · exact tkn_lt h n
theorem tkn_mem {L : Nat → Bool} {th : Nat → Int} (h : ∀ j, L j = true → 0 ≤ th j ∧ th j < 6) : ∀ (n j : Nat), j < n → L j = true → (tkn L th n).testBit (th j).toNat = true
  | 0, j, hj, _ => by omega
  | n + 1, j, hj, hL => by
    show (if L n = true then tkn L th n ||| 2 ^ (th n).toNat else tkn L th n).testBit (th j).toNat = true
    by_cases e : j = n
    · subst e
      rw [if_pos hL, or1_bit (h _ hL).1]
      simp
    · have i := tkn_mem h n j (by omega) hL
      split
      · next g => rw [or1_bit (h _ g).1, i]; rfl
      · exact i
/-- what the note j asks on a day -/
def soP (L : Nat → Bool) (dy mn th ht is : Nat → Int) (day : Int) (V : MW) (j : Nat) : Bool := decide (L j = true → dy j = day → (V 5 (mn j) (th j) = ht j ↔ is j = 1))
def soF (P : Nat → Bool) : Nat → Nat → Bool
  | 0, _ => true
  | n + 1, k => P k && soF P n (k + 1)
theorem soF_e {P : Nat → Bool} {N : Nat} (h : ∀ j, N ≤ j → P j = true) (e : Nat) : ∀ (n k : Nat), k + n = N → soF P (n + e) k = soF P n k
  | 0, k, hk => by
    have : ∀ e k, N ≤ k → soF P e k = true := by
      intro e
      induction e with
      | zero => intro k _; rfl
      | succ e ih => intro k hk; show (P k && soF P e (k + 1)) = true; rw [h k hk, ih (k + 1) (by omega)]; rfl
    rw [Nat.zero_add]
    exact this e k (by omega)
  | n + 1, k, hk => by
    rw [show n + 1 + e = (n + e) + 1 by omega]
    show (P k && soF P (n + e) (k + 1)) = (P k && soF P n (k + 1))
    rw [soF_e h e n (k + 1) (by omega)]
theorem soF_x {P Q : Nat → Bool} {N : Nat} (h : ∀ j, j < N → P j = Q j) : ∀ (n k : Nat), k + n = N → soF P n k = soF Q n k
  | 0, _, _ => rfl
  | n + 1, k, hk => by
    show (P k && soF P n (k + 1)) = (Q k && soF Q n (k + 1))
    rw [h k (by omega), soF_x h n (k + 1) (by omega)]
section SO
variable {ρ : Nat → Nat → Nat} {μ : Nat → Nat → Int} {cs : Nat × Nat × Nat} {d w : Nat} {N : Nat} {dy mn th ht is o : Nat → Int} {L : Nat → Bool} {V : MW}
/-- what the class keeps of the notes that stand -/
def XN (μ : Nat → Nat → Int) (a : Nat) (L : Nat → Bool) (dy mn th ht is : Nat → Int) : Prop := μ 87 0 = (a : Int) ∧ a ≤ 24 ∧ (∀ j, j < 24 → μ 94 j = if L j = true then 1 else 0) ∧ (∀ j, j < 24 → L j = true → (μ 88 j = dy j ∧ μ 89 j = mn j ∧ μ 90 j = th j ∧ μ 91 j = ht j ∧ μ 92 j = is j) ∧ (1 ≤ dy j ∧ dy j ≤ 60) ∧ (0 ≤ mn j ∧ mn j < 7) ∧ (0 ≤ th j ∧ th j < 6) ∧ (0 ≤ ht j ∧ ht j ≤ 99) ∧ (is j = 0 ∨ is j = 1))
theorem xn_fr {μ μ' : Nat → Nat → Int} {a : Nat} (h : XN μ a L dy mn th ht is) (hf : ∀ q k, 87 ≤ q → q ≤ 94 → μ' q k = μ q k) : XN μ' a L dy mn th ht is := by
  obtain ⟨h1, h2, h3, h4⟩ := h
  refine ⟨by rw [hf _ _ (by omega) (by omega)]; exact h1, h2, fun j hj => by rw [hf _ _ (by omega) (by omega)]; exact h3 j hj, fun j hj hL => ?_⟩
  rw [hf 88 _ (by omega) (by omega), hf 89 _ (by omega) (by omega), hf 90 _ (by omega) (by omega), hf 91 _ (by omega) (by omega), hf 92 _ (by omega) (by omega)]
  exact h4 j hj hL
theorem X_tk (hx : XM ρ) {a : Nat} (h : XN μ a L dy mn th ht is) (hL : ∀ j, L j = true → 0 ≤ th j ∧ th j < 6) : ∀ (n k : Nat), k + n = a → am_E d 54 4 [some (.inr (.inr 87)), some (.inl ((tkn L th k : Nat) : Int)), some (.inl (k : Int))] [] (SH, ρ, μ, cs) = some (some (.inl ((tkn L th a : Nat) : Int)), (SH, ρ, μ, cs)) := by
  obtain ⟨h0, ha, h9, h4⟩ := h
  intro n
  induction n with
  | zero =>
    intro k hk
    have hk' : k = a := by omega
    subst hk'
    rw [e54_4]; simp (disch := omega) only [xk_0, xk_1, xk_40, xk_41, xk_42, xk_43, xk_44, xk_45, xk_46, xk_47, xk_48, xk_49, xk_50, xk_51, xk_52, xk_53, xk_54, xk_55, xk_56, xk_57, xk_58, xk_59, xk_60, xk_61, xk_62, xk_63, xk_64, xk_65, xk_66, xk_67, xk_68, xk_69, xk_70, xk_71, xk_72, xk_73, xk_74, xk_75, xk_76, xk_77, xk_78, xk_79, xk_80, xk_81, xk_82, xk_83, xk_84, xk_85, xk_86, xk_87, xk_88, xk_89, xk_90, xk_91, xk_92, xk_93, xk_94, xk_95, xk_96, xk_97, xk_98, xm_0_0 hx, xm_0_10 hx, xm_0_11 hx, xm_0_12 hx, xm_0_13 hx, xm_0_14 hx, xm_0_15 hx, xm_0_2 hx, xm_0_9 hx, xm_40_0 hx, xm_40_1 hx, xm_41_0 hx, xm_44_0 hx, xm_44_1 hx, xm_73_4 hx, xm_73_5 hx, xm_73_6 hx, xm_77_1 hx, xm_77_2 hx, xm_77_3 hx, xm_77_4 hx, xm_77_5 hx, xm_77_6 hx, xm_77_7 hx, xm_77_8 hx, xm_77_9 hx, xm_87_2 hx, xm_87_3 hx, xm_87_4 hx, xm_87_5 hx, xm_87_6 hx, xm_87_7 hx, xm_87_8 hx, ite_self, Bool.false_eq_true, eq_self, isk_t, i20_t, w20_t, l23_t, b21_t, b22_t, w_t, bif_t, bif_f, bif_d, if_pos, if_neg, if_true, if_false, not_true_eq_false, not_false_eq_true, Option.bind_some, Option.toList_some, Option.toList_none, List.cons_append, List.nil_append, Int.toNat_natCast, Int.reduceToNat, up_eq, up_p, up_k, sN,  h0 ]
  | succ n ih =>
    intro k hk
    have g9 := h9 k (by omega)
    have g4 := h4 k (by omega)
    have e := ih (k + 1) (by omega)
    have e1 : ((k + 1 : Nat) : Int) = (k : Int) + 1 := by omega
    have e2 : tkn L th (k + 1) = if L k = true then tkn L th k ||| 2 ^ (th k).toNat else tkn L th k := rfl
    have e3 := tkn_lt hL k
    rw [e1, e2] at e
    rw [← e]
    clear e e2
    generalize tkn L th k = z at e3 ⊢
    by_cases c1 : L k = true
    · rw [if_pos c1] at g9
      have g5 := (g4 c1).1.2.2.1
      have g6 := hL k c1
      have e4 : am_or (z : Int) (am_shl 1 (th k)) = ((z ||| 2 ^ (th k).toNat : Nat) : Int) := ib_or1 (by omega) g6.1 (by omega)
      rw [if_pos c1]
      rw [e54_4]; simp (disch := omega) only [xk_0, xk_1, xk_40, xk_41, xk_42, xk_43, xk_44, xk_45, xk_46, xk_47, xk_48, xk_49, xk_50, xk_51, xk_52, xk_53, xk_54, xk_55, xk_56, xk_57, xk_58, xk_59, xk_60, xk_61, xk_62, xk_63, xk_64, xk_65, xk_66, xk_67, xk_68, xk_69, xk_70, xk_71, xk_72, xk_73, xk_74, xk_75, xk_76, xk_77, xk_78, xk_79, xk_80, xk_81, xk_82, xk_83, xk_84, xk_85, xk_86, xk_87, xk_88, xk_89, xk_90, xk_91, xk_92, xk_93, xk_94, xk_95, xk_96, xk_97, xk_98, xm_0_0 hx, xm_0_10 hx, xm_0_11 hx, xm_0_12 hx, xm_0_13 hx, xm_0_14 hx, xm_0_15 hx, xm_0_2 hx, xm_0_9 hx, xm_40_0 hx, xm_40_1 hx, xm_41_0 hx, xm_44_0 hx, xm_44_1 hx, xm_73_4 hx, xm_73_5 hx, xm_73_6 hx, xm_77_1 hx, xm_77_2 hx, xm_77_3 hx, xm_77_4 hx, xm_77_5 hx, xm_77_6 hx, xm_77_7 hx, xm_77_8 hx, xm_77_9 hx, xm_87_2 hx, xm_87_3 hx, xm_87_4 hx, xm_87_5 hx, xm_87_6 hx, xm_87_7 hx, xm_87_8 hx, ite_self, Bool.false_eq_true, eq_self, isk_t, i20_t, w20_t, l23_t, b21_t, b22_t, w_t, bif_t, bif_f, bif_d, if_pos, if_neg, if_true, if_false, not_true_eq_false, not_false_eq_true, Option.bind_some, Option.toList_some, Option.toList_none, List.cons_append, List.nil_append, Int.toNat_natCast, Int.reduceToNat, up_eq, up_p, up_k, sN,  h0, g9, g5, e4 ]
    · rw [if_neg c1] at g9
      rw [if_neg c1]
      rw [e54_4]; simp (disch := omega) only [xk_0, xk_1, xk_40, xk_41, xk_42, xk_43, xk_44, xk_45, xk_46, xk_47, xk_48, xk_49, xk_50, xk_51, xk_52, xk_53, xk_54, xk_55, xk_56, xk_57, xk_58, xk_59, xk_60, xk_61, xk_62, xk_63, xk_64, xk_65, xk_66, xk_67, xk_68, xk_69, xk_70, xk_71, xk_72, xk_73, xk_74, xk_75, xk_76, xk_77, xk_78, xk_79, xk_80, xk_81, xk_82, xk_83, xk_84, xk_85, xk_86, xk_87, xk_88, xk_89, xk_90, xk_91, xk_92, xk_93, xk_94, xk_95, xk_96, xk_97, xk_98, xm_0_0 hx, xm_0_10 hx, xm_0_11 hx, xm_0_12 hx, xm_0_13 hx, xm_0_14 hx, xm_0_15 hx, xm_0_2 hx, xm_0_9 hx, xm_40_0 hx, xm_40_1 hx, xm_41_0 hx, xm_44_0 hx, xm_44_1 hx, xm_73_4 hx, xm_73_5 hx, xm_73_6 hx, xm_77_1 hx, xm_77_2 hx, xm_77_3 hx, xm_77_4 hx, xm_77_5 hx, xm_77_6 hx, xm_77_7 hx, xm_77_8 hx, xm_77_9 hx, xm_87_2 hx, xm_87_3 hx, xm_87_4 hx, xm_87_5 hx, xm_87_6 hx, xm_87_7 hx, xm_87_8 hx, ite_self, Bool.false_eq_true, eq_self, isk_t, i20_t, w20_t, l23_t, b21_t, b22_t, w_t, bif_t, bif_f, bif_d, if_pos, if_neg, if_true, if_false, not_true_eq_false, not_false_eq_true, Option.bind_some, Option.toList_some, Option.toList_none, List.cons_append, List.nil_append, Int.toNat_natCast, Int.reduceToNat, up_eq, up_p, up_k, sN,  h0, g9 ]
theorem X_so (hx : XM ρ) (hw : w = 46 ∨ w = 55 ∨ w = 64) (hV : XW μ w V) {a : Nat} (h : XN μ a L dy mn th ht is) {day : Int} : ∀ (n k : Nat), k + n = a → am_E (d + 1) 55 2 [some (.inr (.inr 87)), some (.inl day), some (.inr (.inr w)), some (.inl (k : Int)), none] [] (SH, ρ, μ, cs) = some (some (.inl (if soF (soP L dy mn th ht is day V) n k = true then 1 else 0)), (SH, ρ, μ, cs)) := by
  obtain ⟨h0, ha, h9, h4⟩ := h
  intro n
  induction n with
  | zero =>
    intro k hk
    have hk' : k = a := by omega
    subst hk'
    rw [e55_2]; simp (disch := omega) only [xk_0, xk_1, xk_40, xk_41, xk_42, xk_43, xk_44, xk_45, xk_46, xk_47, xk_48, xk_49, xk_50, xk_51, xk_52, xk_53, xk_54, xk_55, xk_56, xk_57, xk_58, xk_59, xk_60, xk_61, xk_62, xk_63, xk_64, xk_65, xk_66, xk_67, xk_68, xk_69, xk_70, xk_71, xk_72, xk_73, xk_74, xk_75, xk_76, xk_77, xk_78, xk_79, xk_80, xk_81, xk_82, xk_83, xk_84, xk_85, xk_86, xk_87, xk_88, xk_89, xk_90, xk_91, xk_92, xk_93, xk_94, xk_95, xk_96, xk_97, xk_98, xk_wd0 hw, xk_wd1 hw, xk_wd2 hw, xk_wd3 hw, xk_wd4 hw, xk_wd5 hw, xk_wd6 hw, xk_wd7 hw, xk_wd8 hw, xm_0_0 hx, xm_0_10 hx, xm_0_11 hx, xm_0_12 hx, xm_0_13 hx, xm_0_14 hx, xm_0_15 hx, xm_0_2 hx, xm_0_9 hx, xm_40_0 hx, xm_40_1 hx, xm_41_0 hx, xm_44_0 hx, xm_44_1 hx, xm_73_4 hx, xm_73_5 hx, xm_73_6 hx, xm_77_1 hx, xm_77_2 hx, xm_77_3 hx, xm_77_4 hx, xm_77_5 hx, xm_77_6 hx, xm_77_7 hx, xm_77_8 hx, xm_77_9 hx, xm_87_2 hx, xm_87_3 hx, xm_87_4 hx, xm_87_5 hx, xm_87_6 hx, xm_87_7 hx, xm_87_8 hx, xm_wd10 hx hw, xm_wd11 hx hw, xm_wd4 hx hw, xm_wd5 hx hw, xm_wd6 hx hw, xm_wd7 hx hw, xm_wd8 hx hw, xm_wd9 hx hw, ite_self, Bool.false_eq_true, eq_self, isk_t, i20_t, w20_t, l23_t, b21_t, b22_t, w_t, bif_t, bif_f, bif_d, if_pos, if_neg, if_true, if_false, not_true_eq_false, not_false_eq_true, Option.bind_some, Option.toList_some, Option.toList_none, List.cons_append, List.nil_append, Int.toNat_natCast, Int.reduceToNat, up_eq, up_p, up_k, sN,  h0 ]
    all_goals rfl
  | succ n ih =>
    intro k hk
    have g9 := h9 k (by omega)
    have g4 := h4 k (by omega)
    have e := ih (k + 1) (by omega)
    have e1 : ((k + 1 : Nat) : Int) = (k : Int) + 1 := by omega
    rw [e1] at e
    have e2 : soF (soP L dy mn th ht is day V) (n + 1) k = (soP L dy mn th ht is day V k && soF (soP L dy mn th ht is day V) n (k + 1)) := rfl
    rw [e2]
    by_cases c1 : L k = true
    · rw [if_pos c1] at g9
      obtain ⟨⟨i1, i2, i3, i4, i5⟩, j1, j2, j3, j4, j5⟩ := g4 c1
      by_cases c2 : dy k = day
      · have hv := hV.2.2.2 (mn k) (th k) j2.1 j2.2 j3.1 j3.2
        by_cases c3 : V 5 (mn k) (th k) = ht k ↔ is k = 1
        · have e3 : soP L dy mn th ht is day V k = true := decide_eq_true (fun _ _ => c3)
          rw [e3, Bool.true_and]
          clear e3 e2
          by_cases c4 : V 5 (mn k) (th k) = -1
          · have c5 : is k = 0 := by
              rcases j5 with g | g
              · exact g
              · have := c3.mpr g; omega
            rw [c5] at i5
            rw [e55_2]; simp (disch := omega) only [e55_45, xk_0, xk_1, xk_40, xk_41, xk_42, xk_43, xk_44, xk_45, xk_46, xk_47, xk_48, xk_49, xk_50, xk_51, xk_52, xk_53, xk_54, xk_55, xk_56, xk_57, xk_58, xk_59, xk_60, xk_61, xk_62, xk_63, xk_64, xk_65, xk_66, xk_67, xk_68, xk_69, xk_70, xk_71, xk_72, xk_73, xk_74, xk_75, xk_76, xk_77, xk_78, xk_79, xk_80, xk_81, xk_82, xk_83, xk_84, xk_85, xk_86, xk_87, xk_88, xk_89, xk_90, xk_91, xk_92, xk_93, xk_94, xk_95, xk_96, xk_97, xk_98, xk_wd0 hw, xk_wd1 hw, xk_wd2 hw, xk_wd3 hw, xk_wd4 hw, xk_wd5 hw, xk_wd6 hw, xk_wd7 hw, xk_wd8 hw, xm_0_0 hx, xm_0_10 hx, xm_0_11 hx, xm_0_12 hx, xm_0_13 hx, xm_0_14 hx, xm_0_15 hx, xm_0_2 hx, xm_0_9 hx, xm_40_0 hx, xm_40_1 hx, xm_41_0 hx, xm_44_0 hx, xm_44_1 hx, xm_73_4 hx, xm_73_5 hx, xm_73_6 hx, xm_77_1 hx, xm_77_2 hx, xm_77_3 hx, xm_77_4 hx, xm_77_5 hx, xm_77_6 hx, xm_77_7 hx, xm_77_8 hx, xm_77_9 hx, xm_87_2 hx, xm_87_3 hx, xm_87_4 hx, xm_87_5 hx, xm_87_6 hx, xm_87_7 hx, xm_87_8 hx, xm_wd10 hx hw, xm_wd11 hx hw, xm_wd4 hx hw, xm_wd5 hx hw, xm_wd6 hx hw, xm_wd7 hx hw, xm_wd8 hx hw, xm_wd9 hx hw, ite_self, Bool.false_eq_true, eq_self, isk_t, i20_t, w20_t, l23_t, b21_t, b22_t, w_t, bif_t, bif_f, bif_d, if_pos, if_neg, if_true, if_false, not_true_eq_false, not_false_eq_true, Option.bind_some, Option.toList_some, Option.toList_none, List.cons_append, List.nil_append, Int.toNat_natCast, Int.reduceToNat, up_eq, up_p, up_k, sN,  h0, g9, i1, i2, i3, i5, c2, X_holds hx hw hV, c4 ]
            exact am_E_le (am_lq_of _ _ (by simp [am_leb])) e
          · have i6 := (hv.2.2.1 c4).1
            have i7 : cI (mn k) (th k) < 42 := by unfold cI; omega
            by_cases c5 : V 5 (mn k) (th k) = ht k
            · have c6 := c3.mp c5
              rw [c6] at i5
              rw [e55_2]; simp (disch := omega) only [e55_45, e55_67, xk_0, xk_1, xk_40, xk_41, xk_42, xk_43, xk_44, xk_45, xk_46, xk_47, xk_48, xk_49, xk_50, xk_51, xk_52, xk_53, xk_54, xk_55, xk_56, xk_57, xk_58, xk_59, xk_60, xk_61, xk_62, xk_63, xk_64, xk_65, xk_66, xk_67, xk_68, xk_69, xk_70, xk_71, xk_72, xk_73, xk_74, xk_75, xk_76, xk_77, xk_78, xk_79, xk_80, xk_81, xk_82, xk_83, xk_84, xk_85, xk_86, xk_87, xk_88, xk_89, xk_90, xk_91, xk_92, xk_93, xk_94, xk_95, xk_96, xk_97, xk_98, xk_wd0 hw, xk_wd1 hw, xk_wd2 hw, xk_wd3 hw, xk_wd4 hw, xk_wd5 hw, xk_wd6 hw, xk_wd7 hw, xk_wd8 hw, xm_0_0 hx, xm_0_10 hx, xm_0_11 hx, xm_0_12 hx, xm_0_13 hx, xm_0_14 hx, xm_0_15 hx, xm_0_2 hx, xm_0_9 hx, xm_40_0 hx, xm_40_1 hx, xm_41_0 hx, xm_44_0 hx, xm_44_1 hx, xm_73_4 hx, xm_73_5 hx, xm_73_6 hx, xm_77_1 hx, xm_77_2 hx, xm_77_3 hx, xm_77_4 hx, xm_77_5 hx, xm_77_6 hx, xm_77_7 hx, xm_77_8 hx, xm_77_9 hx, xm_87_2 hx, xm_87_3 hx, xm_87_4 hx, xm_87_5 hx, xm_87_6 hx, xm_87_7 hx, xm_87_8 hx, xm_wd10 hx hw, xm_wd11 hx hw, xm_wd4 hx hw, xm_wd5 hx hw, xm_wd6 hx hw, xm_wd7 hx hw, xm_wd8 hx hw, xm_wd9 hx hw, ite_self, Bool.false_eq_true, eq_self, isk_t, i20_t, w20_t, l23_t, b21_t, b22_t, w_t, bif_t, bif_f, bif_d, if_pos, if_neg, if_true, if_false, not_true_eq_false, not_false_eq_true, Option.bind_some, Option.toList_some, Option.toList_none, List.cons_append, List.nil_append, Int.toNat_natCast, Int.reduceToNat, up_eq, up_p, up_k, sN,  h0, g9, i1, i2, i3, i4, i5, c2, X_holds hx hw hV, c4, X_cell, i6, c5 ]
              exact am_E_le (am_lq_of _ _ (by simp [am_leb])) e
            · have c6 : is k = 0 := by
                rcases j5 with g | g
                · exact g
                · exact absurd (c3.mpr g) c5
              rw [c6] at i5
              rw [e55_2]; simp (disch := omega) only [e55_45, e55_67, xk_0, xk_1, xk_40, xk_41, xk_42, xk_43, xk_44, xk_45, xk_46, xk_47, xk_48, xk_49, xk_50, xk_51, xk_52, xk_53, xk_54, xk_55, xk_56, xk_57, xk_58, xk_59, xk_60, xk_61, xk_62, xk_63, xk_64, xk_65, xk_66, xk_67, xk_68, xk_69, xk_70, xk_71, xk_72, xk_73, xk_74, xk_75, xk_76, xk_77, xk_78, xk_79, xk_80, xk_81, xk_82, xk_83, xk_84, xk_85, xk_86, xk_87, xk_88, xk_89, xk_90, xk_91, xk_92, xk_93, xk_94, xk_95, xk_96, xk_97, xk_98, xk_wd0 hw, xk_wd1 hw, xk_wd2 hw, xk_wd3 hw, xk_wd4 hw, xk_wd5 hw, xk_wd6 hw, xk_wd7 hw, xk_wd8 hw, xm_0_0 hx, xm_0_10 hx, xm_0_11 hx, xm_0_12 hx, xm_0_13 hx, xm_0_14 hx, xm_0_15 hx, xm_0_2 hx, xm_0_9 hx, xm_40_0 hx, xm_40_1 hx, xm_41_0 hx, xm_44_0 hx, xm_44_1 hx, xm_73_4 hx, xm_73_5 hx, xm_73_6 hx, xm_77_1 hx, xm_77_2 hx, xm_77_3 hx, xm_77_4 hx, xm_77_5 hx, xm_77_6 hx, xm_77_7 hx, xm_77_8 hx, xm_77_9 hx, xm_87_2 hx, xm_87_3 hx, xm_87_4 hx, xm_87_5 hx, xm_87_6 hx, xm_87_7 hx, xm_87_8 hx, xm_wd10 hx hw, xm_wd11 hx hw, xm_wd4 hx hw, xm_wd5 hx hw, xm_wd6 hx hw, xm_wd7 hx hw, xm_wd8 hx hw, xm_wd9 hx hw, ite_self, Bool.false_eq_true, eq_self, isk_t, i20_t, w20_t, l23_t, b21_t, b22_t, w_t, bif_t, bif_f, bif_d, if_pos, if_neg, if_true, if_false, not_true_eq_false, not_false_eq_true, Option.bind_some, Option.toList_some, Option.toList_none, List.cons_append, List.nil_append, Int.toNat_natCast, Int.reduceToNat, up_eq, up_p, up_k, sN,  h0, g9, i1, i2, i3, i4, i5, c2, X_holds hx hw hV, c4, X_cell, i6, c5 ]
              exact am_E_le (am_lq_of _ _ (by simp [am_leb])) e
        · have e3 : soP L dy mn th ht is day V k = false := decide_eq_false (fun g => c3 (g c1 c2))
          rw [e3, Bool.false_and, if_neg (by simp)]
          clear e3 e2
          by_cases c4 : V 5 (mn k) (th k) = -1
          · have c5 : is k = 1 := by
              rcases j5 with g | g
              · exact absurd ⟨fun g2 => by omega, fun g2 => by omega⟩ c3
              · exact g
            rw [c5] at i5
            rw [e55_2]; simp (disch := omega) only [e55_45, xk_0, xk_1, xk_40, xk_41, xk_42, xk_43, xk_44, xk_45, xk_46, xk_47, xk_48, xk_49, xk_50, xk_51, xk_52, xk_53, xk_54, xk_55, xk_56, xk_57, xk_58, xk_59, xk_60, xk_61, xk_62, xk_63, xk_64, xk_65, xk_66, xk_67, xk_68, xk_69, xk_70, xk_71, xk_72, xk_73, xk_74, xk_75, xk_76, xk_77, xk_78, xk_79, xk_80, xk_81, xk_82, xk_83, xk_84, xk_85, xk_86, xk_87, xk_88, xk_89, xk_90, xk_91, xk_92, xk_93, xk_94, xk_95, xk_96, xk_97, xk_98, xk_wd0 hw, xk_wd1 hw, xk_wd2 hw, xk_wd3 hw, xk_wd4 hw, xk_wd5 hw, xk_wd6 hw, xk_wd7 hw, xk_wd8 hw, xm_0_0 hx, xm_0_10 hx, xm_0_11 hx, xm_0_12 hx, xm_0_13 hx, xm_0_14 hx, xm_0_15 hx, xm_0_2 hx, xm_0_9 hx, xm_40_0 hx, xm_40_1 hx, xm_41_0 hx, xm_44_0 hx, xm_44_1 hx, xm_73_4 hx, xm_73_5 hx, xm_73_6 hx, xm_77_1 hx, xm_77_2 hx, xm_77_3 hx, xm_77_4 hx, xm_77_5 hx, xm_77_6 hx, xm_77_7 hx, xm_77_8 hx, xm_77_9 hx, xm_87_2 hx, xm_87_3 hx, xm_87_4 hx, xm_87_5 hx, xm_87_6 hx, xm_87_7 hx, xm_87_8 hx, xm_wd10 hx hw, xm_wd11 hx hw, xm_wd4 hx hw, xm_wd5 hx hw, xm_wd6 hx hw, xm_wd7 hx hw, xm_wd8 hx hw, xm_wd9 hx hw, ite_self, Bool.false_eq_true, eq_self, isk_t, i20_t, w20_t, l23_t, b21_t, b22_t, w_t, bif_t, bif_f, bif_d, if_pos, if_neg, if_true, if_false, not_true_eq_false, not_false_eq_true, Option.bind_some, Option.toList_some, Option.toList_none, List.cons_append, List.nil_append, Int.toNat_natCast, Int.reduceToNat, up_eq, up_p, up_k, sN,  h0, g9, i1, i2, i3, i5, c2, X_holds hx hw hV, c4 ]
            all_goals rfl
          · have i6 := (hv.2.2.1 c4).1
            have i7 : cI (mn k) (th k) < 42 := by unfold cI; omega
            by_cases c5 : V 5 (mn k) (th k) = ht k
            · have c6 : is k = 0 := by
                rcases j5 with g | g
                · exact g
                · exact absurd ⟨fun _ => g, fun _ => c5⟩ c3
              rw [c6] at i5
              rw [e55_2]; simp (disch := omega) only [e55_45, e55_67, xk_0, xk_1, xk_40, xk_41, xk_42, xk_43, xk_44, xk_45, xk_46, xk_47, xk_48, xk_49, xk_50, xk_51, xk_52, xk_53, xk_54, xk_55, xk_56, xk_57, xk_58, xk_59, xk_60, xk_61, xk_62, xk_63, xk_64, xk_65, xk_66, xk_67, xk_68, xk_69, xk_70, xk_71, xk_72, xk_73, xk_74, xk_75, xk_76, xk_77, xk_78, xk_79, xk_80, xk_81, xk_82, xk_83, xk_84, xk_85, xk_86, xk_87, xk_88, xk_89, xk_90, xk_91, xk_92, xk_93, xk_94, xk_95, xk_96, xk_97, xk_98, xk_wd0 hw, xk_wd1 hw, xk_wd2 hw, xk_wd3 hw, xk_wd4 hw, xk_wd5 hw, xk_wd6 hw, xk_wd7 hw, xk_wd8 hw, xm_0_0 hx, xm_0_10 hx, xm_0_11 hx, xm_0_12 hx, xm_0_13 hx, xm_0_14 hx, xm_0_15 hx, xm_0_2 hx, xm_0_9 hx, xm_40_0 hx, xm_40_1 hx, xm_41_0 hx, xm_44_0 hx, xm_44_1 hx, xm_73_4 hx, xm_73_5 hx, xm_73_6 hx, xm_77_1 hx, xm_77_2 hx, xm_77_3 hx, xm_77_4 hx, xm_77_5 hx, xm_77_6 hx, xm_77_7 hx, xm_77_8 hx, xm_77_9 hx, xm_87_2 hx, xm_87_3 hx, xm_87_4 hx, xm_87_5 hx, xm_87_6 hx, xm_87_7 hx, xm_87_8 hx, xm_wd10 hx hw, xm_wd11 hx hw, xm_wd4 hx hw, xm_wd5 hx hw, xm_wd6 hx hw, xm_wd7 hx hw, xm_wd8 hx hw, xm_wd9 hx hw, ite_self, Bool.false_eq_true, eq_self, isk_t, i20_t, w20_t, l23_t, b21_t, b22_t, w_t, bif_t, bif_f, bif_d, if_pos, if_neg, if_true, if_false, not_true_eq_false, not_false_eq_true, Option.bind_some, Option.toList_some, Option.toList_none, List.cons_append, List.nil_append, Int.toNat_natCast, Int.reduceToNat, up_eq, up_p, up_k, sN,  h0, g9, i1, i2, i3, i4, i5, c2, X_holds hx hw hV, c4, X_cell, i6, c5 ]
              all_goals rfl
            · have c6 : is k = 1 := by
                rcases j5 with g | g
                · exact absurd ⟨fun g2 => absurd g2 c5, fun g2 => by omega⟩ c3
                · exact g
              rw [c6] at i5
              rw [e55_2]; simp (disch := omega) only [e55_45, e55_67, xk_0, xk_1, xk_40, xk_41, xk_42, xk_43, xk_44, xk_45, xk_46, xk_47, xk_48, xk_49, xk_50, xk_51, xk_52, xk_53, xk_54, xk_55, xk_56, xk_57, xk_58, xk_59, xk_60, xk_61, xk_62, xk_63, xk_64, xk_65, xk_66, xk_67, xk_68, xk_69, xk_70, xk_71, xk_72, xk_73, xk_74, xk_75, xk_76, xk_77, xk_78, xk_79, xk_80, xk_81, xk_82, xk_83, xk_84, xk_85, xk_86, xk_87, xk_88, xk_89, xk_90, xk_91, xk_92, xk_93, xk_94, xk_95, xk_96, xk_97, xk_98, xk_wd0 hw, xk_wd1 hw, xk_wd2 hw, xk_wd3 hw, xk_wd4 hw, xk_wd5 hw, xk_wd6 hw, xk_wd7 hw, xk_wd8 hw, xm_0_0 hx, xm_0_10 hx, xm_0_11 hx, xm_0_12 hx, xm_0_13 hx, xm_0_14 hx, xm_0_15 hx, xm_0_2 hx, xm_0_9 hx, xm_40_0 hx, xm_40_1 hx, xm_41_0 hx, xm_44_0 hx, xm_44_1 hx, xm_73_4 hx, xm_73_5 hx, xm_73_6 hx, xm_77_1 hx, xm_77_2 hx, xm_77_3 hx, xm_77_4 hx, xm_77_5 hx, xm_77_6 hx, xm_77_7 hx, xm_77_8 hx, xm_77_9 hx, xm_87_2 hx, xm_87_3 hx, xm_87_4 hx, xm_87_5 hx, xm_87_6 hx, xm_87_7 hx, xm_87_8 hx, xm_wd10 hx hw, xm_wd11 hx hw, xm_wd4 hx hw, xm_wd5 hx hw, xm_wd6 hx hw, xm_wd7 hx hw, xm_wd8 hx hw, xm_wd9 hx hw, ite_self, Bool.false_eq_true, eq_self, isk_t, i20_t, w20_t, l23_t, b21_t, b22_t, w_t, bif_t, bif_f, bif_d, if_pos, if_neg, if_true, if_false, not_true_eq_false, not_false_eq_true, Option.bind_some, Option.toList_some, Option.toList_none, List.cons_append, List.nil_append, Int.toNat_natCast, Int.reduceToNat, up_eq, up_p, up_k, sN,  h0, g9, i1, i2, i3, i4, i5, c2, X_holds hx hw hV, c4, X_cell, i6, c5 ]
              all_goals rfl
      · have e3 : soP L dy mn th ht is day V k = true := decide_eq_true (fun _ g => absurd g c2)
        rw [e3, Bool.true_and, ← e]
        clear e e3 e2
        rw [e55_2]; simp (disch := omega) only [xk_0, xk_1, xk_40, xk_41, xk_42, xk_43, xk_44, xk_45, xk_46, xk_47, xk_48, xk_49, xk_50, xk_51, xk_52, xk_53, xk_54, xk_55, xk_56, xk_57, xk_58, xk_59, xk_60, xk_61, xk_62, xk_63, xk_64, xk_65, xk_66, xk_67, xk_68, xk_69, xk_70, xk_71, xk_72, xk_73, xk_74, xk_75, xk_76, xk_77, xk_78, xk_79, xk_80, xk_81, xk_82, xk_83, xk_84, xk_85, xk_86, xk_87, xk_88, xk_89, xk_90, xk_91, xk_92, xk_93, xk_94, xk_95, xk_96, xk_97, xk_98, xk_wd0 hw, xk_wd1 hw, xk_wd2 hw, xk_wd3 hw, xk_wd4 hw, xk_wd5 hw, xk_wd6 hw, xk_wd7 hw, xk_wd8 hw, xm_0_0 hx, xm_0_10 hx, xm_0_11 hx, xm_0_12 hx, xm_0_13 hx, xm_0_14 hx, xm_0_15 hx, xm_0_2 hx, xm_0_9 hx, xm_40_0 hx, xm_40_1 hx, xm_41_0 hx, xm_44_0 hx, xm_44_1 hx, xm_73_4 hx, xm_73_5 hx, xm_73_6 hx, xm_77_1 hx, xm_77_2 hx, xm_77_3 hx, xm_77_4 hx, xm_77_5 hx, xm_77_6 hx, xm_77_7 hx, xm_77_8 hx, xm_77_9 hx, xm_87_2 hx, xm_87_3 hx, xm_87_4 hx, xm_87_5 hx, xm_87_6 hx, xm_87_7 hx, xm_87_8 hx, xm_wd10 hx hw, xm_wd11 hx hw, xm_wd4 hx hw, xm_wd5 hx hw, xm_wd6 hx hw, xm_wd7 hx hw, xm_wd8 hx hw, xm_wd9 hx hw, ite_self, Bool.false_eq_true, eq_self, isk_t, i20_t, w20_t, l23_t, b21_t, b22_t, w_t, bif_t, bif_f, bif_d, if_pos, if_neg, if_true, if_false, not_true_eq_false, not_false_eq_true, Option.bind_some, Option.toList_some, Option.toList_none, List.cons_append, List.nil_append, Int.toNat_natCast, Int.reduceToNat, up_eq, up_p, up_k, sN,  h0, g9, i1, c2 ]
    · have e3 : soP L dy mn th ht is day V k = true := decide_eq_true (fun g => absurd g c1)
      rw [if_neg c1] at g9
      rw [e3, Bool.true_and, ← e]
      clear e e3 e2
      rw [e55_2]; simp (disch := omega) only [xk_0, xk_1, xk_40, xk_41, xk_42, xk_43, xk_44, xk_45, xk_46, xk_47, xk_48, xk_49, xk_50, xk_51, xk_52, xk_53, xk_54, xk_55, xk_56, xk_57, xk_58, xk_59, xk_60, xk_61, xk_62, xk_63, xk_64, xk_65, xk_66, xk_67, xk_68, xk_69, xk_70, xk_71, xk_72, xk_73, xk_74, xk_75, xk_76, xk_77, xk_78, xk_79, xk_80, xk_81, xk_82, xk_83, xk_84, xk_85, xk_86, xk_87, xk_88, xk_89, xk_90, xk_91, xk_92, xk_93, xk_94, xk_95, xk_96, xk_97, xk_98, xk_wd0 hw, xk_wd1 hw, xk_wd2 hw, xk_wd3 hw, xk_wd4 hw, xk_wd5 hw, xk_wd6 hw, xk_wd7 hw, xk_wd8 hw, xm_0_0 hx, xm_0_10 hx, xm_0_11 hx, xm_0_12 hx, xm_0_13 hx, xm_0_14 hx, xm_0_15 hx, xm_0_2 hx, xm_0_9 hx, xm_40_0 hx, xm_40_1 hx, xm_41_0 hx, xm_44_0 hx, xm_44_1 hx, xm_73_4 hx, xm_73_5 hx, xm_73_6 hx, xm_77_1 hx, xm_77_2 hx, xm_77_3 hx, xm_77_4 hx, xm_77_5 hx, xm_77_6 hx, xm_77_7 hx, xm_77_8 hx, xm_77_9 hx, xm_87_2 hx, xm_87_3 hx, xm_87_4 hx, xm_87_5 hx, xm_87_6 hx, xm_87_7 hx, xm_87_8 hx, xm_wd10 hx hw, xm_wd11 hx hw, xm_wd4 hx hw, xm_wd5 hx hw, xm_wd6 hx hw, xm_wd7 hx hw, xm_wd8 hx hw, xm_wd9 hx hw, ite_self, Bool.false_eq_true, eq_self, isk_t, i20_t, w20_t, l23_t, b21_t, b22_t, w_t, bif_t, bif_f, bif_d, if_pos, if_neg, if_true, if_false, not_true_eq_false, not_false_eq_true, Option.bind_some, Option.toList_some, Option.toList_none, List.cons_append, List.nil_append, Int.toNat_natCast, Int.reduceToNat, up_eq, up_p, up_k, sN,  h0, g9 ]
/-- what the reference keeps of the notes -/
def RN (μ : Nat → Nat → Int) (N : Nat) (o : Nat → Int) (g : Nat → Bool) (dy mn th ht is : Nat → Int) : Prop := KM μ N ∧ N ≤ 24 ∧ (∀ j, j < N → μ 139 j = if g j = true then 1 else 0) ∧ (∀ j : Nat, j < N → μ 138 j = o j) ∧ (∀ j : Nat, j < N → o j = -1 → (μ 134 j = dy j ∧ μ 135 j = 6 * mn j + th j ∧ μ 136 j = ht j ∧ μ 137 j = is j) ∧ (1 ≤ dy j ∧ dy j ≤ 60) ∧ (0 ≤ mn j ∧ mn j < 7) ∧ (0 ≤ th j ∧ th j < 6) ∧ (0 ≤ ht j ∧ ht j ≤ 99) ∧ (is j = 0 ∨ is j = 1))
theorem rn_fr {μ μ' : Nat → Nat → Int} {g : Nat → Bool} (h : RN μ N o g dy mn th ht is) (hf : ∀ q k, (q = 99 ∧ (k = 58 ∨ k = 59)) ∨ (134 ≤ q ∧ q ≤ 139) → μ' q k = μ q k) : RN μ' N o g dy mn th ht is := by
  obtain ⟨h1, h2, h3, h4, h5⟩ := h
  refine ⟨?_, h2, fun j hj => by rw [hf _ _ (by omega)]; exact h3 j hj, fun j hj => by rw [hf _ _ (by omega)]; exact h4 j hj, fun j hj ho => ?_⟩
  · unfold KM; rw [hf 99 58 (by omega), hf 99 59 (by omega)]; exact h1
  rw [hf 134 _ (by omega), hf 135 _ (by omega), hf 136 _ (by omega), hf 137 _ (by omega)]
  exact h5 j hj ho
theorem R_so (hρ : RM ρ) {g : Nat → Bool} (h : RN μ N o g dy mn th ht is) (hV : WR μ 1 = V) (hL : ∀ j, j < N → L j = decide (g j = false ∧ o j = -1)) {day : Int} : ∀ (n k : Nat), k + n = N → am_E (d + 1) 245 2 [some (.inr (.inr 99)), some (.inl day), some (.inl (k : Int))] [] (SH, ρ, μ, cs) = some (some (.inl (if soF (soP L dy mn th ht is day V) n k = true then 1 else 0)), (SH, ρ, μ, cs)) := by
  obtain ⟨hK, hN, h9, h8, h4⟩ := h
  intro n
  induction n with
  | zero =>
    intro k hk
    have hk' : k = N := by omega
    subst hk'
    rw [e245_2]; simp (disch := (first | omega | (simp (disch := omega) only [sr_up, wr_up_o]; omega))) only [e245_7, ks_125, ks_134, ks_135, ks_136, ks_137, ks_138, ks_139, ks_99, rm_hatsOf hρ, rm_isOut hρ, rm_noteDays hρ, rm_noteHats hρ, rm_noteIs hρ, rm_noteOf hρ, rm_outs hρ, ite_self, Bool.false_eq_true, eq_self, isk_t, i20_t, w20_t, l23_t, b21_t, b22_t, w_t, bif_t, bif_f, bif_d, if_pos, if_neg, if_true, if_false, not_true_eq_false, not_false_eq_true, Option.bind_some, Option.toList_some, Option.toList_none, List.cons_append, List.nil_append, Int.toNat_natCast, Int.reduceToNat, up_eq, up_p, up_k, sN,  R_km hρ hK ]
    all_goals rfl
  | succ n ih =>
    intro k hk
    have g9 := h9 k (by omega)
    have g8 := h8 k (by omega)
    have g4 := h4 k (by omega)
    have gL := hL k (by omega)
    have e := ih (k + 1) (by omega)
    have e1 : ((k + 1 : Nat) : Int) = (k : Int) + 1 := by omega
    rw [e1] at e
    have e2 : soF (soP L dy mn th ht is day V) (n + 1) k = (soP L dy mn th ht is day V k && soF (soP L dy mn th ht is day V) n (k + 1)) := rfl
    rw [e2]
    clear e2
    by_cases c1 : g k = true
    · have c2 : L k = false := by rw [gL, c1]; rfl
      have e3 : soP L dy mn th ht is day V k = true := decide_eq_true (fun g => by rw [c2] at g; cases g)
      rw [if_pos c1] at g9
      rw [e3, Bool.true_and, ← e]
      clear e e3
      rw [e245_2]; simp (disch := (first | omega | (simp (disch := omega) only [sr_up, wr_up_o]; omega))) only [e245_7, ks_125, ks_134, ks_135, ks_136, ks_137, ks_138, ks_139, ks_99, rm_hatsOf hρ, rm_isOut hρ, rm_noteDays hρ, rm_noteHats hρ, rm_noteIs hρ, rm_noteOf hρ, rm_outs hρ, ite_self, Bool.false_eq_true, eq_self, isk_t, i20_t, w20_t, l23_t, b21_t, b22_t, w_t, bif_t, bif_f, bif_d, if_pos, if_neg, if_true, if_false, not_true_eq_false, not_false_eq_true, Option.bind_some, Option.toList_some, Option.toList_none, List.cons_append, List.nil_append, Int.toNat_natCast, Int.reduceToNat, up_eq, up_p, up_k, sN,  R_km hρ hK, g9 ]
    have c1' : g k = false := by simpa using c1
    rw [if_neg c1] at g9
    by_cases c0 : o k = -1
    · have c2 : L k = true := by rw [gL, c1', c0]; rfl
      obtain ⟨⟨i1, i2, i3, i4⟩, j1, j2, j3, j4, j5⟩ := g4 c0
      rw [c0] at g8
      by_cases c3 : dy k = day
      · have i5 : μ 125 (42 + (6 * mn k + th k)).toNat = V 5 (mn k) (th k) := by
          rw [← hV, ← wr_hats μ 1 j3.1 j3.2 j2.1 j2.2]
          unfold sI
          rw [show (42 + (6 * mn k + th k)) = 42 * 1 + 6 * mn k + th k by omega]
        by_cases c4 : V 5 (mn k) (th k) = ht k
        · rcases j5 with c5 | c5
          · have e3 : soP L dy mn th ht is day V k = false := decide_eq_false (fun g => by have := (g c2 c3).mp c4; omega)
            rw [e3, Bool.false_and, if_neg (by simp)]
            rw [c5] at i4
            clear e e3
            rw [e245_2]; simp (disch := (first | omega | (simp (disch := omega) only [sr_up, wr_up_o]; omega))) only [e245_7, ks_125, ks_134, ks_135, ks_136, ks_137, ks_138, ks_139, ks_99, rm_hatsOf hρ, rm_isOut hρ, rm_noteDays hρ, rm_noteHats hρ, rm_noteIs hρ, rm_noteOf hρ, rm_outs hρ, ite_self, Bool.false_eq_true, eq_self, isk_t, i20_t, w20_t, l23_t, b21_t, b22_t, w_t, bif_t, bif_f, bif_d, if_pos, if_neg, if_true, if_false, not_true_eq_false, not_false_eq_true, Option.bind_some, Option.toList_some, Option.toList_none, List.cons_append, List.nil_append, Int.toNat_natCast, Int.reduceToNat, up_eq, up_p, up_k, sN,  R_km hρ hK, g9, g8, i1, i2, i3, i4, c3, i5, c4 ]
            all_goals rfl
          · have e3 : soP L dy mn th ht is day V k = true := decide_eq_true (fun _ _ => ⟨fun _ => c5, fun _ => c4⟩)
            rw [e3, Bool.true_and, ← e]
            rw [c5] at i4
            clear e e3
            rw [e245_2]; simp (disch := (first | omega | (simp (disch := omega) only [sr_up, wr_up_o]; omega))) only [e245_7, ks_125, ks_134, ks_135, ks_136, ks_137, ks_138, ks_139, ks_99, rm_hatsOf hρ, rm_isOut hρ, rm_noteDays hρ, rm_noteHats hρ, rm_noteIs hρ, rm_noteOf hρ, rm_outs hρ, ite_self, Bool.false_eq_true, eq_self, isk_t, i20_t, w20_t, l23_t, b21_t, b22_t, w_t, bif_t, bif_f, bif_d, if_pos, if_neg, if_true, if_false, not_true_eq_false, not_false_eq_true, Option.bind_some, Option.toList_some, Option.toList_none, List.cons_append, List.nil_append, Int.toNat_natCast, Int.reduceToNat, up_eq, up_p, up_k, sN,  R_km hρ hK, g9, g8, i1, i2, i3, i4, c3, i5, c4 ]
        · rcases j5 with c5 | c5
          · have e3 : soP L dy mn th ht is day V k = true := decide_eq_true (fun _ _ => ⟨fun g => absurd g c4, fun g => by omega⟩)
            rw [e3, Bool.true_and, ← e]
            rw [c5] at i4
            clear e e3
            rw [e245_2]; simp (disch := (first | omega | (simp (disch := omega) only [sr_up, wr_up_o]; omega))) only [e245_7, ks_125, ks_134, ks_135, ks_136, ks_137, ks_138, ks_139, ks_99, rm_hatsOf hρ, rm_isOut hρ, rm_noteDays hρ, rm_noteHats hρ, rm_noteIs hρ, rm_noteOf hρ, rm_outs hρ, ite_self, Bool.false_eq_true, eq_self, isk_t, i20_t, w20_t, l23_t, b21_t, b22_t, w_t, bif_t, bif_f, bif_d, if_pos, if_neg, if_true, if_false, not_true_eq_false, not_false_eq_true, Option.bind_some, Option.toList_some, Option.toList_none, List.cons_append, List.nil_append, Int.toNat_natCast, Int.reduceToNat, up_eq, up_p, up_k, sN,  R_km hρ hK, g9, g8, i1, i2, i3, i4, c3, i5, c4 ]
          · have e3 : soP L dy mn th ht is day V k = false := decide_eq_false (fun g => c4 ((g c2 c3).mpr c5))
            rw [e3, Bool.false_and, if_neg (by simp)]
            rw [c5] at i4
            clear e e3
            rw [e245_2]; simp (disch := (first | omega | (simp (disch := omega) only [sr_up, wr_up_o]; omega))) only [e245_7, ks_125, ks_134, ks_135, ks_136, ks_137, ks_138, ks_139, ks_99, rm_hatsOf hρ, rm_isOut hρ, rm_noteDays hρ, rm_noteHats hρ, rm_noteIs hρ, rm_noteOf hρ, rm_outs hρ, ite_self, Bool.false_eq_true, eq_self, isk_t, i20_t, w20_t, l23_t, b21_t, b22_t, w_t, bif_t, bif_f, bif_d, if_pos, if_neg, if_true, if_false, not_true_eq_false, not_false_eq_true, Option.bind_some, Option.toList_some, Option.toList_none, List.cons_append, List.nil_append, Int.toNat_natCast, Int.reduceToNat, up_eq, up_p, up_k, sN,  R_km hρ hK, g9, g8, i1, i2, i3, i4, c3, i5, c4 ]
            all_goals rfl
      · have e3 : soP L dy mn th ht is day V k = true := decide_eq_true (fun _ g => absurd g c3)
        rw [e3, Bool.true_and, ← e]
        clear e e3
        rw [e245_2]; simp (disch := (first | omega | (simp (disch := omega) only [sr_up, wr_up_o]; omega))) only [e245_7, ks_125, ks_134, ks_135, ks_136, ks_137, ks_138, ks_139, ks_99, rm_hatsOf hρ, rm_isOut hρ, rm_noteDays hρ, rm_noteHats hρ, rm_noteIs hρ, rm_noteOf hρ, rm_outs hρ, ite_self, Bool.false_eq_true, eq_self, isk_t, i20_t, w20_t, l23_t, b21_t, b22_t, w_t, bif_t, bif_f, bif_d, if_pos, if_neg, if_true, if_false, not_true_eq_false, not_false_eq_true, Option.bind_some, Option.toList_some, Option.toList_none, List.cons_append, List.nil_append, Int.toNat_natCast, Int.reduceToNat, up_eq, up_p, up_k, sN,  R_km hρ hK, g9, g8, i1, c3 ]
    · have c2 : L k = false := by rw [gL]; simp [c0]
      have e3 : soP L dy mn th ht is day V k = true := decide_eq_true (fun g => by rw [c2] at g; cases g)
      rw [e3, Bool.true_and, ← e]
      clear e e3
      rw [e245_2]; simp (disch := (first | omega | (simp (disch := omega) only [sr_up, wr_up_o]; omega))) only [e245_7, ks_125, ks_134, ks_135, ks_136, ks_137, ks_138, ks_139, ks_99, rm_hatsOf hρ, rm_isOut hρ, rm_noteDays hρ, rm_noteHats hρ, rm_noteIs hρ, rm_noteOf hρ, rm_outs hρ, ite_self, Bool.false_eq_true, eq_self, isk_t, i20_t, w20_t, l23_t, b21_t, b22_t, w_t, bif_t, bif_f, bif_d, if_pos, if_neg, if_true, if_false, not_true_eq_false, not_false_eq_true, Option.bind_some, Option.toList_some, Option.toList_none, List.cons_append, List.nil_append, Int.toNat_natCast, Int.reduceToNat, up_eq, up_p, up_k, sN,  R_km hρ hK, g9, g8, c0 ]
end SO
