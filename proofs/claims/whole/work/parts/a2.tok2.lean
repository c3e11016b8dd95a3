/-! TEXT: the class's tokens -/
theorem fnd_c {f g : Nat → Int} {z : Int} : ∀ (n k : Nat), (∀ j, k ≤ j → j < k + n → f j = g j) → fnd f 0 z n k = fnd g 0 z n k := by
  intro n
  induction n with
  | zero => intro k _; rfl
  | succ n ih =>
    intro k h
    show (if f (0 + k) = z then (k : Int) else fnd f 0 z n (k + 1)) = if g (0 + k) = z then (k : Int) else fnd g 0 z n (k + 1)
    rw [Nat.zero_add, h k (by omega) (by omega), ih (k + 1) (fun j h0 h1 => h j (by omega) (by omega))]
theorem fnd_bd {f : Nat → Int} {z : Int} : ∀ (n k : Nat), -1 ≤ fnd f 0 z n k ∧ fnd f 0 z n k < k + n ∧ (0 ≤ fnd f 0 z n k → (k : Int) ≤ fnd f 0 z n k ∧ f (fnd f 0 z n k).toNat = z) := by
  intro n
  induction n with
  | zero => intro k; exact ⟨Int.le_refl _, by show (-1 : Int) < _; omega, fun h => absurd h (by show ¬ (0 : Int) ≤ -1; omega)⟩
  | succ n ih =>
    intro k
    have e : fnd f 0 z (n + 1) k = if f (0 + k) = z then (k : Int) else fnd f 0 z n (k + 1) := rfl
    rw [e]
    by_cases c : f (0 + k) = z
    · rw [if_pos c]
      exact ⟨by omega, by omega, fun _ => ⟨by omega, by rw [Int.toNat_natCast]; rw [Nat.zero_add] at c; exact c⟩⟩
    · rw [if_neg c]
      obtain ⟨a1, a2, a3⟩ := ih (k + 1)
      exact ⟨a1, by omega, fun h => ⟨by have := (a3 h).1; omega, (a3 h).2⟩⟩
theorem wkd_bd (z : Int) : 0 ≤ wkd z ∧ wkd z ≤ 23 := by
  unfold wkd
  have h := fnd_bd (f := fun i => lang.getD i 0) (z := z) 23 0
  by_cases c : fnd (fun i => lang.getD i 0) 0 z 23 0 < 0
  · rw [if_pos c]; omega
  · rw [if_neg c]; omega
section XTK
variable {ρ : Nat → Nat → Nat} {μ : Nat → Nat → Int} {cs : Nat × Nat × Nat} {d n p e : Nat} {b : Nat → Int}
def FT (μ μ' : Nat → Nat → Int) : Prop := ∀ q k, ¬ (q = 41 ∧ 3 ≤ k ∧ k ≤ 6) → μ' q k = μ q k
theorem ft_rf (μ : Nat → Nat → Int) : FT μ μ := fun _ _ _ => rfl
theorem ft_tr {a b c : Nat → Nat → Int} (h1 : FT a b) (h2 : FT b c) : FT a c := fun q k h => (h2 q k h).trans (h1 q k h)
theorem ft_up {μ μ' : Nat → Nat → Int} {k : Nat} {v : Int} (h1 : FT μ μ') (h : 3 ≤ k ∧ k ≤ 6) : FT μ (am_up μ' 41 k v) := fun q' k' h' => by
  rw [am_up_no (fun e => h' (by omega))]
  exact h1 q' k' h'
theorem X_tw1 (hx : XM ρ) (hy : ρ 41 1 = 1) (hn : n ≤ 700) (he : e ≤ n) (hl : ∀ j, p ≤ j → j < e → ltr (b j) = true) : ∀ (m k : Nat) {μ : Nat → Nat → Int}, p + k + m = e → μ 41 2 = (n : Int) → μ 41 3 = ((p + k : Nat) : Int) → μ 41 6 = (p : Int) → (∀ i, i < n → μ 1 i = b i) → am_E (d + 1) 64 2 [some (.inr (.inr 41)), some (.inl (cdP b p e (min k 6))), none, none] [] (SH, ρ, μ, cs) = am_E (d + 1) 64 2 [some (.inr (.inr 41)), some (.inl (cdP b p e (min (e - p) 6))), none, none] [] (SH, ρ, am_up μ 41 3 e, cs) := by
  intro m
  induction m with
  | zero =>
    intro k μ hk h2 h3 h6 hb
    rw [am_upi (by rw [h3]; omega), show e - p = k by omega]
  | succ m ih =>
    intro k μ hk h2 h3 h6 hb
    have hbk := hb (p + k) (by omega)
    have hlk := hl (p + k) (by omega) (by omega)
    simp only [ltr, decide_eq_true_eq] at hlk
    have h := ih (k + 1) (μ := am_up μ 41 3 (((p + k : Nat) : Int) + 1)) (by omega) (by rw [up_k (by decide)]; exact h2) (by rw [up_eq]; omega) (by rw [up_k (by decide)]; exact h6) (fun i hi => by rw [up_p (by decide)]; exact hb i hi)
    rw [am_up2] at h
    rw [← h]
    by_cases c : k < 6
    · have bd := cdP_bd hl k
      have bd2 : cdP b p e k < 33554432 := by
        have h9 : (32 : Int) ^ k ≤ 32 ^ 5 := by
          have : (32 ^ k : Nat) ≤ 32 ^ 5 := Nat.pow_le_pow_right (by decide) (by omega)
          have e1 : (32 : Int) ^ k = ((32 ^ k : Nat) : Int) := by simp
          rw [e1]
          have e2 : (32 : Int) ^ 5 = ((32 ^ 5 : Nat) : Int) := by simp
          rw [e2]
          exact Int.ofNat_le.mpr this
        have e5 : (32 : Int) ^ 5 = 33554432 := by decide
        omega
      have e1 : am_or (am_shl (cdP b p e k) 5) (b (p + k) - 97 + 1) = cdP b p e (k + 1) := by
        rw [sh5 bd.1 bd2 (by omega) (by omega)]
        show _ = cdP b p e k * 32 + dg b p e k
        unfold dg
        rw [if_pos (by omega)]
        omega
      rw [show min k 6 = k by omega, show min (k + 1) 6 = k + 1 by omega]
      rw [e64_2]; simp (disch := omega) only [e64_25, e69_0, xk_0, xk_1, xk_40, xk_41, xk_42, xk_43, xk_44, xk_45, xk_46, xk_47, xk_48, xk_49, xk_50, xk_51, xk_52, xk_53, xk_54, xk_55, xk_56, xk_57, xk_58, xk_59, xk_60, xk_61, xk_62, xk_63, xk_64, xk_65, xk_66, xk_67, xk_68, xk_69, xk_70, xk_71, xk_72, xk_73, xk_74, xk_75, xk_76, xk_77, xk_78, xk_79, xk_80, xk_81, xk_82, xk_83, xk_84, xk_85, xk_86, xk_87, xk_88, xk_89, xk_90, xk_91, xk_92, xk_93, xk_94, xk_95, xk_96, xk_97, xk_98, xm_0_0 hx, xm_0_10 hx, xm_0_11 hx, xm_0_12 hx, xm_0_13 hx, xm_0_14 hx, xm_0_15 hx, xm_0_2 hx, xm_0_9 hx, xm_40_0 hx, xm_40_1 hx, xm_41_0 hx, xm_44_0 hx, xm_44_1 hx, xm_73_4 hx, xm_73_5 hx, xm_73_6 hx, xm_77_1 hx, xm_77_2 hx, xm_77_3 hx, xm_77_4 hx, xm_77_5 hx, xm_77_6 hx, xm_77_7 hx, xm_77_8 hx, xm_77_9 hx, xm_87_2 hx, xm_87_3 hx, xm_87_4 hx, xm_87_5 hx, xm_87_6 hx, xm_87_7 hx, xm_87_8 hx, ite_self, Bool.false_eq_true, eq_self, isk_t, i20_t, w20_t, l23_t, b21_t, b22_t, w_t, bif_t, bif_f, bif_d, if_pos, if_neg, if_true, if_false, not_true_eq_false, not_false_eq_true, Option.bind_some, Option.toList_some, Option.toList_none, List.cons_append, List.nil_append, Int.toNat_natCast, Int.reduceToNat, up_eq, up_p, up_k, sN,  hy, h2, h3, h6, hbk, e1 ]
      all_goals rfl
    · rw [show min k 6 = 6 by omega, show min (k + 1) 6 = 6 by omega]
      rw [e64_2]; simp (disch := omega) only [e64_25, e69_0, xk_0, xk_1, xk_40, xk_41, xk_42, xk_43, xk_44, xk_45, xk_46, xk_47, xk_48, xk_49, xk_50, xk_51, xk_52, xk_53, xk_54, xk_55, xk_56, xk_57, xk_58, xk_59, xk_60, xk_61, xk_62, xk_63, xk_64, xk_65, xk_66, xk_67, xk_68, xk_69, xk_70, xk_71, xk_72, xk_73, xk_74, xk_75, xk_76, xk_77, xk_78, xk_79, xk_80, xk_81, xk_82, xk_83, xk_84, xk_85, xk_86, xk_87, xk_88, xk_89, xk_90, xk_91, xk_92, xk_93, xk_94, xk_95, xk_96, xk_97, xk_98, xm_0_0 hx, xm_0_10 hx, xm_0_11 hx, xm_0_12 hx, xm_0_13 hx, xm_0_14 hx, xm_0_15 hx, xm_0_2 hx, xm_0_9 hx, xm_40_0 hx, xm_40_1 hx, xm_41_0 hx, xm_44_0 hx, xm_44_1 hx, xm_73_4 hx, xm_73_5 hx, xm_73_6 hx, xm_77_1 hx, xm_77_2 hx, xm_77_3 hx, xm_77_4 hx, xm_77_5 hx, xm_77_6 hx, xm_77_7 hx, xm_77_8 hx, xm_77_9 hx, xm_87_2 hx, xm_87_3 hx, xm_87_4 hx, xm_87_5 hx, xm_87_6 hx, xm_87_7 hx, xm_87_8 hx, ite_self, Bool.false_eq_true, eq_self, isk_t, i20_t, w20_t, l23_t, b21_t, b22_t, w_t, bif_t, bif_f, bif_d, if_pos, if_neg, if_true, if_false, not_true_eq_false, not_false_eq_true, Option.bind_some, Option.toList_some, Option.toList_none, List.cons_append, List.nil_append, Int.toNat_natCast, Int.reduceToNat, up_eq, up_p, up_k, sN,  hy, h2, h3, h6, hbk ]
      all_goals rfl
theorem X_tw2 (hx : XM ρ) (hy : ρ 41 1 = 1) (hn : n ≤ 700) (hpn : p < e) (he : e ≤ n) (hl : ∀ j, p ≤ j → j < e → ltr (b j) = true) (hen : e < n → ltr (b e) = false) (hg : ∀ i, i < 23 → μ 42 i = lang.getD i 0) (h2 : μ 41 2 = (n : Int)) (h3 : μ 41 3 = (e : Int)) (h6 : μ 41 6 = (p : Int)) (hb : ∀ i, i < n → μ 1 i = b i) : am_E (d + 1) 64 2 [some (.inr (.inr 41)), some (.inl (cdP b p e (min (e - p) 6))), none, none] [] (SH, ρ, μ, cs) = if 6 < e - p then some (none, (SH, ρ, am_up μ 41 4 38, cs)) else some (none, (SH, ρ, am_up (am_up μ 41 5 (wc b p e)) 41 4 (wkd (wc b p e)), cs)) := by
  by_cases c : 6 < e - p
  · rw [if_pos c]
    by_cases ce : e < n
    · have hbk := hb e ce
      have hlk := hen ce
      simp only [ltr, decide_eq_false_iff_not] at hlk
      by_cases c1 : b e < 97
      · rw [e64_2]; simp (disch := omega) only [e64_25, e69_0, xk_0, xk_1, xk_40, xk_41, xk_42, xk_43, xk_44, xk_45, xk_46, xk_47, xk_48, xk_49, xk_50, xk_51, xk_52, xk_53, xk_54, xk_55, xk_56, xk_57, xk_58, xk_59, xk_60, xk_61, xk_62, xk_63, xk_64, xk_65, xk_66, xk_67, xk_68, xk_69, xk_70, xk_71, xk_72, xk_73, xk_74, xk_75, xk_76, xk_77, xk_78, xk_79, xk_80, xk_81, xk_82, xk_83, xk_84, xk_85, xk_86, xk_87, xk_88, xk_89, xk_90, xk_91, xk_92, xk_93, xk_94, xk_95, xk_96, xk_97, xk_98, xm_0_0 hx, xm_0_10 hx, xm_0_11 hx, xm_0_12 hx, xm_0_13 hx, xm_0_14 hx, xm_0_15 hx, xm_0_2 hx, xm_0_9 hx, xm_40_0 hx, xm_40_1 hx, xm_41_0 hx, xm_44_0 hx, xm_44_1 hx, xm_73_4 hx, xm_73_5 hx, xm_73_6 hx, xm_77_1 hx, xm_77_2 hx, xm_77_3 hx, xm_77_4 hx, xm_77_5 hx, xm_77_6 hx, xm_77_7 hx, xm_77_8 hx, xm_77_9 hx, xm_87_2 hx, xm_87_3 hx, xm_87_4 hx, xm_87_5 hx, xm_87_6 hx, xm_87_7 hx, xm_87_8 hx, ite_self, Bool.false_eq_true, eq_self, isk_t, i20_t, w20_t, l23_t, b21_t, b22_t, w_t, bif_t, bif_f, bif_d, if_pos, if_neg, if_true, if_false, not_true_eq_false, not_false_eq_true, Option.bind_some, Option.toList_some, Option.toList_none, List.cons_append, List.nil_append, Int.toNat_natCast, Int.reduceToNat, up_eq, up_p, up_k, sN,  hy, h2, h3, h6, hbk ]
      · rw [e64_2]; simp (disch := omega) only [e64_25, e69_0, xk_0, xk_1, xk_40, xk_41, xk_42, xk_43, xk_44, xk_45, xk_46, xk_47, xk_48, xk_49, xk_50, xk_51, xk_52, xk_53, xk_54, xk_55, xk_56, xk_57, xk_58, xk_59, xk_60, xk_61, xk_62, xk_63, xk_64, xk_65, xk_66, xk_67, xk_68, xk_69, xk_70, xk_71, xk_72, xk_73, xk_74, xk_75, xk_76, xk_77, xk_78, xk_79, xk_80, xk_81, xk_82, xk_83, xk_84, xk_85, xk_86, xk_87, xk_88, xk_89, xk_90, xk_91, xk_92, xk_93, xk_94, xk_95, xk_96, xk_97, xk_98, xm_0_0 hx, xm_0_10 hx, xm_0_11 hx, xm_0_12 hx, xm_0_13 hx, xm_0_14 hx, xm_0_15 hx, xm_0_2 hx, xm_0_9 hx, xm_40_0 hx, xm_40_1 hx, xm_41_0 hx, xm_44_0 hx, xm_44_1 hx, xm_73_4 hx, xm_73_5 hx, xm_73_6 hx, xm_77_1 hx, xm_77_2 hx, xm_77_3 hx, xm_77_4 hx, xm_77_5 hx, xm_77_6 hx, xm_77_7 hx, xm_77_8 hx, xm_77_9 hx, xm_87_2 hx, xm_87_3 hx, xm_87_4 hx, xm_87_5 hx, xm_87_6 hx, xm_87_7 hx, xm_87_8 hx, ite_self, Bool.false_eq_true, eq_self, isk_t, i20_t, w20_t, l23_t, b21_t, b22_t, w_t, bif_t, bif_f, bif_d, if_pos, if_neg, if_true, if_false, not_true_eq_false, not_false_eq_true, Option.bind_some, Option.toList_some, Option.toList_none, List.cons_append, List.nil_append, Int.toNat_natCast, Int.reduceToNat, up_eq, up_p, up_k, sN,  hy, h2, h3, h6, hbk ]
    · rw [e64_2]; simp (disch := omega) only [e64_25, e69_0, xk_0, xk_1, xk_40, xk_41, xk_42, xk_43, xk_44, xk_45, xk_46, xk_47, xk_48, xk_49, xk_50, xk_51, xk_52, xk_53, xk_54, xk_55, xk_56, xk_57, xk_58, xk_59, xk_60, xk_61, xk_62, xk_63, xk_64, xk_65, xk_66, xk_67, xk_68, xk_69, xk_70, xk_71, xk_72, xk_73, xk_74, xk_75, xk_76, xk_77, xk_78, xk_79, xk_80, xk_81, xk_82, xk_83, xk_84, xk_85, xk_86, xk_87, xk_88, xk_89, xk_90, xk_91, xk_92, xk_93, xk_94, xk_95, xk_96, xk_97, xk_98, xm_0_0 hx, xm_0_10 hx, xm_0_11 hx, xm_0_12 hx, xm_0_13 hx, xm_0_14 hx, xm_0_15 hx, xm_0_2 hx, xm_0_9 hx, xm_40_0 hx, xm_40_1 hx, xm_41_0 hx, xm_44_0 hx, xm_44_1 hx, xm_73_4 hx, xm_73_5 hx, xm_73_6 hx, xm_77_1 hx, xm_77_2 hx, xm_77_3 hx, xm_77_4 hx, xm_77_5 hx, xm_77_6 hx, xm_77_7 hx, xm_77_8 hx, xm_77_9 hx, xm_87_2 hx, xm_87_3 hx, xm_87_4 hx, xm_87_5 hx, xm_87_6 hx, xm_87_7 hx, xm_87_8 hx, ite_self, Bool.false_eq_true, eq_self, isk_t, i20_t, w20_t, l23_t, b21_t, b22_t, w_t, bif_t, bif_f, bif_d, if_pos, if_neg, if_true, if_false, not_true_eq_false, not_false_eq_true, Option.bind_some, Option.toList_some, Option.toList_none, List.cons_append, List.nil_append, Int.toNat_natCast, Int.reduceToNat, up_eq, up_p, up_k, sN,  hy, h2, h3, h6 ]
  · rw [if_neg c, show min (e - p) 6 = e - p by omega]
    have hsh : am_shl (cdP b p e (e - p)) (5 * (6 - ((e : Int) - (p : Int)))) = wc b p e := by
      have h := shw (cdP_bd hl (e - p)).1 (by omega) (cdP_bd hl (e - p)).2
      rw [show ((e - p : Nat) : Int) = (e : Int) - (p : Int) by omega] at h
      rw [h, ← cdP_more (e - p) (by omega)]
      unfold wc
      congr 1
      omega
    have hf := fun d => X_placeOf (ρ := ρ) (μ := am_up μ 41 5 (wc b p e)) (cs := cs) (d := d) (z := wc b p e) (xk_42 cs.2.2) (by omega) (by omega) (show (23 : Int) ≤ 23 by omega) 23 0 (by omega)
    have hff : fnd (am_up μ 41 5 (wc b p e) 42) 0 (wc b p e) 23 0 = fnd (fun i => lang.getD i 0) 0 (wc b p e) 23 0 := fnd_c 23 0 (fun j _ h1 => by rw [up_p (by decide)]; exact hg j (by omega))
    rw [hff] at hf
    have hw : wkd (wc b p e) = if fnd (fun i => lang.getD i 0) 0 (wc b p e) 23 0 < 0 then 23 else fnd (fun i => lang.getD i 0) 0 (wc b p e) 23 0 := rfl
    rw [hw]
    generalize fnd (fun i => lang.getD i 0) 0 (wc b p e) 23 0 = F at hf ⊢
    have hf : ∀ d, am_E d 58 2 [some (.inl (wc b p e)), some (.inr (.inr 42)), some (.inl 23), some (.inl 0)] [] (SH, ρ, am_up μ 41 5 (wc b p e), cs) = some (some (.inl F), (SH, ρ, am_up μ 41 5 (wc b p e), cs)) := hf
    by_cases cF : F < 0
    · rw [if_pos cF]
      by_cases ce : e < n
      · have hbk := hb e ce
        have hlk := hen ce
        simp only [ltr, decide_eq_false_iff_not] at hlk
        by_cases c1 : b e < 97
        · rw [e64_2]; simp (disch := omega) only [e64_25, e69_0, e58_0, e64_122, xk_0, xk_1, xk_40, xk_41, xk_42, xk_43, xk_44, xk_45, xk_46, xk_47, xk_48, xk_49, xk_50, xk_51, xk_52, xk_53, xk_54, xk_55, xk_56, xk_57, xk_58, xk_59, xk_60, xk_61, xk_62, xk_63, xk_64, xk_65, xk_66, xk_67, xk_68, xk_69, xk_70, xk_71, xk_72, xk_73, xk_74, xk_75, xk_76, xk_77, xk_78, xk_79, xk_80, xk_81, xk_82, xk_83, xk_84, xk_85, xk_86, xk_87, xk_88, xk_89, xk_90, xk_91, xk_92, xk_93, xk_94, xk_95, xk_96, xk_97, xk_98, xm_0_0 hx, xm_0_10 hx, xm_0_11 hx, xm_0_12 hx, xm_0_13 hx, xm_0_14 hx, xm_0_15 hx, xm_0_2 hx, xm_0_9 hx, xm_40_0 hx, xm_40_1 hx, xm_41_0 hx, xm_44_0 hx, xm_44_1 hx, xm_73_4 hx, xm_73_5 hx, xm_73_6 hx, xm_77_1 hx, xm_77_2 hx, xm_77_3 hx, xm_77_4 hx, xm_77_5 hx, xm_77_6 hx, xm_77_7 hx, xm_77_8 hx, xm_77_9 hx, xm_87_2 hx, xm_87_3 hx, xm_87_4 hx, xm_87_5 hx, xm_87_6 hx, xm_87_7 hx, xm_87_8 hx, ite_self, Bool.false_eq_true, eq_self, isk_t, i20_t, w20_t, l23_t, b21_t, b22_t, w_t, bif_t, bif_f, bif_d, if_pos, if_neg, if_true, if_false, not_true_eq_false, not_false_eq_true, Option.bind_some, Option.toList_some, Option.toList_none, List.cons_append, List.nil_append, Int.toNat_natCast, Int.reduceToNat, up_eq, up_p, up_k, sN,  hy, h2, h3, h6, hbk, hsh, hf ]
        · rw [e64_2]; simp (disch := omega) only [e64_25, e69_0, e58_0, e64_122, xk_0, xk_1, xk_40, xk_41, xk_42, xk_43, xk_44, xk_45, xk_46, xk_47, xk_48, xk_49, xk_50, xk_51, xk_52, xk_53, xk_54, xk_55, xk_56, xk_57, xk_58, xk_59, xk_60, xk_61, xk_62, xk_63, xk_64, xk_65, xk_66, xk_67, xk_68, xk_69, xk_70, xk_71, xk_72, xk_73, xk_74, xk_75, xk_76, xk_77, xk_78, xk_79, xk_80, xk_81, xk_82, xk_83, xk_84, xk_85, xk_86, xk_87, xk_88, xk_89, xk_90, xk_91, xk_92, xk_93, xk_94, xk_95, xk_96, xk_97, xk_98, xm_0_0 hx, xm_0_10 hx, xm_0_11 hx, xm_0_12 hx, xm_0_13 hx, xm_0_14 hx, xm_0_15 hx, xm_0_2 hx, xm_0_9 hx, xm_40_0 hx, xm_40_1 hx, xm_41_0 hx, xm_44_0 hx, xm_44_1 hx, xm_73_4 hx, xm_73_5 hx, xm_73_6 hx, xm_77_1 hx, xm_77_2 hx, xm_77_3 hx, xm_77_4 hx, xm_77_5 hx, xm_77_6 hx, xm_77_7 hx, xm_77_8 hx, xm_77_9 hx, xm_87_2 hx, xm_87_3 hx, xm_87_4 hx, xm_87_5 hx, xm_87_6 hx, xm_87_7 hx, xm_87_8 hx, ite_self, Bool.false_eq_true, eq_self, isk_t, i20_t, w20_t, l23_t, b21_t, b22_t, w_t, bif_t, bif_f, bif_d, if_pos, if_neg, if_true, if_false, not_true_eq_false, not_false_eq_true, Option.bind_some, Option.toList_some, Option.toList_none, List.cons_append, List.nil_append, Int.toNat_natCast, Int.reduceToNat, up_eq, up_p, up_k, sN,  hy, h2, h3, h6, hbk, hsh, hf ]
      · rw [e64_2]; simp (disch := omega) only [e64_25, e69_0, e58_0, e64_122, xk_0, xk_1, xk_40, xk_41, xk_42, xk_43, xk_44, xk_45, xk_46, xk_47, xk_48, xk_49, xk_50, xk_51, xk_52, xk_53, xk_54, xk_55, xk_56, xk_57, xk_58, xk_59, xk_60, xk_61, xk_62, xk_63, xk_64, xk_65, xk_66, xk_67, xk_68, xk_69, xk_70, xk_71, xk_72, xk_73, xk_74, xk_75, xk_76, xk_77, xk_78, xk_79, xk_80, xk_81, xk_82, xk_83, xk_84, xk_85, xk_86, xk_87, xk_88, xk_89, xk_90, xk_91, xk_92, xk_93, xk_94, xk_95, xk_96, xk_97, xk_98, xm_0_0 hx, xm_0_10 hx, xm_0_11 hx, xm_0_12 hx, xm_0_13 hx, xm_0_14 hx, xm_0_15 hx, xm_0_2 hx, xm_0_9 hx, xm_40_0 hx, xm_40_1 hx, xm_41_0 hx, xm_44_0 hx, xm_44_1 hx, xm_73_4 hx, xm_73_5 hx, xm_73_6 hx, xm_77_1 hx, xm_77_2 hx, xm_77_3 hx, xm_77_4 hx, xm_77_5 hx, xm_77_6 hx, xm_77_7 hx, xm_77_8 hx, xm_77_9 hx, xm_87_2 hx, xm_87_3 hx, xm_87_4 hx, xm_87_5 hx, xm_87_6 hx, xm_87_7 hx, xm_87_8 hx, ite_self, Bool.false_eq_true, eq_self, isk_t, i20_t, w20_t, l23_t, b21_t, b22_t, w_t, bif_t, bif_f, bif_d, if_pos, if_neg, if_true, if_false, not_true_eq_false, not_false_eq_true, Option.bind_some, Option.toList_some, Option.toList_none, List.cons_append, List.nil_append, Int.toNat_natCast, Int.reduceToNat, up_eq, up_p, up_k, sN,  hy, h2, h3, h6, hsh, hf ]
    · rw [if_neg cF]
      by_cases ce : e < n
      · have hbk := hb e ce
        have hlk := hen ce
        simp only [ltr, decide_eq_false_iff_not] at hlk
        by_cases c1 : b e < 97
        · rw [e64_2]; simp (disch := omega) only [e64_25, e69_0, e58_0, e64_122, xk_0, xk_1, xk_40, xk_41, xk_42, xk_43, xk_44, xk_45, xk_46, xk_47, xk_48, xk_49, xk_50, xk_51, xk_52, xk_53, xk_54, xk_55, xk_56, xk_57, xk_58, xk_59, xk_60, xk_61, xk_62, xk_63, xk_64, xk_65, xk_66, xk_67, xk_68, xk_69, xk_70, xk_71, xk_72, xk_73, xk_74, xk_75, xk_76, xk_77, xk_78, xk_79, xk_80, xk_81, xk_82, xk_83, xk_84, xk_85, xk_86, xk_87, xk_88, xk_89, xk_90, xk_91, xk_92, xk_93, xk_94, xk_95, xk_96, xk_97, xk_98, xm_0_0 hx, xm_0_10 hx, xm_0_11 hx, xm_0_12 hx, xm_0_13 hx, xm_0_14 hx, xm_0_15 hx, xm_0_2 hx, xm_0_9 hx, xm_40_0 hx, xm_40_1 hx, xm_41_0 hx, xm_44_0 hx, xm_44_1 hx, xm_73_4 hx, xm_73_5 hx, xm_73_6 hx, xm_77_1 hx, xm_77_2 hx, xm_77_3 hx, xm_77_4 hx, xm_77_5 hx, xm_77_6 hx, xm_77_7 hx, xm_77_8 hx, xm_77_9 hx, xm_87_2 hx, xm_87_3 hx, xm_87_4 hx, xm_87_5 hx, xm_87_6 hx, xm_87_7 hx, xm_87_8 hx, ite_self, Bool.false_eq_true, eq_self, isk_t, i20_t, w20_t, l23_t, b21_t, b22_t, w_t, bif_t, bif_f, bif_d, if_pos, if_neg, if_true, if_false, not_true_eq_false, not_false_eq_true, Option.bind_some, Option.toList_some, Option.toList_none, List.cons_append, List.nil_append, Int.toNat_natCast, Int.reduceToNat, up_eq, up_p, up_k, sN,  hy, h2, h3, h6, hbk, hsh, hf ]
        · rw [e64_2]; simp (disch := omega) only [e64_25, e69_0, e58_0, e64_122, xk_0, xk_1, xk_40, xk_41, xk_42, xk_43, xk_44, xk_45, xk_46, xk_47, xk_48, xk_49, xk_50, xk_51, xk_52, xk_53, xk_54, xk_55, xk_56, xk_57, xk_58, xk_59, xk_60, xk_61, xk_62, xk_63, xk_64, xk_65, xk_66, xk_67, xk_68, xk_69, xk_70, xk_71, xk_72, xk_73, xk_74, xk_75, xk_76, xk_77, xk_78, xk_79, xk_80, xk_81, xk_82, xk_83, xk_84, xk_85, xk_86, xk_87, xk_88, xk_89, xk_90, xk_91, xk_92, xk_93, xk_94, xk_95, xk_96, xk_97, xk_98, xm_0_0 hx, xm_0_10 hx, xm_0_11 hx, xm_0_12 hx, xm_0_13 hx, xm_0_14 hx, xm_0_15 hx, xm_0_2 hx, xm_0_9 hx, xm_40_0 hx, xm_40_1 hx, xm_41_0 hx, xm_44_0 hx, xm_44_1 hx, xm_73_4 hx, xm_73_5 hx, xm_73_6 hx, xm_77_1 hx, xm_77_2 hx, xm_77_3 hx, xm_77_4 hx, xm_77_5 hx, xm_77_6 hx, xm_77_7 hx, xm_77_8 hx, xm_77_9 hx, xm_87_2 hx, xm_87_3 hx, xm_87_4 hx, xm_87_5 hx, xm_87_6 hx, xm_87_7 hx, xm_87_8 hx, ite_self, Bool.false_eq_true, eq_self, isk_t, i20_t, w20_t, l23_t, b21_t, b22_t, w_t, bif_t, bif_f, bif_d, if_pos, if_neg, if_true, if_false, not_true_eq_false, not_false_eq_true, Option.bind_some, Option.toList_some, Option.toList_none, List.cons_append, List.nil_append, Int.toNat_natCast, Int.reduceToNat, up_eq, up_p, up_k, sN,  hy, h2, h3, h6, hbk, hsh, hf ]
      · rw [e64_2]; simp (disch := omega) only [e64_25, e69_0, e58_0, e64_122, xk_0, xk_1, xk_40, xk_41, xk_42, xk_43, xk_44, xk_45, xk_46, xk_47, xk_48, xk_49, xk_50, xk_51, xk_52, xk_53, xk_54, xk_55, xk_56, xk_57, xk_58, xk_59, xk_60, xk_61, xk_62, xk_63, xk_64, xk_65, xk_66, xk_67, xk_68, xk_69, xk_70, xk_71, xk_72, xk_73, xk_74, xk_75, xk_76, xk_77, xk_78, xk_79, xk_80, xk_81, xk_82, xk_83, xk_84, xk_85, xk_86, xk_87, xk_88, xk_89, xk_90, xk_91, xk_92, xk_93, xk_94, xk_95, xk_96, xk_97, xk_98, xm_0_0 hx, xm_0_10 hx, xm_0_11 hx, xm_0_12 hx, xm_0_13 hx, xm_0_14 hx, xm_0_15 hx, xm_0_2 hx, xm_0_9 hx, xm_40_0 hx, xm_40_1 hx, xm_41_0 hx, xm_44_0 hx, xm_44_1 hx, xm_73_4 hx, xm_73_5 hx, xm_73_6 hx, xm_77_1 hx, xm_77_2 hx, xm_77_3 hx, xm_77_4 hx, xm_77_5 hx, xm_77_6 hx, xm_77_7 hx, xm_77_8 hx, xm_77_9 hx, xm_87_2 hx, xm_87_3 hx, xm_87_4 hx, xm_87_5 hx, xm_87_6 hx, xm_87_7 hx, xm_87_8 hx, ite_self, Bool.false_eq_true, eq_self, isk_t, i20_t, w20_t, l23_t, b21_t, b22_t, w_t, bif_t, bif_f, bif_d, if_pos, if_neg, if_true, if_false, not_true_eq_false, not_false_eq_true, Option.bind_some, Option.toList_some, Option.toList_none, List.cons_append, List.nil_append, Int.toNat_natCast, Int.reduceToNat, up_eq, up_p, up_k, sN,  hy, h2, h3, h6, hsh, hf ]
/-- a number's digits -/
theorem X_tn1 (hx : XM ρ) (hy : ρ 41 1 = 1) (hn : n ≤ 700) (he : e ≤ n) (hl : ∀ j, p ≤ j → j < e → dgt (b j) = true) (hen : e < n → dgt (b e) = false) : ∀ (m k : Nat) {μ : Nat → Nat → Int}, p + k + m = e → μ 41 2 = (n : Int) → μ 41 3 = ((p + k : Nat) : Int) → μ 41 5 = nm 1000000 b p k → (∀ i, i < n → μ 1 i = b i) → ∃ μ', FT μ μ' ∧ μ' 41 3 = (e : Int) ∧ μ' 41 4 = 24 ∧ μ' 41 5 = nm 1000000 b p (e - p) ∧ μ' 41 6 = μ 41 6 ∧ am_E (d + 1) 65 5 [some (.inr (.inr 41))] [] (SH, ρ, μ, cs) = some (none, (SH, ρ, μ', cs)) := by
  intro m
  induction m with
  | zero =>
    intro k μ hk h2 h3 h5 hb
    refine ⟨am_up μ 41 4 24, ft_up (ft_rf μ) (by omega), by rw [up_k (by decide), h3]; omega, up_eq, by rw [up_k (by decide), h5, show e - p = k by omega], up_k (by decide), ?_⟩
    by_cases ce : e < n
    · have hbk := hb (p + k) (by omega)
      have hlk := hen ce
      rw [← show p + k = e by omega] at hlk
      simp only [dgt, decide_eq_false_iff_not] at hlk
      by_cases c1 : b (p + k) < 48
      · rw [e65_5]; simp (disch := omega) only [e65_28, e70_0, xk_0, xk_1, xk_40, xk_41, xk_42, xk_43, xk_44, xk_45, xk_46, xk_47, xk_48, xk_49, xk_50, xk_51, xk_52, xk_53, xk_54, xk_55, xk_56, xk_57, xk_58, xk_59, xk_60, xk_61, xk_62, xk_63, xk_64, xk_65, xk_66, xk_67, xk_68, xk_69, xk_70, xk_71, xk_72, xk_73, xk_74, xk_75, xk_76, xk_77, xk_78, xk_79, xk_80, xk_81, xk_82, xk_83, xk_84, xk_85, xk_86, xk_87, xk_88, xk_89, xk_90, xk_91, xk_92, xk_93, xk_94, xk_95, xk_96, xk_97, xk_98, xm_0_0 hx, xm_0_10 hx, xm_0_11 hx, xm_0_12 hx, xm_0_13 hx, xm_0_14 hx, xm_0_15 hx, xm_0_2 hx, xm_0_9 hx, xm_40_0 hx, xm_40_1 hx, xm_41_0 hx, xm_44_0 hx, xm_44_1 hx, xm_73_4 hx, xm_73_5 hx, xm_73_6 hx, xm_77_1 hx, xm_77_2 hx, xm_77_3 hx, xm_77_4 hx, xm_77_5 hx, xm_77_6 hx, xm_77_7 hx, xm_77_8 hx, xm_77_9 hx, xm_87_2 hx, xm_87_3 hx, xm_87_4 hx, xm_87_5 hx, xm_87_6 hx, xm_87_7 hx, xm_87_8 hx, ite_self, Bool.false_eq_true, eq_self, isk_t, i20_t, w20_t, l23_t, b21_t, b22_t, w_t, bif_t, bif_f, bif_d, if_pos, if_neg, if_true, if_false, not_true_eq_false, not_false_eq_true, Option.bind_some, Option.toList_some, Option.toList_none, List.cons_append, List.nil_append, Int.toNat_natCast, Int.reduceToNat, up_eq, up_p, up_k, sN,  hy, h2, h3, h5, hbk ]
      · rw [e65_5]; simp (disch := omega) only [e65_28, e70_0, xk_0, xk_1, xk_40, xk_41, xk_42, xk_43, xk_44, xk_45, xk_46, xk_47, xk_48, xk_49, xk_50, xk_51, xk_52, xk_53, xk_54, xk_55, xk_56, xk_57, xk_58, xk_59, xk_60, xk_61, xk_62, xk_63, xk_64, xk_65, xk_66, xk_67, xk_68, xk_69, xk_70, xk_71, xk_72, xk_73, xk_74, xk_75, xk_76, xk_77, xk_78, xk_79, xk_80, xk_81, xk_82, xk_83, xk_84, xk_85, xk_86, xk_87, xk_88, xk_89, xk_90, xk_91, xk_92, xk_93, xk_94, xk_95, xk_96, xk_97, xk_98, xm_0_0 hx, xm_0_10 hx, xm_0_11 hx, xm_0_12 hx, xm_0_13 hx, xm_0_14 hx, xm_0_15 hx, xm_0_2 hx, xm_0_9 hx, xm_40_0 hx, xm_40_1 hx, xm_41_0 hx, xm_44_0 hx, xm_44_1 hx, xm_73_4 hx, xm_73_5 hx, xm_73_6 hx, xm_77_1 hx, xm_77_2 hx, xm_77_3 hx, xm_77_4 hx, xm_77_5 hx, xm_77_6 hx, xm_77_7 hx, xm_77_8 hx, xm_77_9 hx, xm_87_2 hx, xm_87_3 hx, xm_87_4 hx, xm_87_5 hx, xm_87_6 hx, xm_87_7 hx, xm_87_8 hx, ite_self, Bool.false_eq_true, eq_self, isk_t, i20_t, w20_t, l23_t, b21_t, b22_t, w_t, bif_t, bif_f, bif_d, if_pos, if_neg, if_true, if_false, not_true_eq_false, not_false_eq_true, Option.bind_some, Option.toList_some, Option.toList_none, List.cons_append, List.nil_append, Int.toNat_natCast, Int.reduceToNat, up_eq, up_p, up_k, sN,  hy, h2, h3, h5, hbk ]
    · rw [e65_5]; simp (disch := omega) only [e65_28, e70_0, xk_0, xk_1, xk_40, xk_41, xk_42, xk_43, xk_44, xk_45, xk_46, xk_47, xk_48, xk_49, xk_50, xk_51, xk_52, xk_53, xk_54, xk_55, xk_56, xk_57, xk_58, xk_59, xk_60, xk_61, xk_62, xk_63, xk_64, xk_65, xk_66, xk_67, xk_68, xk_69, xk_70, xk_71, xk_72, xk_73, xk_74, xk_75, xk_76, xk_77, xk_78, xk_79, xk_80, xk_81, xk_82, xk_83, xk_84, xk_85, xk_86, xk_87, xk_88, xk_89, xk_90, xk_91, xk_92, xk_93, xk_94, xk_95, xk_96, xk_97, xk_98, xm_0_0 hx, xm_0_10 hx, xm_0_11 hx, xm_0_12 hx, xm_0_13 hx, xm_0_14 hx, xm_0_15 hx, xm_0_2 hx, xm_0_9 hx, xm_40_0 hx, xm_40_1 hx, xm_41_0 hx, xm_44_0 hx, xm_44_1 hx, xm_73_4 hx, xm_73_5 hx, xm_73_6 hx, xm_77_1 hx, xm_77_2 hx, xm_77_3 hx, xm_77_4 hx, xm_77_5 hx, xm_77_6 hx, xm_77_7 hx, xm_77_8 hx, xm_77_9 hx, xm_87_2 hx, xm_87_3 hx, xm_87_4 hx, xm_87_5 hx, xm_87_6 hx, xm_87_7 hx, xm_87_8 hx, ite_self, Bool.false_eq_true, eq_self, isk_t, i20_t, w20_t, l23_t, b21_t, b22_t, w_t, bif_t, bif_f, bif_d, if_pos, if_neg, if_true, if_false, not_true_eq_false, not_false_eq_true, Option.bind_some, Option.toList_some, Option.toList_none, List.cons_append, List.nil_append, Int.toNat_natCast, Int.reduceToNat, up_eq, up_p, up_k, sN,  hy, h2, h3, h5 ]
  | succ m ih =>
    intro k μ hk h2 h3 h5 hb
    have hbk := hb (p + k) (by omega)
    have hlk := hl (p + k) (by omega) (by omega)
    simp only [dgt, decide_eq_true_eq] at hlk
    have bd := nm_bd (C := 1000000) (m := e - p) (by omega) (by omega) (fun j h0 h1 => hl j h0 (by omega)) k (by omega)
    have en : nm 1000000 b p (k + 1) = if nm 1000000 b p k < 1000000 then nm 1000000 b p k * 10 + (b (p + k) - 48) else nm 1000000 b p k := rfl
    by_cases c : nm 1000000 b p k < 1000000
    · rw [if_pos c] at en
      obtain ⟨μ', f1, f2, f3, f4, f5, f6⟩ := ih (k + 1) (μ := am_up (am_up μ 41 5 (nm 1000000 b p k * 10 + b (p + k) - 48)) 41 3 (((p + k : Nat) : Int) + 1)) (by omega) (by rw [up_k (by decide), up_k (by decide)]; exact h2) (by rw [up_eq]; omega) (by rw [up_k (by decide), up_eq, en]; omega) (fun i hi => by rw [up_p (by decide), up_p (by decide)]; exact hb i hi)
      refine ⟨μ', ft_tr (ft_up (ft_up (ft_rf μ) (by omega)) (by omega)) f1, f2, f3, f4, by rw [f5, up_k (by decide), up_k (by decide)], ?_⟩
      rw [e65_5]; simp (disch := omega) only [e65_28, e70_0, xk_0, xk_1, xk_40, xk_41, xk_42, xk_43, xk_44, xk_45, xk_46, xk_47, xk_48, xk_49, xk_50, xk_51, xk_52, xk_53, xk_54, xk_55, xk_56, xk_57, xk_58, xk_59, xk_60, xk_61, xk_62, xk_63, xk_64, xk_65, xk_66, xk_67, xk_68, xk_69, xk_70, xk_71, xk_72, xk_73, xk_74, xk_75, xk_76, xk_77, xk_78, xk_79, xk_80, xk_81, xk_82, xk_83, xk_84, xk_85, xk_86, xk_87, xk_88, xk_89, xk_90, xk_91, xk_92, xk_93, xk_94, xk_95, xk_96, xk_97, xk_98, xm_0_0 hx, xm_0_10 hx, xm_0_11 hx, xm_0_12 hx, xm_0_13 hx, xm_0_14 hx, xm_0_15 hx, xm_0_2 hx, xm_0_9 hx, xm_40_0 hx, xm_40_1 hx, xm_41_0 hx, xm_44_0 hx, xm_44_1 hx, xm_73_4 hx, xm_73_5 hx, xm_73_6 hx, xm_77_1 hx, xm_77_2 hx, xm_77_3 hx, xm_77_4 hx, xm_77_5 hx, xm_77_6 hx, xm_77_7 hx, xm_77_8 hx, xm_77_9 hx, xm_87_2 hx, xm_87_3 hx, xm_87_4 hx, xm_87_5 hx, xm_87_6 hx, xm_87_7 hx, xm_87_8 hx, ite_self, Bool.false_eq_true, eq_self, isk_t, i20_t, w20_t, l23_t, b21_t, b22_t, w_t, bif_t, bif_f, bif_d, if_pos, if_neg, if_true, if_false, not_true_eq_false, not_false_eq_true, Option.bind_some, Option.toList_some, Option.toList_none, List.cons_append, List.nil_append, Int.toNat_natCast, Int.reduceToNat, up_eq, up_p, up_k, sN,  hy, h2, h3, h5, hbk ]
      exact f6
    · rw [if_neg c] at en
      obtain ⟨μ', f1, f2, f3, f4, f5, f6⟩ := ih (k + 1) (μ := am_up μ 41 3 (((p + k : Nat) : Int) + 1)) (by omega) (by rw [up_k (by decide)]; exact h2) (by rw [up_eq]; omega) (by rw [up_k (by decide), en]; exact h5) (fun i hi => by rw [up_p (by decide)]; exact hb i hi)
      refine ⟨μ', ft_tr (ft_up (ft_rf μ) (by omega)) f1, f2, f3, f4, by rw [f5, up_k (by decide)], ?_⟩
      rw [e65_5]; simp (disch := omega) only [e65_28, e70_0, xk_0, xk_1, xk_40, xk_41, xk_42, xk_43, xk_44, xk_45, xk_46, xk_47, xk_48, xk_49, xk_50, xk_51, xk_52, xk_53, xk_54, xk_55, xk_56, xk_57, xk_58, xk_59, xk_60, xk_61, xk_62, xk_63, xk_64, xk_65, xk_66, xk_67, xk_68, xk_69, xk_70, xk_71, xk_72, xk_73, xk_74, xk_75, xk_76, xk_77, xk_78, xk_79, xk_80, xk_81, xk_82, xk_83, xk_84, xk_85, xk_86, xk_87, xk_88, xk_89, xk_90, xk_91, xk_92, xk_93, xk_94, xk_95, xk_96, xk_97, xk_98, xm_0_0 hx, xm_0_10 hx, xm_0_11 hx, xm_0_12 hx, xm_0_13 hx, xm_0_14 hx, xm_0_15 hx, xm_0_2 hx, xm_0_9 hx, xm_40_0 hx, xm_40_1 hx, xm_41_0 hx, xm_44_0 hx, xm_44_1 hx, xm_73_4 hx, xm_73_5 hx, xm_73_6 hx, xm_77_1 hx, xm_77_2 hx, xm_77_3 hx, xm_77_4 hx, xm_77_5 hx, xm_77_6 hx, xm_77_7 hx, xm_77_8 hx, xm_77_9 hx, xm_87_2 hx, xm_87_3 hx, xm_87_4 hx, xm_87_5 hx, xm_87_6 hx, xm_87_7 hx, xm_87_8 hx, ite_self, Bool.false_eq_true, eq_self, isk_t, i20_t, w20_t, l23_t, b21_t, b22_t, w_t, bif_t, bif_f, bif_d, if_pos, if_neg, if_true, if_false, not_true_eq_false, not_false_eq_true, Option.bind_some, Option.toList_some, Option.toList_none, List.cons_append, List.nil_append, Int.toNat_natCast, Int.reduceToNat, up_eq, up_p, up_k, sN,  hy, h2, h3, h5, hbk ]
      exact f6
theorem X_sgn {c : Int} : am_E d 68 0 [some (.inl c)] [] (SH, ρ, μ, cs) = some (some (.inl (sgn c)), (SH, ρ, μ, cs)) := by
  rw [e68_0]
  by_cases h : c < 40 ∨ 62 < c
  · rw [e68_1_d _ _ _ _ _ _ _ h]
    unfold sgn
    simp (disch := omega) only [if_neg]
  · have : c = 40 ∨ c = 41 ∨ c = 42 ∨ c = 43 ∨ c = 44 ∨ c = 45 ∨ c = 46 ∨ c = 47 ∨ c = 48 ∨ c = 49 ∨ c = 50 ∨ c = 51 ∨ c = 52 ∨ c = 53 ∨ c = 54 ∨ c = 55 ∨ c = 56 ∨ c = 57 ∨ c = 58 ∨ c = 59 ∨ c = 60 ∨ c = 61 ∨ c = 62 := by omega
    rcases this with rfl | rfl | rfl | rfl | rfl | rfl | rfl | rfl | rfl | rfl | rfl | rfl | rfl | rfl | rfl | rfl | rfl | rfl | rfl | rfl | rfl | rfl | rfl
    · exact e68_1_c40 ..
    · exact e68_1_c41 ..
    · exact e68_1_c42 ..
    · exact e68_1_c43 ..
    · exact e68_1_c44 ..
    · exact e68_1_c45 ..
    · exact e68_1_c46 ..
    · exact e68_1_c47 ..
    · exact e68_1_c48 ..
    · exact e68_1_c49 ..
    · exact e68_1_c50 ..
    · exact e68_1_c51 ..
    · exact e68_1_c52 ..
    · exact e68_1_c53 ..
    · exact e68_1_c54 ..
    · exact e68_1_c55 ..
    · exact e68_1_c56 ..
    · exact e68_1_c57 ..
    · exact e68_1_c58 ..
    · exact e68_1_c59 ..
    · exact e68_1_c60 ..
    · exact e68_1_c61 ..
    · exact e68_1_c62 ..
theorem X_fol (hx : XM ρ) (hy : ρ 41 1 = 1) (hn : n ≤ 700) {c : Int} (h2 : μ 41 2 = (n : Int)) (h3 : μ 41 3 = (p : Int)) (hb : ∀ i, i < n → μ 1 i = b i) : am_E d 67 0 [some (.inr (.inr 41)), some (.inl c)] [] (SH, ρ, μ, cs) = if p < n ∧ b p = c then some (some (.inl 1), (SH, ρ, am_up μ 41 3 ((p : Int) + 1), cs)) else some (some (.inl 0), (SH, ρ, μ, cs)) := by
  by_cases hp : p < n
  · have hbk := hb p hp
    by_cases hc : b p = c
    · rw [if_pos ⟨hp, hc⟩]
      subst hc
      simp (disch := omega) only [e67_0, xk_0, xk_1, xk_40, xk_41, xk_42, xk_43, xk_44, xk_45, xk_46, xk_47, xk_48, xk_49, xk_50, xk_51, xk_52, xk_53, xk_54, xk_55, xk_56, xk_57, xk_58, xk_59, xk_60, xk_61, xk_62, xk_63, xk_64, xk_65, xk_66, xk_67, xk_68, xk_69, xk_70, xk_71, xk_72, xk_73, xk_74, xk_75, xk_76, xk_77, xk_78, xk_79, xk_80, xk_81, xk_82, xk_83, xk_84, xk_85, xk_86, xk_87, xk_88, xk_89, xk_90, xk_91, xk_92, xk_93, xk_94, xk_95, xk_96, xk_97, xk_98, xm_0_0 hx, xm_0_10 hx, xm_0_11 hx, xm_0_12 hx, xm_0_13 hx, xm_0_14 hx, xm_0_15 hx, xm_0_2 hx, xm_0_9 hx, xm_40_0 hx, xm_40_1 hx, xm_41_0 hx, xm_44_0 hx, xm_44_1 hx, xm_73_4 hx, xm_73_5 hx, xm_73_6 hx, xm_77_1 hx, xm_77_2 hx, xm_77_3 hx, xm_77_4 hx, xm_77_5 hx, xm_77_6 hx, xm_77_7 hx, xm_77_8 hx, xm_77_9 hx, xm_87_2 hx, xm_87_3 hx, xm_87_4 hx, xm_87_5 hx, xm_87_6 hx, xm_87_7 hx, xm_87_8 hx, ite_self, Bool.false_eq_true, eq_self, isk_t, i20_t, w20_t, l23_t, b21_t, b22_t, w_t, bif_t, bif_f, bif_d, if_pos, if_neg, if_true, if_false, not_true_eq_false, not_false_eq_true, Option.bind_some, Option.toList_some, Option.toList_none, List.cons_append, List.nil_append, Int.toNat_natCast, Int.reduceToNat, up_eq, up_p, up_k, sN,  hy, h2, h3, hbk ]
    · rw [if_neg (fun e => hc e.2)]
      simp (disch := omega) only [e67_0, xk_0, xk_1, xk_40, xk_41, xk_42, xk_43, xk_44, xk_45, xk_46, xk_47, xk_48, xk_49, xk_50, xk_51, xk_52, xk_53, xk_54, xk_55, xk_56, xk_57, xk_58, xk_59, xk_60, xk_61, xk_62, xk_63, xk_64, xk_65, xk_66, xk_67, xk_68, xk_69, xk_70, xk_71, xk_72, xk_73, xk_74, xk_75, xk_76, xk_77, xk_78, xk_79, xk_80, xk_81, xk_82, xk_83, xk_84, xk_85, xk_86, xk_87, xk_88, xk_89, xk_90, xk_91, xk_92, xk_93, xk_94, xk_95, xk_96, xk_97, xk_98, xm_0_0 hx, xm_0_10 hx, xm_0_11 hx, xm_0_12 hx, xm_0_13 hx, xm_0_14 hx, xm_0_15 hx, xm_0_2 hx, xm_0_9 hx, xm_40_0 hx, xm_40_1 hx, xm_41_0 hx, xm_44_0 hx, xm_44_1 hx, xm_73_4 hx, xm_73_5 hx, xm_73_6 hx, xm_77_1 hx, xm_77_2 hx, xm_77_3 hx, xm_77_4 hx, xm_77_5 hx, xm_77_6 hx, xm_77_7 hx, xm_77_8 hx, xm_77_9 hx, xm_87_2 hx, xm_87_3 hx, xm_87_4 hx, xm_87_5 hx, xm_87_6 hx, xm_87_7 hx, xm_87_8 hx, ite_self, Bool.false_eq_true, eq_self, isk_t, i20_t, w20_t, l23_t, b21_t, b22_t, w_t, bif_t, bif_f, bif_d, if_pos, if_neg, if_true, if_false, not_true_eq_false, not_false_eq_true, Option.bind_some, Option.toList_some, Option.toList_none, List.cons_append, List.nil_append, Int.toNat_natCast, Int.reduceToNat, up_eq, up_p, up_k, sN,  hy, h2, h3, hbk, hc ]
  · rw [if_neg (fun e => hp e.1)]
    simp (disch := omega) only [e67_0, xk_0, xk_1, xk_40, xk_41, xk_42, xk_43, xk_44, xk_45, xk_46, xk_47, xk_48, xk_49, xk_50, xk_51, xk_52, xk_53, xk_54, xk_55, xk_56, xk_57, xk_58, xk_59, xk_60, xk_61, xk_62, xk_63, xk_64, xk_65, xk_66, xk_67, xk_68, xk_69, xk_70, xk_71, xk_72, xk_73, xk_74, xk_75, xk_76, xk_77, xk_78, xk_79, xk_80, xk_81, xk_82, xk_83, xk_84, xk_85, xk_86, xk_87, xk_88, xk_89, xk_90, xk_91, xk_92, xk_93, xk_94, xk_95, xk_96, xk_97, xk_98, xm_0_0 hx, xm_0_10 hx, xm_0_11 hx, xm_0_12 hx, xm_0_13 hx, xm_0_14 hx, xm_0_15 hx, xm_0_2 hx, xm_0_9 hx, xm_40_0 hx, xm_40_1 hx, xm_41_0 hx, xm_44_0 hx, xm_44_1 hx, xm_73_4 hx, xm_73_5 hx, xm_73_6 hx, xm_77_1 hx, xm_77_2 hx, xm_77_3 hx, xm_77_4 hx, xm_77_5 hx, xm_77_6 hx, xm_77_7 hx, xm_77_8 hx, xm_77_9 hx, xm_87_2 hx, xm_87_3 hx, xm_87_4 hx, xm_87_5 hx, xm_87_6 hx, xm_87_7 hx, xm_87_8 hx, ite_self, Bool.false_eq_true, eq_self, isk_t, i20_t, w20_t, l23_t, b21_t, b22_t, w_t, bif_t, bif_f, bif_d, if_pos, if_neg, if_true, if_false, not_true_eq_false, not_false_eq_true, Option.bind_some, Option.toList_some, Option.toList_none, List.cons_append, List.nil_append, Int.toNat_natCast, Int.reduceToNat, up_eq, up_p, up_k, sN,  hy, h2, h3 ]
theorem X_ts (hx : XM ρ) (hy : ρ 41 1 = 1) (hn : n ≤ 700) (hp : p < n) (h2 : μ 41 2 = (n : Int)) (h3 : μ 41 3 = (p : Int)) (hb : ∀ i, i < n → μ 1 i = b i) : ∃ μ', FT μ μ' ∧ μ' 41 3 = ((p + (sg2 b n p).2 : Nat) : Int) ∧ μ' 41 4 = (sg2 b n p).1 ∧ μ' 41 6 = μ 41 6 ∧ am_E (d + 1) 66 0 [some (.inr (.inr 41)), none] [] (SH, ρ, μ, cs) = some (none, (SH, ρ, μ', cs)) := by
  have hbk := hb p hp
  have hs := fun (μ : Nat → Nat → Int) (c : Int) (d : Nat) => X_sgn (ρ := ρ) (μ := μ) (cs := cs) (d := d) (c := c)
  have hf := fun (c : Int) (d : Nat) => X_fol (ρ := ρ) (cs := cs) (d := d) (c := c) (b := b) (p := p + 1) (μ := am_up μ 41 3 ((p : Int) + 1)) hx hy hn (by rw [up_k (by decide)]; exact h2) (up_eq.trans (by omega)) (fun i hi => by rw [up_p (by decide)]; exact hb i hi)
  by_cases c1 : b p = 60
  · by_cases c2 : p + 1 < n ∧ b (p + 1) = 61
    · have e : sg2 b n p = (33, 2) := by unfold sg2; rw [if_pos ⟨c1, c2⟩]
      rw [e]
      have hf1 := hf 61
      simp only [if_pos c2, am_up2] at hf1
      refine ⟨am_up (am_up μ 41 3 (((p + 1 : Nat) : Int) + 1)) 41 4 33, ft_up (ft_up (ft_rf μ) (by omega)) (by omega), by rw [up_k (by decide), up_eq]; omega, up_eq, by rw [up_k (by decide), up_k (by decide)], ?_⟩
      simp (disch := omega) only [e66_0, e66_32, e66_100, xk_0, xk_1, xk_40, xk_41, xk_42, xk_43, xk_44, xk_45, xk_46, xk_47, xk_48, xk_49, xk_50, xk_51, xk_52, xk_53, xk_54, xk_55, xk_56, xk_57, xk_58, xk_59, xk_60, xk_61, xk_62, xk_63, xk_64, xk_65, xk_66, xk_67, xk_68, xk_69, xk_70, xk_71, xk_72, xk_73, xk_74, xk_75, xk_76, xk_77, xk_78, xk_79, xk_80, xk_81, xk_82, xk_83, xk_84, xk_85, xk_86, xk_87, xk_88, xk_89, xk_90, xk_91, xk_92, xk_93, xk_94, xk_95, xk_96, xk_97, xk_98, xm_0_0 hx, xm_0_10 hx, xm_0_11 hx, xm_0_12 hx, xm_0_13 hx, xm_0_14 hx, xm_0_15 hx, xm_0_2 hx, xm_0_9 hx, xm_40_0 hx, xm_40_1 hx, xm_41_0 hx, xm_44_0 hx, xm_44_1 hx, xm_73_4 hx, xm_73_5 hx, xm_73_6 hx, xm_77_1 hx, xm_77_2 hx, xm_77_3 hx, xm_77_4 hx, xm_77_5 hx, xm_77_6 hx, xm_77_7 hx, xm_77_8 hx, xm_77_9 hx, xm_87_2 hx, xm_87_3 hx, xm_87_4 hx, xm_87_5 hx, xm_87_6 hx, xm_87_7 hx, xm_87_8 hx, ite_self, Bool.false_eq_true, eq_self, isk_t, i20_t, w20_t, l23_t, b21_t, b22_t, w_t, bif_t, bif_f, bif_d, if_pos, if_neg, if_true, if_false, not_true_eq_false, not_false_eq_true, Option.bind_some, Option.toList_some, Option.toList_none, List.cons_append, List.nil_append, Int.toNat_natCast, Int.reduceToNat, up_eq, up_p, up_k, sN,  hy, h3, hbk, c1, hf1 ]
    · have hf1 := hf 61
      simp only [if_neg c2] at hf1
      by_cases c3 : p + 1 < n ∧ b (p + 1) = 62
      · have e : sg2 b n p = (35, 2) := by unfold sg2; rw [if_neg (fun z => c2 z.2), if_pos ⟨c1, c3⟩]
        rw [e]
        have hf2 := hf 62
        simp only [if_pos c3, am_up2] at hf2
        refine ⟨am_up (am_up μ 41 3 (((p + 1 : Nat) : Int) + 1)) 41 4 35, ft_up (ft_up (ft_rf μ) (by omega)) (by omega), by rw [up_k (by decide), up_eq]; omega, up_eq, by rw [up_k (by decide), up_k (by decide)], ?_⟩
        simp (disch := omega) only [e66_0, e66_32, e66_56, e66_100, xk_0, xk_1, xk_40, xk_41, xk_42, xk_43, xk_44, xk_45, xk_46, xk_47, xk_48, xk_49, xk_50, xk_51, xk_52, xk_53, xk_54, xk_55, xk_56, xk_57, xk_58, xk_59, xk_60, xk_61, xk_62, xk_63, xk_64, xk_65, xk_66, xk_67, xk_68, xk_69, xk_70, xk_71, xk_72, xk_73, xk_74, xk_75, xk_76, xk_77, xk_78, xk_79, xk_80, xk_81, xk_82, xk_83, xk_84, xk_85, xk_86, xk_87, xk_88, xk_89, xk_90, xk_91, xk_92, xk_93, xk_94, xk_95, xk_96, xk_97, xk_98, xm_0_0 hx, xm_0_10 hx, xm_0_11 hx, xm_0_12 hx, xm_0_13 hx, xm_0_14 hx, xm_0_15 hx, xm_0_2 hx, xm_0_9 hx, xm_40_0 hx, xm_40_1 hx, xm_41_0 hx, xm_44_0 hx, xm_44_1 hx, xm_73_4 hx, xm_73_5 hx, xm_73_6 hx, xm_77_1 hx, xm_77_2 hx, xm_77_3 hx, xm_77_4 hx, xm_77_5 hx, xm_77_6 hx, xm_77_7 hx, xm_77_8 hx, xm_77_9 hx, xm_87_2 hx, xm_87_3 hx, xm_87_4 hx, xm_87_5 hx, xm_87_6 hx, xm_87_7 hx, xm_87_8 hx, ite_self, Bool.false_eq_true, eq_self, isk_t, i20_t, w20_t, l23_t, b21_t, b22_t, w_t, bif_t, bif_f, bif_d, if_pos, if_neg, if_true, if_false, not_true_eq_false, not_false_eq_true, Option.bind_some, Option.toList_some, Option.toList_none, List.cons_append, List.nil_append, Int.toNat_natCast, Int.reduceToNat, up_eq, up_p, up_k, sN,  hy, h3, hbk, c1, hf1, hf2 ]
      · have e : sg2 b n p = (sgn (b p), 1) := by unfold sg2; rw [if_neg (fun z => c2 z.2), if_neg (fun z => c3 z.2), if_neg (fun z => by omega)]
        rw [e]
        have hf2 := hf 62
        simp only [if_neg c3] at hf2
        refine ⟨am_up (am_up μ 41 3 ((p : Int) + 1)) 41 4 (sgn (b p)), ft_up (ft_up (ft_rf μ) (by omega)) (by omega), by rw [up_k (by decide), up_eq]; omega, up_eq, by rw [up_k (by decide), up_k (by decide)], ?_⟩
        rw [c1] at hbk ⊢
        simp (disch := omega) only [e66_0, e66_32, e66_56, e66_97, e66_100, xk_0, xk_1, xk_40, xk_41, xk_42, xk_43, xk_44, xk_45, xk_46, xk_47, xk_48, xk_49, xk_50, xk_51, xk_52, xk_53, xk_54, xk_55, xk_56, xk_57, xk_58, xk_59, xk_60, xk_61, xk_62, xk_63, xk_64, xk_65, xk_66, xk_67, xk_68, xk_69, xk_70, xk_71, xk_72, xk_73, xk_74, xk_75, xk_76, xk_77, xk_78, xk_79, xk_80, xk_81, xk_82, xk_83, xk_84, xk_85, xk_86, xk_87, xk_88, xk_89, xk_90, xk_91, xk_92, xk_93, xk_94, xk_95, xk_96, xk_97, xk_98, xm_0_0 hx, xm_0_10 hx, xm_0_11 hx, xm_0_12 hx, xm_0_13 hx, xm_0_14 hx, xm_0_15 hx, xm_0_2 hx, xm_0_9 hx, xm_40_0 hx, xm_40_1 hx, xm_41_0 hx, xm_44_0 hx, xm_44_1 hx, xm_73_4 hx, xm_73_5 hx, xm_73_6 hx, xm_77_1 hx, xm_77_2 hx, xm_77_3 hx, xm_77_4 hx, xm_77_5 hx, xm_77_6 hx, xm_77_7 hx, xm_77_8 hx, xm_77_9 hx, xm_87_2 hx, xm_87_3 hx, xm_87_4 hx, xm_87_5 hx, xm_87_6 hx, xm_87_7 hx, xm_87_8 hx, ite_self, Bool.false_eq_true, eq_self, isk_t, i20_t, w20_t, l23_t, b21_t, b22_t, w_t, bif_t, bif_f, bif_d, if_pos, if_neg, if_true, if_false, not_true_eq_false, not_false_eq_true, Option.bind_some, Option.toList_some, Option.toList_none, List.cons_append, List.nil_append, Int.toNat_natCast, Int.reduceToNat, up_eq, up_p, up_k, sN,  hy, h3, hbk, hf1, hf2, hs ]
  · by_cases c4 : b p = 62
    · have hf1 := hf 61
      by_cases c2 : p + 1 < n ∧ b (p + 1) = 61
      · have e : sg2 b n p = (36, 2) := by unfold sg2; rw [if_neg (fun z => c1 z.1), if_neg (fun z => c1 z.1), if_pos ⟨c4, c2⟩]
        rw [e]
        simp only [if_pos c2, am_up2] at hf1
        refine ⟨am_up (am_up μ 41 3 (((p + 1 : Nat) : Int) + 1)) 41 4 36, ft_up (ft_up (ft_rf μ) (by omega)) (by omega), by rw [up_k (by decide), up_eq]; omega, up_eq, by rw [up_k (by decide), up_k (by decide)], ?_⟩
        simp (disch := omega) only [e66_0, e66_80, e66_100, xk_0, xk_1, xk_40, xk_41, xk_42, xk_43, xk_44, xk_45, xk_46, xk_47, xk_48, xk_49, xk_50, xk_51, xk_52, xk_53, xk_54, xk_55, xk_56, xk_57, xk_58, xk_59, xk_60, xk_61, xk_62, xk_63, xk_64, xk_65, xk_66, xk_67, xk_68, xk_69, xk_70, xk_71, xk_72, xk_73, xk_74, xk_75, xk_76, xk_77, xk_78, xk_79, xk_80, xk_81, xk_82, xk_83, xk_84, xk_85, xk_86, xk_87, xk_88, xk_89, xk_90, xk_91, xk_92, xk_93, xk_94, xk_95, xk_96, xk_97, xk_98, xm_0_0 hx, xm_0_10 hx, xm_0_11 hx, xm_0_12 hx, xm_0_13 hx, xm_0_14 hx, xm_0_15 hx, xm_0_2 hx, xm_0_9 hx, xm_40_0 hx, xm_40_1 hx, xm_41_0 hx, xm_44_0 hx, xm_44_1 hx, xm_73_4 hx, xm_73_5 hx, xm_73_6 hx, xm_77_1 hx, xm_77_2 hx, xm_77_3 hx, xm_77_4 hx, xm_77_5 hx, xm_77_6 hx, xm_77_7 hx, xm_77_8 hx, xm_77_9 hx, xm_87_2 hx, xm_87_3 hx, xm_87_4 hx, xm_87_5 hx, xm_87_6 hx, xm_87_7 hx, xm_87_8 hx, ite_self, Bool.false_eq_true, eq_self, isk_t, i20_t, w20_t, l23_t, b21_t, b22_t, w_t, bif_t, bif_f, bif_d, if_pos, if_neg, if_true, if_false, not_true_eq_false, not_false_eq_true, Option.bind_some, Option.toList_some, Option.toList_none, List.cons_append, List.nil_append, Int.toNat_natCast, Int.reduceToNat, up_eq, up_p, up_k, sN,  hy, h3, hbk, c4, hf1 ]
      · have e : sg2 b n p = (sgn (b p), 1) := by unfold sg2; rw [if_neg (fun z => c1 z.1), if_neg (fun z => c1 z.1), if_neg (fun z => c2 z.2)]
        rw [e]
        simp only [if_neg c2] at hf1
        refine ⟨am_up (am_up μ 41 3 ((p : Int) + 1)) 41 4 (sgn (b p)), ft_up (ft_up (ft_rf μ) (by omega)) (by omega), by rw [up_k (by decide), up_eq]; omega, up_eq, by rw [up_k (by decide), up_k (by decide)], ?_⟩
        rw [c4] at hbk ⊢
        simp (disch := omega) only [e66_0, e66_80, e66_97, e66_100, xk_0, xk_1, xk_40, xk_41, xk_42, xk_43, xk_44, xk_45, xk_46, xk_47, xk_48, xk_49, xk_50, xk_51, xk_52, xk_53, xk_54, xk_55, xk_56, xk_57, xk_58, xk_59, xk_60, xk_61, xk_62, xk_63, xk_64, xk_65, xk_66, xk_67, xk_68, xk_69, xk_70, xk_71, xk_72, xk_73, xk_74, xk_75, xk_76, xk_77, xk_78, xk_79, xk_80, xk_81, xk_82, xk_83, xk_84, xk_85, xk_86, xk_87, xk_88, xk_89, xk_90, xk_91, xk_92, xk_93, xk_94, xk_95, xk_96, xk_97, xk_98, xm_0_0 hx, xm_0_10 hx, xm_0_11 hx, xm_0_12 hx, xm_0_13 hx, xm_0_14 hx, xm_0_15 hx, xm_0_2 hx, xm_0_9 hx, xm_40_0 hx, xm_40_1 hx, xm_41_0 hx, xm_44_0 hx, xm_44_1 hx, xm_73_4 hx, xm_73_5 hx, xm_73_6 hx, xm_77_1 hx, xm_77_2 hx, xm_77_3 hx, xm_77_4 hx, xm_77_5 hx, xm_77_6 hx, xm_77_7 hx, xm_77_8 hx, xm_77_9 hx, xm_87_2 hx, xm_87_3 hx, xm_87_4 hx, xm_87_5 hx, xm_87_6 hx, xm_87_7 hx, xm_87_8 hx, ite_self, Bool.false_eq_true, eq_self, isk_t, i20_t, w20_t, l23_t, b21_t, b22_t, w_t, bif_t, bif_f, bif_d, if_pos, if_neg, if_true, if_false, not_true_eq_false, not_false_eq_true, Option.bind_some, Option.toList_some, Option.toList_none, List.cons_append, List.nil_append, Int.toNat_natCast, Int.reduceToNat, up_eq, up_p, up_k, sN,  hy, h3, hbk, hf1, hs ]
    · have e : sg2 b n p = (sgn (b p), 1) := by unfold sg2; rw [if_neg (fun z => c1 z.1), if_neg (fun z => c1 z.1), if_neg (fun z => c4 z.1)]
      rw [e]
      refine ⟨am_up (am_up μ 41 3 ((p : Int) + 1)) 41 4 (sgn (b p)), ft_up (ft_up (ft_rf μ) (by omega)) (by omega), by rw [up_k (by decide), up_eq]; omega, up_eq, by rw [up_k (by decide), up_k (by decide)], ?_⟩
      simp (disch := omega) only [e66_0, e66_97, e66_100, xk_0, xk_1, xk_40, xk_41, xk_42, xk_43, xk_44, xk_45, xk_46, xk_47, xk_48, xk_49, xk_50, xk_51, xk_52, xk_53, xk_54, xk_55, xk_56, xk_57, xk_58, xk_59, xk_60, xk_61, xk_62, xk_63, xk_64, xk_65, xk_66, xk_67, xk_68, xk_69, xk_70, xk_71, xk_72, xk_73, xk_74, xk_75, xk_76, xk_77, xk_78, xk_79, xk_80, xk_81, xk_82, xk_83, xk_84, xk_85, xk_86, xk_87, xk_88, xk_89, xk_90, xk_91, xk_92, xk_93, xk_94, xk_95, xk_96, xk_97, xk_98, xm_0_0 hx, xm_0_10 hx, xm_0_11 hx, xm_0_12 hx, xm_0_13 hx, xm_0_14 hx, xm_0_15 hx, xm_0_2 hx, xm_0_9 hx, xm_40_0 hx, xm_40_1 hx, xm_41_0 hx, xm_44_0 hx, xm_44_1 hx, xm_73_4 hx, xm_73_5 hx, xm_73_6 hx, xm_77_1 hx, xm_77_2 hx, xm_77_3 hx, xm_77_4 hx, xm_77_5 hx, xm_77_6 hx, xm_77_7 hx, xm_77_8 hx, xm_77_9 hx, xm_87_2 hx, xm_87_3 hx, xm_87_4 hx, xm_87_5 hx, xm_87_6 hx, xm_87_7 hx, xm_87_8 hx, ite_self, Bool.false_eq_true, eq_self, isk_t, i20_t, w20_t, l23_t, b21_t, b22_t, w_t, bif_t, bif_f, bif_d, if_pos, if_neg, if_true, if_false, not_true_eq_false, not_false_eq_true, Option.bind_some, Option.toList_some, Option.toList_none, List.cons_append, List.nil_append, Int.toNat_natCast, Int.reduceToNat, up_eq, up_p, up_k, sN,  hy, h3, hbk, c1, c4, hs ]
end XTK
