/-! CALLS that change and can be undone: what is noted, what is kept -/
theorem dd_sh {μ μ' : Nat → Nat → Int} {i j : Nat} {A B : MW} (h : DD μ j A B) (hf : ∀ q, 78 ≤ q → q ≤ 86 → μ' q i = μ q j) : DD μ' i A B := by
  unfold DD at h ⊢
  rw [hf 78 (by omega) (by omega), hf 79 (by omega) (by omega), hf 80 (by omega) (by omega), hf 81 (by omega) (by omega), hf 82 (by omega) (by omega), hf 83 (by omega) (by omega), hf 84 (by omega) (by omega), hf 85 (by omega) (by omega), hf 86 (by omega) (by omega)]
  exact h
theorem dd_mk {μ μ' : Nat → Nat → Int} {w M : Nat} {W W' : MW} {m t : Int} (hW : XW μ w W) (m0 : 0 ≤ m) (m1 : m < 7) (t0 : 0 ≤ t) (t1 : t < 6) (e78 : μ' 78 M = m) (e79 : μ' 79 M = t) (e80 : μ' 80 M = μ (w + 2) m.toNat) (e81 : μ' 81 M = μ (w + 4) (cI m t)) (e82 : μ' 82 M = μ (w + 5) (cI m t)) (e83 : μ' 83 M = μ (w + 6) (cI m t)) (e84 : μ' 84 M = μ (w + 3) t.toNat) (e85 : μ' 85 M = μ (w + 1) t.toNat) (e86 : μ' 86 M = μ w 2)
    (a0 : W 0 0 0 = W' 0 0 0) (a1 : W 1 0 0 = W' 1 0 0) (a3 : W 3 0 0 = W' 3 0 0) (a4 : ∀ t', 0 ≤ t' → t' < 6 → t' ≠ t → W 4 0 t' = W' 4 0 t') (a8 : W 8 m t ≠ -2 → W 8 m t = W' 8 m t ∧ W 9 m t = W' 9 m t) (a5 : ∀ (a : Nat) (p t' : Int), 5 ≤ a → a ≤ 9 → 0 ≤ p → p < 7 → 0 ≤ t' → t' < 6 → ¬ (p = m ∧ t' = t) → W a p t' = W' a p t') : DD μ' M W W' := by
  unfold DD
  rw [e78, e79, e80, e81, e82, e83, e84, e85, e86]
  exact ⟨⟨m0, m1⟩, ⟨t0, t1⟩, ⟨a0, a1, a3, (xw_space hW).symm⟩, ⟨(xw_news hW t0 t1).symm, a4⟩, ⟨hW.2.2.1 m m0 m1, fun t' g0 g1 => (hW.2.2.2 m t' m0 m1 g0 g1).1⟩, ⟨(hW.2.1 t t0 t1).2, fun p g0 g1 => (hW.2.2.2 p t g0 g1 t0 t1).2.1⟩, fun hh => ⟨xw_hats hW m0 m1 t0 t1 hh, xw_since hW m0 m1 t0 t1 hh, xw_from hW m0 m1 t0 t1 hh⟩, a8, a5⟩
theorem und_push {μ μ' : Nat → Nat → Int} {S : MS} {W W' : MW} {N M s : Nat} (h : UND μ S W) (hN : μ 99 48 = (N : Int)) (hs : M + s = N) (hM : M < 20) (hT : ∀ i : Nat, i < M → WR μ' (3 + (i : Int)) = WR μ (3 + ((i + s : Nat) : Int))) (hTM : WR μ' (3 + (M : Int)) = W) (hd : ∀ i : Nat, i < M → ∀ q, 78 ≤ q → q ≤ 86 → μ' q i = μ q (i + s)) (h77 : μ' 77 0 = (M : Int) + 1) (h99 : μ' 99 48 = (M : Int) + 1) (hDD : DD μ' M W W') (hWI : WI S (W 0 0 0) W) (hday : W 0 0 0 ≤ 9800) : UND μ' S W' := by
  obtain ⟨a1, a2, a3, a4⟩ := h
  refine ⟨by rw [h77, h99], by omega, by omega, fun i hi => ?_⟩
  rw [h99] at hi
  by_cases c : i = M
  · subst c
    have en : nxt μ' W' i = W' := by unfold nxt; rw [if_neg (by omega)]
    rw [hTM, en]
    exact ⟨hWI, hday, hDD⟩
  · have g := a4 (i + s) (by omega)
    rw [hT i (by omega)]
    refine ⟨g.1, g.2.1, ?_⟩
    have en : nxt μ' W' i = nxt μ W (i + s) := by
      unfold nxt
      rw [if_pos (by omega)]
      by_cases c2 : i + 1 = M
      · rw [if_neg (by omega)]
        have e : (4 : Int) + (i : Int) = 3 + (M : Int) := by omega
        rw [e, hTM]
      · rw [if_pos (by omega)]
        have e : (4 : Int) + (i : Int) = 3 + ((i + 1 : Nat) : Int) := by omega
        rw [e, hT (i + 1) (by omega)]
        congr 1
        omega
    rw [en]
    exact dd_sh g.2.2 (fun q q0 q1 => hd i (by omega) q q0 q1)
theorem cp1_at {f : Nat → Nat → Int} {a b q j : Nat} : am_cp f a b 1 0 19 q j = if q = b ∧ j < 19 then f a (j + 1) else f q j := by
  unfold am_cp
  by_cases c : q = b ∧ j < 19
  · rw [if_pos c, if_pos (by omega), show 1 + (j - 0) = j + 1 by omega]
  · rw [if_neg c, if_neg (by omega)]
theorem cp1_in {f : Nat → Nat → Int} {a b j : Nat} (h : j < 19) : am_cp f a b 1 0 19 b j = f a (j + 1) := by rw [cp1_at]; exact if_pos ⟨rfl, h⟩
theorem cp1_out {f : Nat → Nat → Int} {a b q j : Nat} (h : q ≠ b) : am_cp f a b 1 0 19 q j = f q j := by rw [cp1_at]; exact if_neg (fun g => h g.1)
theorem cpk_1 : am_cpk (20, 20) (20, 20) 1 0 19 = true := rfl
section CD
variable {ρ ρ' : Nat → Nat → Nat} {μ μ' : Nat → Nat → Int} {cs : Nat × Nat × Nat} {d b w u : Nat} {S : MS} {W V : MW} {C : MC}
theorem X_note_end (hx : XM ρ) (hw : w = 46 ∨ w = 55 ∨ w = 64) {p t : Int} (p0 : 0 ≤ p) (p1 : p < 7) (t0 : 0 ≤ t) (t1 : t < 6) {M : Nat} (hM : M < 20) (h77 : μ 77 0 = (M : Int)) : ∃ μ', (∀ q k, ¬ (q = 77 ∧ k = 0) → ¬ (78 ≤ q ∧ q ≤ 86 ∧ k = M) → μ' q k = μ q k) ∧ μ' 77 0 = (M : Int) + 1 ∧ (μ' 78 M = p ∧ μ' 79 M = t ∧ μ' 80 M = μ (w + 2) p.toNat ∧ μ' 81 M = μ (w + 4) (cI p t) ∧ μ' 82 M = μ (w + 5) (cI p t) ∧ μ' 83 M = μ (w + 6) (cI p t) ∧ μ' 84 M = μ (w + 3) t.toNat ∧ μ' 85 M = μ (w + 1) t.toNat ∧ μ' 86 M = μ w 2) ∧ am_E (d + 1) 17 13 [some (.inr (.inr 77)), some (.inr (.inr w)), some (.inl p), some (.inl t), none] [] (SH, ρ, μ, cs) = some (none, (SH, ρ, μ', cs)) := by
  refine ⟨am_up (am_up (am_up (am_up (am_up (am_up (am_up (am_up (am_up (am_up μ 78 M p) 79 M t) 80 M (μ (w + 2) p.toNat)) 81 M (μ (w + 4) (cI p t))) 82 M (μ (w + 5) (cI p t))) 83 M (μ (w + 6) (cI p t))) 84 M (μ (w + 3) t.toNat)) 85 M (μ (w + 1) t.toNat)) 86 M (μ w 2)) 77 0 ((M : Int) + 1), fun q k h0 h1 => ?_, up_eq, ⟨?_, ?_, ?_, ?_, ?_, ?_, ?_, ?_, ?_⟩, ?_⟩
  · repeat rw [am_up_no (by omega)]
  · simp (disch := omega) only [up_eq, up_p]
  · simp (disch := omega) only [up_eq, up_p]
  · simp (disch := omega) only [up_eq, up_p]
  · simp (disch := omega) only [up_eq, up_p]
  · simp (disch := omega) only [up_eq, up_p]
  · simp (disch := omega) only [up_eq, up_p]
  · simp (disch := omega) only [up_eq, up_p]
  · simp (disch := omega) only [up_eq, up_p]
  · simp (disch := omega) only [up_eq, up_p]
  · simp (disch := omega) only [e17_13, e17_18, e17_87, e17_156, xk_0, xk_1, xk_40, xk_41, xk_42, xk_43, xk_44, xk_45, xk_46, xk_47, xk_48, xk_49, xk_50, xk_51, xk_52, xk_53, xk_54, xk_55, xk_56, xk_57, xk_58, xk_59, xk_60, xk_61, xk_62, xk_63, xk_64, xk_65, xk_66, xk_67, xk_68, xk_69, xk_70, xk_71, xk_72, xk_73, xk_74, xk_75, xk_76, xk_77, xk_78, xk_79, xk_80, xk_81, xk_82, xk_83, xk_84, xk_85, xk_86, xk_87, xk_88, xk_89, xk_90, xk_91, xk_92, xk_93, xk_94, xk_95, xk_96, xk_97, xk_98, xk_wd0 hw, xk_wd1 hw, xk_wd2 hw, xk_wd3 hw, xk_wd4 hw, xk_wd5 hw, xk_wd6 hw, xk_wd7 hw, xk_wd8 hw, xm_0_0 hx, xm_0_10 hx, xm_0_11 hx, xm_0_12 hx, xm_0_13 hx, xm_0_14 hx, xm_0_15 hx, xm_0_2 hx, xm_0_9 hx, xm_40_0 hx, xm_40_1 hx, xm_41_0 hx, xm_44_0 hx, xm_44_1 hx, xm_73_4 hx, xm_73_5 hx, xm_73_6 hx, xm_77_1 hx, xm_77_2 hx, xm_77_3 hx, xm_77_4 hx, xm_77_5 hx, xm_77_6 hx, xm_77_7 hx, xm_77_8 hx, xm_77_9 hx, xm_87_2 hx, xm_87_3 hx, xm_87_4 hx, xm_87_5 hx, xm_87_6 hx, xm_87_7 hx, xm_87_8 hx, xm_wd10 hx hw, xm_wd11 hx hw, xm_wd4 hx hw, xm_wd5 hx hw, xm_wd6 hx hw, xm_wd7 hx hw, xm_wd8 hx hw, xm_wd9 hx hw, ite_self, Bool.false_eq_true, eq_self, isk_t, i20_t, w20_t, l23_t, b21_t, b22_t, w_t, bif_t, bif_f, bif_d, if_pos, if_neg, if_true, if_false, not_true_eq_false, not_false_eq_true, Option.bind_some, Option.toList_some, Option.toList_none, List.cons_append, List.nil_append, Int.toNat_natCast, Int.reduceToNat, up_eq, up_p, up_k, sN,  X_cell, i20_c, h77 ]
theorem X_note (hx : XM ρ) (hw : w = 46 ∨ w = 55 ∨ w = 64) {p t : Int} (p0 : 0 ≤ p) (p1 : p < 7) (t0 : 0 ≤ t) (t1 : t < 6) {N : Nat} (hN : N ≤ 20) (h77 : μ 77 0 = (N : Int)) : ∃ μ' M s, M + s = N ∧ M < 20 ∧ (s = 1 ∧ N = 20 ∨ s = 0 ∧ N < 20) ∧ (∀ q k, ¬ (77 ≤ q ∧ q ≤ 86) → μ' q k = μ q k) ∧ (∀ i, i < M → ∀ q, 78 ≤ q → q ≤ 86 → μ' q i = μ q (i + s)) ∧ μ' 77 0 = (M : Int) + 1 ∧ (μ' 78 M = p ∧ μ' 79 M = t ∧ μ' 80 M = μ (w + 2) p.toNat ∧ μ' 81 M = μ (w + 4) (cI p t) ∧ μ' 82 M = μ (w + 5) (cI p t) ∧ μ' 83 M = μ (w + 6) (cI p t) ∧ μ' 84 M = μ (w + 3) t.toNat ∧ μ' 85 M = μ (w + 1) t.toNat ∧ μ' 86 M = μ w 2) ∧ am_E (d + 2) 17 0 [some (.inr (.inr 77)), some (.inr (.inr w)), some (.inl p), some (.inl t), none] [] (SH, ρ, μ, cs) = some (none, (SH, ρ, μ', cs)) := by
  by_cases c : N < 20
  · obtain ⟨μ1, g1, g2, g3, g4⟩ := X_note_end (ρ := ρ) (μ := μ) (cs := cs) (d := d + 1) hx hw p0 p1 t0 t1 c h77
    refine ⟨μ1, N, 0, rfl, c, Or.inr ⟨rfl, c⟩, fun q k hq => g1 q k (by omega) (by omega), fun i hi q q0 q1 => g1 q i (by omega) (by omega), g2, g3, ?_⟩
    rw [← g4]
    simp (disch := omega) only [e17_0, xk_0, xk_1, xk_40, xk_41, xk_42, xk_43, xk_44, xk_45, xk_46, xk_47, xk_48, xk_49, xk_50, xk_51, xk_52, xk_53, xk_54, xk_55, xk_56, xk_57, xk_58, xk_59, xk_60, xk_61, xk_62, xk_63, xk_64, xk_65, xk_66, xk_67, xk_68, xk_69, xk_70, xk_71, xk_72, xk_73, xk_74, xk_75, xk_76, xk_77, xk_78, xk_79, xk_80, xk_81, xk_82, xk_83, xk_84, xk_85, xk_86, xk_87, xk_88, xk_89, xk_90, xk_91, xk_92, xk_93, xk_94, xk_95, xk_96, xk_97, xk_98, xk_wd0 hw, xk_wd1 hw, xk_wd2 hw, xk_wd3 hw, xk_wd4 hw, xk_wd5 hw, xk_wd6 hw, xk_wd7 hw, xk_wd8 hw, xm_0_0 hx, xm_0_10 hx, xm_0_11 hx, xm_0_12 hx, xm_0_13 hx, xm_0_14 hx, xm_0_15 hx, xm_0_2 hx, xm_0_9 hx, xm_40_0 hx, xm_40_1 hx, xm_41_0 hx, xm_44_0 hx, xm_44_1 hx, xm_73_4 hx, xm_73_5 hx, xm_73_6 hx, xm_77_1 hx, xm_77_2 hx, xm_77_3 hx, xm_77_4 hx, xm_77_5 hx, xm_77_6 hx, xm_77_7 hx, xm_77_8 hx, xm_77_9 hx, xm_87_2 hx, xm_87_3 hx, xm_87_4 hx, xm_87_5 hx, xm_87_6 hx, xm_87_7 hx, xm_87_8 hx, xm_wd10 hx hw, xm_wd11 hx hw, xm_wd4 hx hw, xm_wd5 hx hw, xm_wd6 hx hw, xm_wd7 hx hw, xm_wd8 hx hw, xm_wd9 hx hw, ite_self, Bool.false_eq_true, eq_self, isk_t, i20_t, w20_t, l23_t, b21_t, b22_t, w_t, bif_t, bif_f, bif_d, if_pos, if_neg, if_true, if_false, not_true_eq_false, not_false_eq_true, Option.bind_some, Option.toList_some, Option.toList_none, List.cons_append, List.nil_append, Int.toNat_natCast, Int.reduceToNat, up_eq, up_p, up_k, sN,  h77 ]
  · have e : N = 20 := by omega
    subst e
    generalize hμs : am_up (am_cp (am_cp (am_cp (am_cp (am_cp (am_cp (am_cp (am_cp (am_cp μ 78 78 1 0 19) 79 79 1 0 19) 80 80 1 0 19) 81 81 1 0 19) 82 82 1 0 19) 83 83 1 0 19) 84 84 1 0 19) 85 85 1 0 19) 86 86 1 0 19) 77 0 19 = μs
    have fs : ∀ q k, ¬ (77 ≤ q ∧ q ≤ 86) → μs q k = μ q k := fun q k hq => by
      rw [← hμs]
      simp (disch := omega) only [up_p, cp1_out]
    have s77 : μs 77 0 = ((19 : Nat) : Int) := by rw [← hμs, up_eq]; rfl
    obtain ⟨μ1, g1, g2, g3, g4⟩ := X_note_end (ρ := ρ) (μ := μs) (cs := cs) (d := d + 1) (M := 19) hx hw p0 p1 t0 t1 (by omega) s77
    rw [fs _ _ (by omega), fs _ _ (by omega), fs _ _ (by omega), fs _ _ (by omega), fs _ _ (by omega), fs _ _ (by omega), fs _ _ (by omega)] at g3
    refine ⟨μ1, 19, 1, rfl, by omega, Or.inl ⟨rfl, rfl⟩, fun q k hq => by rw [g1 q k (by omega) (by omega), fs q k hq], fun i hi q q0 q1 => ?_, g2, g3, ?_⟩
    · rw [g1 q i (by omega) (by omega), ← hμs, up_p (by omega)]
      rcases (show q = 78 ∨ q = 79 ∨ q = 80 ∨ q = 81 ∨ q = 82 ∨ q = 83 ∨ q = 84 ∨ q = 85 ∨ q = 86 by omega) with rfl | rfl | rfl | rfl | rfl | rfl | rfl | rfl | rfl <;> simp (disch := omega) only [cp1_in, cp1_out]
    · rw [← g4]
      have h20 : μ 77 0 = 20 := h77
      have e19 : (19 : Int).toNat = 19 := rfl
      simp (disch := omega) only [e17_0, e18_0, e18_73, e18_134, xk_0, xk_1, xk_40, xk_41, xk_42, xk_43, xk_44, xk_45, xk_46, xk_47, xk_48, xk_49, xk_50, xk_51, xk_52, xk_53, xk_54, xk_55, xk_56, xk_57, xk_58, xk_59, xk_60, xk_61, xk_62, xk_63, xk_64, xk_65, xk_66, xk_67, xk_68, xk_69, xk_70, xk_71, xk_72, xk_73, xk_74, xk_75, xk_76, xk_77, xk_78, xk_79, xk_80, xk_81, xk_82, xk_83, xk_84, xk_85, xk_86, xk_87, xk_88, xk_89, xk_90, xk_91, xk_92, xk_93, xk_94, xk_95, xk_96, xk_97, xk_98, xk_wd0 hw, xk_wd1 hw, xk_wd2 hw, xk_wd3 hw, xk_wd4 hw, xk_wd5 hw, xk_wd6 hw, xk_wd7 hw, xk_wd8 hw, xm_0_0 hx, xm_0_10 hx, xm_0_11 hx, xm_0_12 hx, xm_0_13 hx, xm_0_14 hx, xm_0_15 hx, xm_0_2 hx, xm_0_9 hx, xm_40_0 hx, xm_40_1 hx, xm_41_0 hx, xm_44_0 hx, xm_44_1 hx, xm_73_4 hx, xm_73_5 hx, xm_73_6 hx, xm_77_1 hx, xm_77_2 hx, xm_77_3 hx, xm_77_4 hx, xm_77_5 hx, xm_77_6 hx, xm_77_7 hx, xm_77_8 hx, xm_77_9 hx, xm_87_2 hx, xm_87_3 hx, xm_87_4 hx, xm_87_5 hx, xm_87_6 hx, xm_87_7 hx, xm_87_8 hx, xm_wd10 hx hw, xm_wd11 hx hw, xm_wd4 hx hw, xm_wd5 hx hw, xm_wd6 hx hw, xm_wd7 hx hw, xm_wd8 hx hw, xm_wd9 hx hw, ite_self, Bool.false_eq_true, eq_self, isk_t, i20_t, w20_t, l23_t, b21_t, b22_t, w_t, bif_t, bif_f, bif_d, if_pos, if_neg, if_true, if_false, not_true_eq_false, not_false_eq_true, Option.bind_some, Option.toList_some, Option.toList_none, List.cons_append, List.nil_append, Int.toNat_natCast, Int.reduceToNat, up_eq, up_p, up_k, sN,  h20, cpk_1, e19, hμs ]
theorem R_shift (hρ : RM ρ) : ∀ (j k : Nat) (μ : Nat → Nat → Int), 1 ≤ k → k + j = 20 → ∃ μ', (∀ q i, ¬ ((121 ≤ q ∧ q ≤ 124 ∧ 3 ≤ i) ∨ (q = 130 ∧ 18 ≤ i) ∨ (125 ≤ q ∧ q ≤ 129 ∧ 126 ≤ i)) → ¬ FrS q i → μ' q i = μ q i) ∧ (∀ i : Nat, i + 1 < k → WR μ' (3 + (i : Int)) = WR μ (3 + (i : Int))) ∧ (∀ i : Nat, k ≤ i + 1 → i < 19 → WR μ' (3 + (i : Int)) = WR μ (4 + (i : Int))) ∧ am_E (d + 1) 214 11 [some (.inr (.inr 99)), some (.inl (k : Int))] [] (SH, ρ, μ, cs) = am_E (d + 1) 214 11 [some (.inr (.inr 99)), some (.inl 20)] [] (SH, ρ, μ', cs) := by
  intro j
  induction j with
  | zero =>
    intro k μ h1 h
    have e : k = 20 := by omega
    subst e
    exact ⟨μ, fun _ _ _ _ => rfl, fun _ _ => rfl, fun i g0 g1 => by omega, rfl⟩
  | succ j ih =>
    intro k μ h1 h
    obtain ⟨μ1, g1, g2, g3⟩ := R_copies (ρ := ρ) (μ := μ) (cs := cs) (d := d) (s := 2 + (k : Int)) (s' := 3 + (k : Int)) hρ (by omega) (by omega) (by omega) (by omega) (by omega)
    obtain ⟨μ2, k1, k2, k3, k4⟩ := ih (k + 1) μ1 (by omega) (by omega)
    refine ⟨μ2, fun q i hq hs => by rw [k1 q i hq hs, g1 q i (by omega) hs], fun i hi => ?_, fun i g0 gi => ?_, ?_⟩
    · rw [k2 i (by omega), frw_WR g1 (by omega) (by omega) (by omega)]
    · by_cases c : i + 1 = k
      · rw [k2 i (by omega)]
        have e1 : (3 : Int) + (i : Int) = 2 + (k : Int) := by omega
        have e2 : (4 : Int) + (i : Int) = 3 + (k : Int) := by omega
        rw [e1, e2, g2]
      · rw [k3 i (by omega) gi, frw_WR g1 (by omega) (by omega) (by omega)]
    · have e2 : ((k + 1 : Nat) : Int) = (k : Int) + 1 := by omega
      rw [e2] at k4
      rw [← k4]
      have e3 : 3 + (k : Int) - 1 = 2 + (k : Int) := by omega
      rw [e214_11]; simp (disch := (first | omega | (simp (disch := omega) only [sr_up, wr_up_o]; omega))) only [e214_29, ks_99, ite_self, Bool.false_eq_true, eq_self, isk_t, i20_t, w20_t, l23_t, b21_t, b22_t, w_t, bif_t, bif_f, bif_d, if_pos, if_neg, if_true, if_false, not_true_eq_false, not_false_eq_true, Option.bind_some, Option.toList_some, Option.toList_none, List.cons_append, List.nil_append, Int.toNat_natCast, Int.reduceToNat, up_eq, up_p, up_k, sN,  e3, g3 ]
theorem R_keepNow (hρ : RM ρ) {N : Nat} (hN : N ≤ 20) (h48 : μ 99 48 = (N : Int)) : ∃ μ' M s, M + s = N ∧ M < 20 ∧ (s = 1 ∧ N = 20 ∨ s = 0 ∧ N < 20) ∧ (∀ q i, ¬ ((121 ≤ q ∧ q ≤ 124 ∧ 3 ≤ i) ∨ (q = 130 ∧ 18 ≤ i) ∨ (125 ≤ q ∧ q ≤ 129 ∧ 126 ≤ i)) → ¬ FrS q i → ¬ (q = 99 ∧ i = 48) → μ' q i = μ q i) ∧ (∀ i : Nat, i < M → WR μ' (3 + (i : Int)) = WR μ (3 + ((i + s : Nat) : Int))) ∧ WR μ' (3 + (M : Int)) = WR μ 0 ∧ μ' 99 48 = (M : Int) + 1 ∧ am_E (d + 1) 214 0 [some (.inr (.inr 99)), none] [] (SH, ρ, μ, cs) = some (none, (SH, ρ, μ', cs)) := by
  by_cases c : N < 20
  · obtain ⟨μ1, g1, g2, g3⟩ := R_copies (ρ := ρ) (μ := μ) (cs := cs) (d := d) (s := 3 + (N : Int)) (s' := 0) hρ (by omega) (by omega) (by omega) (by omega) (by omega)
    have z48 : μ1 99 48 = (N : Int) := by rw [g1 99 48 (by omega) (by omega)]; exact h48
    refine ⟨am_up μ1 99 48 ((N : Int) + 1), N, 0, rfl, c, Or.inr ⟨rfl, c⟩, fun q i h0 h1 h2 => by rw [am_up_no h2, g1 q i (by omega) h1], fun i hi => ?_, ?_, up_eq, ?_⟩
    · rw [wr_up_o (by omega), frw_WR g1 (by omega) (by omega) (by omega)]
      all_goals rfl
    · rw [wr_up_o (by omega)]; exact g2
    · simp (disch := (first | omega | (simp (disch := omega) only [sr_up, wr_up_o]; omega))) only [e214_0, e214_56, ks_99, ite_self, Bool.false_eq_true, eq_self, isk_t, i20_t, w20_t, l23_t, b21_t, b22_t, w_t, bif_t, bif_f, bif_d, if_pos, if_neg, if_true, if_false, not_true_eq_false, not_false_eq_true, Option.bind_some, Option.toList_some, Option.toList_none, List.cons_append, List.nil_append, Int.toNat_natCast, Int.reduceToNat, up_eq, up_p, up_k, sN,  h48, g3, z48 ]
  · have e : N = 20 := by omega
    subst e
    obtain ⟨μ1, s1, s2, s3, s4⟩ := R_shift (ρ := ρ) (cs := cs) (d := d) hρ 19 1 μ (by omega) rfl
    have y48 : μ1 99 48 = 20 := by rw [s1 99 48 (by omega) (by omega)]; exact h48
    obtain ⟨μ2, g1, g2, g3⟩ := R_copies (ρ := ρ) (μ := am_up μ1 99 48 19) (cs := cs) (d := d) (s := 22) (s' := 0) hρ (by omega) (by omega) (by omega) (by omega) (by omega)
    have z48 : μ2 99 48 = 19 := by rw [g1 99 48 (by omega) (by omega), up_eq]
    refine ⟨am_up μ2 99 48 20, 19, 1, rfl, by omega, Or.inl ⟨rfl, rfl⟩, fun q i h0 h1 h2 => by rw [am_up_no h2, g1 q i (by omega) h1, am_up_no h2, s1 q i h0 h1], fun i hi => ?_, ?_, up_eq, ?_⟩
    · rw [wr_up_o (by omega), frw_WR g1 (by omega) (by omega) (by omega), wr_up_o (by omega), s3 i (by omega) hi]
      congr 1
      omega
    · have e2 : (3 : Int) + ((19 : Nat) : Int) = 22 := rfl
      rw [e2, wr_up_o (by omega), g2, wr_up_o (by omega)]
      exact WR_s (by omega) (fun q k hq => s1 q k (by omega) (by omega))
    · have e1 : am_E (d + 1) 214 0 [some (.inr (.inr 99)), none] [] (SH, ρ, μ, cs) = am_E (d + 1) 214 11 [some (.inr (.inr 99)), some (.inl 20)] [] (SH, ρ, μ1, cs) := by
        have h20 : μ 99 48 = 20 := h48
        have s4' : am_E (d + 1) 214 11 [some (.inr (.inr 99)), some (.inl 1)] [] (SH, ρ, μ, cs) = am_E (d + 1) 214 11 [some (.inr (.inr 99)), some (.inl 20)] [] (SH, ρ, μ1, cs) := s4
        rw [← s4']
        simp (disch := (first | omega | (simp (disch := omega) only [sr_up, wr_up_o]; omega))) only [e214_0, ks_99, ite_self, Bool.false_eq_true, eq_self, isk_t, i20_t, w20_t, l23_t, b21_t, b22_t, w_t, bif_t, bif_f, bif_d, if_pos, if_neg, if_true, if_false, not_true_eq_false, not_false_eq_true, Option.bind_some, Option.toList_some, Option.toList_none, List.cons_append, List.nil_append, Int.toNat_natCast, Int.reduceToNat, up_eq, up_p, up_k, sN,  h20 ]
      rw [e1, e214_11]
      have e56 := e214_56
      simp (disch := omega) only [bif_d, if_pos, ks_99, isk_t, bif_t, y48, w_t, up_eq, Int.reduceSub, Int.reduceAdd, g3, Option.bind_some, Option.toList_none, List.nil_append]
      refine am_E_le (am_lq_of [some (.inr (.inr 99)), none] _ (by simp [am_leb])) ?_
      simp (disch := (first | omega | (simp (disch := omega) only [sr_up, wr_up_o]; omega))) only [e214_56, ks_99, ite_self, Bool.false_eq_true, eq_self, isk_t, i20_t, w20_t, l23_t, b21_t, b22_t, w_t, bif_t, bif_f, bif_d, if_pos, if_neg, if_true, if_false, not_true_eq_false, not_false_eq_true, Option.bind_some, Option.toList_some, Option.toList_none, List.cons_append, List.nil_append, Int.toNat_natCast, Int.reduceToNat, up_eq, up_p, up_k, sN,  z48, Int.reduceAdd ]
end CD
