/-! THE CLASS: what is seen, ways, tells: a whole day -/
def seeM (S : MS) (t : Int) : Nat → Int → MW → MW
  | 0, _, W => W
  | n + 1, p, W => seeM S t n (p + 1) (if seeB S p t (S 0 2).toNat 0 = true then seeStep S W p t else W)
def seeO (S : MS) (C : MC) : Nat → Int → MW → MW
  | 0, _, W => W
  | n + 1, t, W => seeO S C n (t + 1) (if S 4 t = W 0 0 0 ∧ C.2.2.2.2.2 t = true then seeM S t (men S) 0 W else W)
theorem seeM_Q {S : MS} {W : MW} {t : Int} (h5 : S 5 t ≠ -1) : ∀ (n : Nat) (p : Int) (Q : Int → Int → Bool), seeM S t n p (seeQ S W Q) = seeQ S W (fun p' t' => Q p' t' || (decide (t' = t ∧ p ≤ p' ∧ p' < p + n) && seeB S p' t (S 0 2).toNat 0))
  | 0, p, Q => by
    show seeQ S W Q = _
    refine congrArg (seeQ S W) ?_
    funext p' t'
    have : ¬ (t' = t ∧ p ≤ p' ∧ p' < p + ((0 : Nat) : Int)) := by omega
    rw [decide_eq_false this]
    simp
  | n + 1, p, Q => by
    show seeM S t n (p + 1) (if seeB S p t (S 0 2).toNat 0 = true then seeStep S (seeQ S W Q) p t else seeQ S W Q) = _
    by_cases q : seeB S p t (S 0 2).toNat 0 = true
    · rw [if_pos q, seeQ_step h5, seeM_Q h5 n (p + 1)]
      refine congrArg (seeQ S W) ?_
      funext p' t'
      by_cases c1 : t' = t
      · by_cases c2 : p' = p
        · subst c1 c2
          have c3 : (t' = t' ∧ p' ≤ p' ∧ p' < p' + ((n + 1 : Nat) : Int)) := by omega
          have c4 : ¬ (t' = t' ∧ p' + 1 ≤ p' ∧ p' < p' + 1 + (n : Int)) := by omega
          rw [decide_eq_true c3, decide_eq_false c4, q]
          simp
        · have c3 : (t' = t ∧ p + 1 ≤ p' ∧ p' < p + 1 + (n : Int)) ↔ (t' = t ∧ p ≤ p' ∧ p' < p + ((n + 1 : Nat) : Int)) := by omega
          rw [(show decide (t' = t ∧ p + 1 ≤ p' ∧ p' < p + 1 + (n : Int)) = decide (t' = t ∧ p ≤ p' ∧ p' < p + ((n + 1 : Nat) : Int)) from decide_eq_decide.mpr c3), decide_eq_false (fun g => c2 g.1)]
          simp
      · rw [decide_eq_false (fun g => c1 g.2), decide_eq_false (fun g => c1 g.1), decide_eq_false (fun g => c1 g.1)]
        simp
    · rw [if_neg q, seeM_Q h5 n (p + 1)]
      refine congrArg (seeQ S W) ?_
      funext p' t'
      have q' : seeB S p t (S 0 2).toNat 0 = false := by simpa using q
      by_cases c2 : p' = p
      · subst c2
        rw [q']
        simp
      · have c3 : (t' = t ∧ p + 1 ≤ p' ∧ p' < p + 1 + (n : Int)) ↔ (t' = t ∧ p ≤ p' ∧ p' < p + ((n + 1 : Nat) : Int)) := by omega
        rw [(show decide (t' = t ∧ p + 1 ≤ p' ∧ p' < p + 1 + (n : Int)) = decide (t' = t ∧ p ≤ p' ∧ p' < p + ((n + 1 : Nat) : Int)) from decide_eq_decide.mpr c3)]
theorem seeO_Q {S : MS} {C : MC} {W : MW} (hS : SI S) : ∀ (n : Nat) (t : Int) (Q : Int → Int → Bool), 0 ≤ t → t + n = S 0 1 → seeO S C n t (seeQ S W Q) = seeQ S W (fun p' t' => Q p' t' || (decide (t ≤ t' ∧ t' < S 0 1 ∧ 0 ≤ p' ∧ p' < S 0 0 ∧ C.2.2.2.2.2 t' = true) && seeB S p' t' (S 0 2).toNat 0))
  | 0, t, Q, h0, h1 => by
    show seeQ S W Q = _
    refine congrArg (seeQ S W) ?_
    funext p t'
    have : ¬ (t ≤ t' ∧ t' < S 0 1 ∧ 0 ≤ p ∧ p < S 0 0 ∧ C.2.2.2.2.2 t' = true) := by omega
    simp [this]
  | n + 1, t, Q, h0, h1 => by
    show seeO S C n (t + 1) (if S 4 t = seeQ S W Q 0 0 0 ∧ C.2.2.2.2.2 t = true then seeM S t (men S) 0 (seeQ S W Q) else seeQ S W Q) = _
    have h5 := hS.2.2.2.2.2.2.2.2.2.2.2.1 t h0 (by omega)
    have b0 := hS.1
    have hm : (0 : Int) + (men S : Int) = S 0 0 := by unfold men; omega
    rw [seeQ_00 (a := 0) (by omega)]
    by_cases q : S 4 t = W 0 0 0 ∧ C.2.2.2.2.2 t = true
    · rw [if_pos q, seeM_Q (by omega), seeO_Q hS n (t + 1) _ (by omega) (by omega)]
      refine congrArg (seeQ S W) ?_
      funext p t'
      rw [hm]
      by_cases c1 : t' = t
      · subst c1
        have c2 : ¬ (t' + 1 ≤ t' ∧ t' < S 0 1 ∧ 0 ≤ p ∧ p < S 0 0 ∧ C.2.2.2.2.2 t' = true) := by omega
        have c3 : (t' = t' ∧ 0 ≤ p ∧ p < S 0 0) ↔ (t' ≤ t' ∧ t' < S 0 1 ∧ 0 ≤ p ∧ p < S 0 0 ∧ C.2.2.2.2.2 t' = true) := by
          constructor
          · rintro ⟨_, g1, g2⟩
            exact ⟨by omega, by omega, g1, g2, q.2⟩
          · rintro ⟨_, _, g1, g2, _⟩
            exact ⟨rfl, g1, g2⟩
        rw [decide_eq_false c2, (show decide (t' = t' ∧ 0 ≤ p ∧ p < S 0 0) = decide (t' ≤ t' ∧ t' < S 0 1 ∧ 0 ≤ p ∧ p < S 0 0 ∧ C.2.2.2.2.2 t' = true) from decide_eq_decide.mpr c3)]
        simp
      · have c2 : (t + 1 ≤ t' ∧ t' < S 0 1 ∧ 0 ≤ p ∧ p < S 0 0 ∧ C.2.2.2.2.2 t' = true) ↔ (t ≤ t' ∧ t' < S 0 1 ∧ 0 ≤ p ∧ p < S 0 0 ∧ C.2.2.2.2.2 t' = true) := by
          constructor
          · rintro ⟨g0, g1⟩; exact ⟨by omega, g1⟩
          · rintro ⟨g0, g1⟩; exact ⟨by omega, g1⟩
        rw [decide_eq_false (fun g => c1 g.1), (show decide (t + 1 ≤ t' ∧ t' < S 0 1 ∧ 0 ≤ p ∧ p < S 0 0 ∧ C.2.2.2.2.2 t' = true) = decide (t ≤ t' ∧ t' < S 0 1 ∧ 0 ≤ p ∧ p < S 0 0 ∧ C.2.2.2.2.2 t' = true) from decide_eq_decide.mpr c2)]
        simp
    · rw [if_neg q, seeO_Q hS n (t + 1) _ (by omega) (by omega)]
      refine seeQ_congr (fun p t' _ hd => ?_)
      by_cases c1 : t' = t
      · subst c1
        have c2 : ¬ (t' + 1 ≤ t' ∧ t' < S 0 1 ∧ 0 ≤ p ∧ p < S 0 0 ∧ C.2.2.2.2.2 t' = true) := by omega
        have c3 : ¬ (t' ≤ t' ∧ t' < S 0 1 ∧ 0 ≤ p ∧ p < S 0 0 ∧ C.2.2.2.2.2 t' = true) := fun g => q ⟨hd, g.2.2.2.2⟩
        rw [decide_eq_false c2, decide_eq_false c3]
      · have c2 : (t + 1 ≤ t' ∧ t' < S 0 1 ∧ 0 ≤ p ∧ p < S 0 0 ∧ C.2.2.2.2.2 t' = true) ↔ (t ≤ t' ∧ t' < S 0 1 ∧ 0 ≤ p ∧ p < S 0 0 ∧ C.2.2.2.2.2 t' = true) := by
          constructor
          · rintro ⟨g0, g1⟩; exact ⟨by omega, g1⟩
          · rintro ⟨g0, g1⟩; exact ⟨by omega, g1⟩
        rw [(show decide (t + 1 ≤ t' ∧ t' < S 0 1 ∧ 0 ≤ p ∧ p < S 0 0 ∧ C.2.2.2.2.2 t' = true) = decide (t ≤ t' ∧ t' < S 0 1 ∧ 0 ≤ p ∧ p < S 0 0 ∧ C.2.2.2.2.2 t' = true) from decide_eq_decide.mpr c2)]
theorem seeO_W {S : MS} {C : MC} {W : MW} (hS : SI S) : seeO S C (S 0 1).toNat 0 W = seeW S C W := by
  have e : W = seeQ S W (fun _ _ => false) := (seeQ_no (fun p t g => by cases g)).symm
  have b1 := hS.2.1
  have b0 := hS.1
  have e2 : seeO S C (S 0 1).toNat 0 W = seeO S C (S 0 1).toNat 0 (seeQ S W (fun _ _ => false)) := congrArg _ e
  rw [e2, seeO_Q hS _ 0 _ (Int.le_refl _) (by omega), seeW_Q]
  refine congrArg (seeQ S W) ?_
  funext p t
  unfold seeAll
  by_cases c : seeB S p t (S 0 2).toNat 0 = true
  · obtain ⟨j, h6, h7, h8⟩ := (seeB_iff _ _).mp c
    have h9 := hS.2.2.1
    have h10 := hS.2.2.2.2.2.2.2.2.2.2.2.2.1 (0 + j) (by omega) (by omega)
    rw [h7, h8] at h10
    have c2 : (0 ≤ t ∧ t < S 0 1 ∧ 0 ≤ p ∧ p < S 0 0 ∧ C.2.2.2.2.2 t = true) ↔ (0 ≤ p ∧ p < 7 ∧ 0 ≤ t ∧ t < S 0 1 ∧ C.2.2.2.2.2 t = true) := by
      constructor
      · rintro ⟨g1, g2, g3, g4, g5⟩; exact ⟨g3, by omega, g1, g2, g5⟩
      · rintro ⟨g1, g2, g3, g4, g5⟩; exact ⟨g3, g4, g1, by omega, g5⟩
    rw [(show decide (0 ≤ t ∧ t < S 0 1 ∧ 0 ≤ p ∧ p < S 0 0 ∧ C.2.2.2.2.2 t = true) = decide (0 ≤ p ∧ p < 7 ∧ 0 ≤ t ∧ t < S 0 1 ∧ C.2.2.2.2.2 t = true) from decide_eq_decide.mpr c2)]
    simp
  · have c' : seeB S p t (S 0 2).toNat 0 = false := by simpa using c
    simp [c']
theorem and_not : ∀ a : Nat, a < 64 → ∀ b : Nat, b < 64 → am_and (a : Int) (am_xor (b : Int) (-1)) = ((a &&& (63 ^^^ b) : Nat) : Int) := by decide +kernel
theorem wayL_id {S : MS} {C : MC} {w : Int} {W : MW} : ∀ (n : Nat) (t : Int), (∀ t', t ≤ t' → t' < t + n → wayB S C w W t' = false) → wayL S C w n t W = W
  | 0, _, _ => rfl
  | n + 1, t, h => by
    show wayL S C w n (t + 1) (wayT S C w W t) = W
    have e : wayT S C w W t = W := by unfold wayT; rw [if_pos (h t (by omega) (by omega))]
    rw [e]
    exact wayL_id n (t + 1) (fun t' h0 h1 => h t' (by omega) (by omega))
section XD2
variable {ρ : Nat → Nat → Nat} {cs : Nat × Nat × Nat} {d b w : Nat} {S : MS} {C : MC} {D : Int}
theorem X_see_in (hx : XM ρ) (hb : b = 2 ∨ b = 21) (hw : w = 46 ∨ w = 55 ∨ w = 64) (hst : ρ 73 0 = b) (hwd : ρ 73 1 = w) (hS : SI S) {t : Int} (t0 : 0 ≤ t) (t1 : t < S 0 1) : ∀ (j : Nat) (p : Int) (W : MW) (μ : Nat → Nat → Int), XS μ b S → XW μ w W → S 4 t = W 0 0 0 → 0 ≤ p → p + j = S 0 0 → ∃ μ1, FrX w μ μ1 ∧ XW μ1 w (seeM S t j p W) ∧ am_E (d + 2) 5 46 [some (.inr (.inr 73)), some (.inl t), some (.inl p)] [] (SH, ρ, μ, cs) = am_E (d + 2) 5 2 [some (.inr (.inr 73)), some (.inl (t + 1)), some (.inl (S 0 0))] [] (SH, ρ, μ1, cs) := by
  intro j
  have b0 := hS.1
  have b1 := hS.2.1
  have bt := hS.2.2.2.2.2.2.2.2.2.2.2.1 t t0 t1
  induction j with
  | zero =>
    intro p W μ hX hW hd p0 hp
    have e : p = S 0 0 := by omega
    have hN := hX.1.1
    refine ⟨μ, frx_rf w μ, hW, ?_⟩
    rw [e5_46]; simp (disch := omega) only [hst, hwd, xk_0, xk_1, xk_40, xk_41, xk_42, xk_43, xk_44, xk_45, xk_46, xk_47, xk_48, xk_49, xk_50, xk_51, xk_52, xk_53, xk_54, xk_55, xk_56, xk_57, xk_58, xk_59, xk_60, xk_61, xk_62, xk_63, xk_64, xk_65, xk_66, xk_67, xk_68, xk_69, xk_70, xk_71, xk_72, xk_73, xk_74, xk_75, xk_76, xk_77, xk_78, xk_79, xk_80, xk_81, xk_82, xk_83, xk_84, xk_85, xk_86, xk_87, xk_88, xk_89, xk_90, xk_91, xk_92, xk_93, xk_94, xk_95, xk_96, xk_97, xk_98, xk_st0 hb, xk_st1 hb, xk_st10 hb, xk_st11 hb, xk_st12 hb, xk_st13 hb, xk_st14 hb, xk_st15 hb, xk_st16 hb, xk_st17 hb, xk_st18 hb, xk_st2 hb, xk_st3 hb, xk_st4 hb, xk_st5 hb, xk_st6 hb, xk_st7 hb, xk_st8 hb, xk_st9 hb, xk_wd0 hw, xk_wd1 hw, xk_wd2 hw, xk_wd3 hw, xk_wd4 hw, xk_wd5 hw, xk_wd6 hw, xk_wd7 hw, xk_wd8 hw, xm_0_0 hx, xm_0_10 hx, xm_0_11 hx, xm_0_12 hx, xm_0_13 hx, xm_0_14 hx, xm_0_15 hx, xm_0_2 hx, xm_0_5 hx, xm_0_6 hx, xm_0_7 hx, xm_0_9 hx, xm_40_0 hx, xm_40_1 hx, xm_41_0 hx, xm_44_0 hx, xm_44_1 hx, xm_73_4 hx, xm_73_5 hx, xm_73_6 hx, xm_77_1 hx, xm_77_2 hx, xm_77_3 hx, xm_77_4 hx, xm_77_5 hx, xm_77_6 hx, xm_77_7 hx, xm_77_8 hx, xm_77_9 hx, xm_87_2 hx, xm_87_3 hx, xm_87_4 hx, xm_87_5 hx, xm_87_6 hx, xm_87_7 hx, xm_87_8 hx, xm_lw2 hx hb, xm_lw3 hx hb, xm_lw4 hx hb, xm_lw5 hx hb, xm_st1 hx hb, xm_st10 hx hb, xm_st11 hx hb, xm_st13 hx hb, xm_st14 hx hb, xm_st15 hx hb, xm_st16 hx hb, xm_st17 hx hb, xm_st2 hx hb, xm_st4 hx hb, xm_st5 hx hb, xm_st6 hx hb, xm_st7 hx hb, xm_st9 hx hb, xm_wd10 hx hw, xm_wd11 hx hw, xm_wd4 hx hw, xm_wd5 hx hw, xm_wd6 hx hw, xm_wd7 hx hw, xm_wd8 hx hw, xm_wd9 hx hw, Bool.false_eq_true, eq_self, isk_t, i20_t, w20_t, l23_t, b21_t, b22_t, w_t, bif_t, bif_f, bif_d, if_pos, if_neg, if_true, if_false, not_true_eq_false, not_false_eq_true, Option.bind_some, Option.toList_some, Option.toList_none, List.cons_append, List.nil_append, Int.toNat_natCast, Int.reduceToNat, up_eq, up_p, up_k, sN,  hN ]
    rw [e]
  | succ j ih =>
    intro p W μ hX hW hd p0 hp
    have hN := hX.1.1
    have xt := hX.2.2.2.1 t t0 t1
    have hbit := zb_bit xt.2.2.2.1.1 (by omega) p0 (show p < 32 by omega)
    rw [xt.2.2.2.2 p p0 (by omega)] at hbit
    have el : seeM S t (j + 1) p W = seeM S t j (p + 1) (if seeB S p t (S 0 2).toNat 0 = true then seeStep S W p t else W) := rfl
    rw [el]
    by_cases q1 : seeB S p t (S 0 2).toNat 0 = true
    · rw [if_pos q1] at hbit ⊢
      unfold seeStep
      by_cases q2 : W 5 p t = -1
      · rw [if_pos ⟨hd, q2⟩]
        obtain ⟨μ1, g1, g2, g3⟩ := X_gainThing (ρ := ρ) (cs := cs) (d := d) (fr := -2) (h := S 5 t) hx hw hW p0 (show p < 7 by omega) t0 (show t < 6 by omega) (by omega)
        obtain ⟨μ2, k1, k2, k3⟩ := ih (p + 1) _ μ1 (xs_x hX hb hw (frx_v g1)) g2 (by rw [gain_o (by omega)]; exact hd) (by omega) (by omega)
        refine ⟨μ2, frx_tr (frx_v g1) k1, k2, ?_⟩
        rw [← k3]
        rw [e5_46]; simp (disch := omega) only [e5_83, e5_106, hst, hwd, xk_0, xk_1, xk_40, xk_41, xk_42, xk_43, xk_44, xk_45, xk_46, xk_47, xk_48, xk_49, xk_50, xk_51, xk_52, xk_53, xk_54, xk_55, xk_56, xk_57, xk_58, xk_59, xk_60, xk_61, xk_62, xk_63, xk_64, xk_65, xk_66, xk_67, xk_68, xk_69, xk_70, xk_71, xk_72, xk_73, xk_74, xk_75, xk_76, xk_77, xk_78, xk_79, xk_80, xk_81, xk_82, xk_83, xk_84, xk_85, xk_86, xk_87, xk_88, xk_89, xk_90, xk_91, xk_92, xk_93, xk_94, xk_95, xk_96, xk_97, xk_98, xk_st0 hb, xk_st1 hb, xk_st10 hb, xk_st11 hb, xk_st12 hb, xk_st13 hb, xk_st14 hb, xk_st15 hb, xk_st16 hb, xk_st17 hb, xk_st18 hb, xk_st2 hb, xk_st3 hb, xk_st4 hb, xk_st5 hb, xk_st6 hb, xk_st7 hb, xk_st8 hb, xk_st9 hb, xk_wd0 hw, xk_wd1 hw, xk_wd2 hw, xk_wd3 hw, xk_wd4 hw, xk_wd5 hw, xk_wd6 hw, xk_wd7 hw, xk_wd8 hw, xm_0_0 hx, xm_0_10 hx, xm_0_11 hx, xm_0_12 hx, xm_0_13 hx, xm_0_14 hx, xm_0_15 hx, xm_0_2 hx, xm_0_5 hx, xm_0_6 hx, xm_0_7 hx, xm_0_9 hx, xm_40_0 hx, xm_40_1 hx, xm_41_0 hx, xm_44_0 hx, xm_44_1 hx, xm_73_4 hx, xm_73_5 hx, xm_73_6 hx, xm_77_1 hx, xm_77_2 hx, xm_77_3 hx, xm_77_4 hx, xm_77_5 hx, xm_77_6 hx, xm_77_7 hx, xm_77_8 hx, xm_77_9 hx, xm_87_2 hx, xm_87_3 hx, xm_87_4 hx, xm_87_5 hx, xm_87_6 hx, xm_87_7 hx, xm_87_8 hx, xm_lw2 hx hb, xm_lw3 hx hb, xm_lw4 hx hb, xm_lw5 hx hb, xm_st1 hx hb, xm_st10 hx hb, xm_st11 hx hb, xm_st13 hx hb, xm_st14 hx hb, xm_st15 hx hb, xm_st16 hx hb, xm_st17 hx hb, xm_st2 hx hb, xm_st4 hx hb, xm_st5 hx hb, xm_st6 hx hb, xm_st7 hx hb, xm_st9 hx hb, xm_wd10 hx hw, xm_wd11 hx hw, xm_wd4 hx hw, xm_wd5 hx hw, xm_wd6 hx hw, xm_wd7 hx hw, xm_wd8 hx hw, xm_wd9 hx hw, Bool.false_eq_true, eq_self, isk_t, i20_t, w20_t, l23_t, b21_t, b22_t, w_t, bif_t, bif_f, bif_d, if_pos, if_neg, if_true, if_false, not_true_eq_false, not_false_eq_true, Option.bind_some, Option.toList_some, Option.toList_none, List.cons_append, List.nil_append, Int.toNat_natCast, Int.reduceToNat, up_eq, up_p, up_k, sN,  hN, hbit, X_holds hx hw hW, q2, xt.2.2.1, g3 ]
      · rw [if_neg (fun g => q2 g.2)]
        obtain ⟨μ2, k1, k2, k3⟩ := ih (p + 1) W μ hX hW hd (by omega) (by omega)
        refine ⟨μ2, k1, k2, ?_⟩
        rw [← k3]
        rw [e5_46]; simp (disch := omega) only [e5_83, e5_106, hst, hwd, xk_0, xk_1, xk_40, xk_41, xk_42, xk_43, xk_44, xk_45, xk_46, xk_47, xk_48, xk_49, xk_50, xk_51, xk_52, xk_53, xk_54, xk_55, xk_56, xk_57, xk_58, xk_59, xk_60, xk_61, xk_62, xk_63, xk_64, xk_65, xk_66, xk_67, xk_68, xk_69, xk_70, xk_71, xk_72, xk_73, xk_74, xk_75, xk_76, xk_77, xk_78, xk_79, xk_80, xk_81, xk_82, xk_83, xk_84, xk_85, xk_86, xk_87, xk_88, xk_89, xk_90, xk_91, xk_92, xk_93, xk_94, xk_95, xk_96, xk_97, xk_98, xk_st0 hb, xk_st1 hb, xk_st10 hb, xk_st11 hb, xk_st12 hb, xk_st13 hb, xk_st14 hb, xk_st15 hb, xk_st16 hb, xk_st17 hb, xk_st18 hb, xk_st2 hb, xk_st3 hb, xk_st4 hb, xk_st5 hb, xk_st6 hb, xk_st7 hb, xk_st8 hb, xk_st9 hb, xk_wd0 hw, xk_wd1 hw, xk_wd2 hw, xk_wd3 hw, xk_wd4 hw, xk_wd5 hw, xk_wd6 hw, xk_wd7 hw, xk_wd8 hw, xm_0_0 hx, xm_0_10 hx, xm_0_11 hx, xm_0_12 hx, xm_0_13 hx, xm_0_14 hx, xm_0_15 hx, xm_0_2 hx, xm_0_5 hx, xm_0_6 hx, xm_0_7 hx, xm_0_9 hx, xm_40_0 hx, xm_40_1 hx, xm_41_0 hx, xm_44_0 hx, xm_44_1 hx, xm_73_4 hx, xm_73_5 hx, xm_73_6 hx, xm_77_1 hx, xm_77_2 hx, xm_77_3 hx, xm_77_4 hx, xm_77_5 hx, xm_77_6 hx, xm_77_7 hx, xm_77_8 hx, xm_77_9 hx, xm_87_2 hx, xm_87_3 hx, xm_87_4 hx, xm_87_5 hx, xm_87_6 hx, xm_87_7 hx, xm_87_8 hx, xm_lw2 hx hb, xm_lw3 hx hb, xm_lw4 hx hb, xm_lw5 hx hb, xm_st1 hx hb, xm_st10 hx hb, xm_st11 hx hb, xm_st13 hx hb, xm_st14 hx hb, xm_st15 hx hb, xm_st16 hx hb, xm_st17 hx hb, xm_st2 hx hb, xm_st4 hx hb, xm_st5 hx hb, xm_st6 hx hb, xm_st7 hx hb, xm_st9 hx hb, xm_wd10 hx hw, xm_wd11 hx hw, xm_wd4 hx hw, xm_wd5 hx hw, xm_wd6 hx hw, xm_wd7 hx hw, xm_wd8 hx hw, xm_wd9 hx hw, Bool.false_eq_true, eq_self, isk_t, i20_t, w20_t, l23_t, b21_t, b22_t, w_t, bif_t, bif_f, bif_d, if_pos, if_neg, if_true, if_false, not_true_eq_false, not_false_eq_true, Option.bind_some, Option.toList_some, Option.toList_none, List.cons_append, List.nil_append, Int.toNat_natCast, Int.reduceToNat, up_eq, up_p, up_k, sN,  hN, hbit, X_holds hx hw hW, q2 ]
    · rw [if_neg q1] at hbit ⊢
      obtain ⟨μ2, k1, k2, k3⟩ := ih (p + 1) W μ hX hW hd (by omega) (by omega)
      refine ⟨μ2, k1, k2, ?_⟩
      rw [← k3]
      rw [e5_46]; simp (disch := omega) only [e5_106, hst, hwd, xk_0, xk_1, xk_40, xk_41, xk_42, xk_43, xk_44, xk_45, xk_46, xk_47, xk_48, xk_49, xk_50, xk_51, xk_52, xk_53, xk_54, xk_55, xk_56, xk_57, xk_58, xk_59, xk_60, xk_61, xk_62, xk_63, xk_64, xk_65, xk_66, xk_67, xk_68, xk_69, xk_70, xk_71, xk_72, xk_73, xk_74, xk_75, xk_76, xk_77, xk_78, xk_79, xk_80, xk_81, xk_82, xk_83, xk_84, xk_85, xk_86, xk_87, xk_88, xk_89, xk_90, xk_91, xk_92, xk_93, xk_94, xk_95, xk_96, xk_97, xk_98, xk_st0 hb, xk_st1 hb, xk_st10 hb, xk_st11 hb, xk_st12 hb, xk_st13 hb, xk_st14 hb, xk_st15 hb, xk_st16 hb, xk_st17 hb, xk_st18 hb, xk_st2 hb, xk_st3 hb, xk_st4 hb, xk_st5 hb, xk_st6 hb, xk_st7 hb, xk_st8 hb, xk_st9 hb, xk_wd0 hw, xk_wd1 hw, xk_wd2 hw, xk_wd3 hw, xk_wd4 hw, xk_wd5 hw, xk_wd6 hw, xk_wd7 hw, xk_wd8 hw, xm_0_0 hx, xm_0_10 hx, xm_0_11 hx, xm_0_12 hx, xm_0_13 hx, xm_0_14 hx, xm_0_15 hx, xm_0_2 hx, xm_0_5 hx, xm_0_6 hx, xm_0_7 hx, xm_0_9 hx, xm_40_0 hx, xm_40_1 hx, xm_41_0 hx, xm_44_0 hx, xm_44_1 hx, xm_73_4 hx, xm_73_5 hx, xm_73_6 hx, xm_77_1 hx, xm_77_2 hx, xm_77_3 hx, xm_77_4 hx, xm_77_5 hx, xm_77_6 hx, xm_77_7 hx, xm_77_8 hx, xm_77_9 hx, xm_87_2 hx, xm_87_3 hx, xm_87_4 hx, xm_87_5 hx, xm_87_6 hx, xm_87_7 hx, xm_87_8 hx, xm_lw2 hx hb, xm_lw3 hx hb, xm_lw4 hx hb, xm_lw5 hx hb, xm_st1 hx hb, xm_st10 hx hb, xm_st11 hx hb, xm_st13 hx hb, xm_st14 hx hb, xm_st15 hx hb, xm_st16 hx hb, xm_st17 hx hb, xm_st2 hx hb, xm_st4 hx hb, xm_st5 hx hb, xm_st6 hx hb, xm_st7 hx hb, xm_st9 hx hb, xm_wd10 hx hw, xm_wd11 hx hw, xm_wd4 hx hw, xm_wd5 hx hw, xm_wd6 hx hw, xm_wd7 hx hw, xm_wd8 hx hw, xm_wd9 hx hw, Bool.false_eq_true, eq_self, isk_t, i20_t, w20_t, l23_t, b21_t, b22_t, w_t, bif_t, bif_f, bif_d, if_pos, if_neg, if_true, if_false, not_true_eq_false, not_false_eq_true, Option.bind_some, Option.toList_some, Option.toList_none, List.cons_append, List.nil_append, Int.toNat_natCast, Int.reduceToNat, up_eq, up_p, up_k, sN,  hN, hbit ]
theorem X_see_out (hx : XM ρ) (hb : b = 2 ∨ b = 21) (hw : w = 46 ∨ w = 55 ∨ w = 64) (hst : ρ 73 0 = b) (hwd : ρ 73 1 = w) (hS : SI S) : ∀ (j : Nat) (t : Int) (W : MW) (μ : Nat → Nat → Int), XS μ b S → XW μ w W → XC μ S C → 0 ≤ t → t + j = S 0 1 → ∃ μ1, FrX w μ μ1 ∧ XW μ1 w (seeO S C j t W) ∧ am_E (d + 2) 5 2 [some (.inr (.inr 73)), some (.inl t), none] [] (SH, ρ, μ, cs) = some (none, (SH, ρ, μ1, cs)) := by
  intro j
  have b0 := hS.1
  have b1 := hS.2.1
  induction j with
  | zero =>
    intro t W μ hX hW hK t0 ht
    have hN := hX.1.2.1
    refine ⟨μ, frx_rf w μ, hW, ?_⟩
    rw [e5_2]; simp (disch := omega) only [hst, hwd, xk_0, xk_1, xk_40, xk_41, xk_42, xk_43, xk_44, xk_45, xk_46, xk_47, xk_48, xk_49, xk_50, xk_51, xk_52, xk_53, xk_54, xk_55, xk_56, xk_57, xk_58, xk_59, xk_60, xk_61, xk_62, xk_63, xk_64, xk_65, xk_66, xk_67, xk_68, xk_69, xk_70, xk_71, xk_72, xk_73, xk_74, xk_75, xk_76, xk_77, xk_78, xk_79, xk_80, xk_81, xk_82, xk_83, xk_84, xk_85, xk_86, xk_87, xk_88, xk_89, xk_90, xk_91, xk_92, xk_93, xk_94, xk_95, xk_96, xk_97, xk_98, xk_st0 hb, xk_st1 hb, xk_st10 hb, xk_st11 hb, xk_st12 hb, xk_st13 hb, xk_st14 hb, xk_st15 hb, xk_st16 hb, xk_st17 hb, xk_st18 hb, xk_st2 hb, xk_st3 hb, xk_st4 hb, xk_st5 hb, xk_st6 hb, xk_st7 hb, xk_st8 hb, xk_st9 hb, xk_wd0 hw, xk_wd1 hw, xk_wd2 hw, xk_wd3 hw, xk_wd4 hw, xk_wd5 hw, xk_wd6 hw, xk_wd7 hw, xk_wd8 hw, xm_0_0 hx, xm_0_10 hx, xm_0_11 hx, xm_0_12 hx, xm_0_13 hx, xm_0_14 hx, xm_0_15 hx, xm_0_2 hx, xm_0_5 hx, xm_0_6 hx, xm_0_7 hx, xm_0_9 hx, xm_40_0 hx, xm_40_1 hx, xm_41_0 hx, xm_44_0 hx, xm_44_1 hx, xm_73_4 hx, xm_73_5 hx, xm_73_6 hx, xm_77_1 hx, xm_77_2 hx, xm_77_3 hx, xm_77_4 hx, xm_77_5 hx, xm_77_6 hx, xm_77_7 hx, xm_77_8 hx, xm_77_9 hx, xm_87_2 hx, xm_87_3 hx, xm_87_4 hx, xm_87_5 hx, xm_87_6 hx, xm_87_7 hx, xm_87_8 hx, xm_lw2 hx hb, xm_lw3 hx hb, xm_lw4 hx hb, xm_lw5 hx hb, xm_st1 hx hb, xm_st10 hx hb, xm_st11 hx hb, xm_st13 hx hb, xm_st14 hx hb, xm_st15 hx hb, xm_st16 hx hb, xm_st17 hx hb, xm_st2 hx hb, xm_st4 hx hb, xm_st5 hx hb, xm_st6 hx hb, xm_st7 hx hb, xm_st9 hx hb, xm_wd10 hx hw, xm_wd11 hx hw, xm_wd4 hx hw, xm_wd5 hx hw, xm_wd6 hx hw, xm_wd7 hx hw, xm_wd8 hx hw, xm_wd9 hx hw, Bool.false_eq_true, eq_self, isk_t, i20_t, w20_t, l23_t, b21_t, b22_t, w_t, bif_t, bif_f, bif_d, if_pos, if_neg, if_true, if_false, not_true_eq_false, not_false_eq_true, Option.bind_some, Option.toList_some, Option.toList_none, List.cons_append, List.nil_append, Int.toNat_natCast, Int.reduceToNat, up_eq, up_p, up_k, sN,  hN ]
  | succ j ih =>
    intro t W μ hX hW hK t0 ht
    have hN := hX.1.2.1
    have xt := hX.2.2.2.1 t t0 (by omega)
    have e0 := xw_day hW
    have hbt := xc_thg hK t0 (show t < 6 by omega)
    have el : seeO S C (j + 1) t W = seeO S C j (t + 1) (if S 4 t = W 0 0 0 ∧ C.2.2.2.2.2 t = true then seeM S t (men S) 0 W else W) := rfl
    rw [el]
    by_cases q1 : S 4 t = W 0 0 0
    · by_cases q2 : C.2.2.2.2.2 t = true
      · rw [if_pos q2] at hbt
        rw [if_pos ⟨q1, q2⟩]
        obtain ⟨μ1, g1, g2, g3⟩ := X_see_in (ρ := ρ) (cs := cs) (d := d) hx hb hw hst hwd hS t0 (show t < S 0 1 by omega) (men S) 0 W μ hX hW q1 (Int.le_refl _) (by unfold men; omega)
        obtain ⟨μ2, k1, k2, k3⟩ := ih (t + 1) _ μ1 (xs_x hX hb hw g1) g2 (xc_x hK hw g1) (by omega) (by omega)
        refine ⟨μ2, frx_tr g1 k1, k2, ?_⟩
        rw [e5_2]; simp (disch := omega) only [hst, hwd, xk_0, xk_1, xk_40, xk_41, xk_42, xk_43, xk_44, xk_45, xk_46, xk_47, xk_48, xk_49, xk_50, xk_51, xk_52, xk_53, xk_54, xk_55, xk_56, xk_57, xk_58, xk_59, xk_60, xk_61, xk_62, xk_63, xk_64, xk_65, xk_66, xk_67, xk_68, xk_69, xk_70, xk_71, xk_72, xk_73, xk_74, xk_75, xk_76, xk_77, xk_78, xk_79, xk_80, xk_81, xk_82, xk_83, xk_84, xk_85, xk_86, xk_87, xk_88, xk_89, xk_90, xk_91, xk_92, xk_93, xk_94, xk_95, xk_96, xk_97, xk_98, xk_st0 hb, xk_st1 hb, xk_st10 hb, xk_st11 hb, xk_st12 hb, xk_st13 hb, xk_st14 hb, xk_st15 hb, xk_st16 hb, xk_st17 hb, xk_st18 hb, xk_st2 hb, xk_st3 hb, xk_st4 hb, xk_st5 hb, xk_st6 hb, xk_st7 hb, xk_st8 hb, xk_st9 hb, xk_wd0 hw, xk_wd1 hw, xk_wd2 hw, xk_wd3 hw, xk_wd4 hw, xk_wd5 hw, xk_wd6 hw, xk_wd7 hw, xk_wd8 hw, xm_0_0 hx, xm_0_10 hx, xm_0_11 hx, xm_0_12 hx, xm_0_13 hx, xm_0_14 hx, xm_0_15 hx, xm_0_2 hx, xm_0_5 hx, xm_0_6 hx, xm_0_7 hx, xm_0_9 hx, xm_40_0 hx, xm_40_1 hx, xm_41_0 hx, xm_44_0 hx, xm_44_1 hx, xm_73_4 hx, xm_73_5 hx, xm_73_6 hx, xm_77_1 hx, xm_77_2 hx, xm_77_3 hx, xm_77_4 hx, xm_77_5 hx, xm_77_6 hx, xm_77_7 hx, xm_77_8 hx, xm_77_9 hx, xm_87_2 hx, xm_87_3 hx, xm_87_4 hx, xm_87_5 hx, xm_87_6 hx, xm_87_7 hx, xm_87_8 hx, xm_lw2 hx hb, xm_lw3 hx hb, xm_lw4 hx hb, xm_lw5 hx hb, xm_st1 hx hb, xm_st10 hx hb, xm_st11 hx hb, xm_st13 hx hb, xm_st14 hx hb, xm_st15 hx hb, xm_st16 hx hb, xm_st17 hx hb, xm_st2 hx hb, xm_st4 hx hb, xm_st5 hx hb, xm_st6 hx hb, xm_st7 hx hb, xm_st9 hx hb, xm_wd10 hx hw, xm_wd11 hx hw, xm_wd4 hx hw, xm_wd5 hx hw, xm_wd6 hx hw, xm_wd7 hx hw, xm_wd8 hx hw, xm_wd9 hx hw, Bool.false_eq_true, eq_self, isk_t, i20_t, w20_t, l23_t, b21_t, b22_t, w_t, bif_t, bif_f, bif_d, if_pos, if_neg, if_true, if_false, not_true_eq_false, not_false_eq_true, Option.bind_some, Option.toList_some, Option.toList_none, List.cons_append, List.nil_append, Int.toNat_natCast, Int.reduceToNat, up_eq, up_p, up_k, sN,  hN, xt.2.1, e0, q1, hbt, g3 ]
        exact am_E_le (am_lq_of _ _ (by simp [am_leb])) k3
      · rw [if_neg q2] at hbt
        rw [if_neg (fun g => q2 g.2)]
        obtain ⟨μ2, k1, k2, k3⟩ := ih (t + 1) W μ hX hW hK (by omega) (by omega)
        refine ⟨μ2, k1, k2, ?_⟩
        rw [e5_2]; simp (disch := omega) only [hst, hwd, xk_0, xk_1, xk_40, xk_41, xk_42, xk_43, xk_44, xk_45, xk_46, xk_47, xk_48, xk_49, xk_50, xk_51, xk_52, xk_53, xk_54, xk_55, xk_56, xk_57, xk_58, xk_59, xk_60, xk_61, xk_62, xk_63, xk_64, xk_65, xk_66, xk_67, xk_68, xk_69, xk_70, xk_71, xk_72, xk_73, xk_74, xk_75, xk_76, xk_77, xk_78, xk_79, xk_80, xk_81, xk_82, xk_83, xk_84, xk_85, xk_86, xk_87, xk_88, xk_89, xk_90, xk_91, xk_92, xk_93, xk_94, xk_95, xk_96, xk_97, xk_98, xk_st0 hb, xk_st1 hb, xk_st10 hb, xk_st11 hb, xk_st12 hb, xk_st13 hb, xk_st14 hb, xk_st15 hb, xk_st16 hb, xk_st17 hb, xk_st18 hb, xk_st2 hb, xk_st3 hb, xk_st4 hb, xk_st5 hb, xk_st6 hb, xk_st7 hb, xk_st8 hb, xk_st9 hb, xk_wd0 hw, xk_wd1 hw, xk_wd2 hw, xk_wd3 hw, xk_wd4 hw, xk_wd5 hw, xk_wd6 hw, xk_wd7 hw, xk_wd8 hw, xm_0_0 hx, xm_0_10 hx, xm_0_11 hx, xm_0_12 hx, xm_0_13 hx, xm_0_14 hx, xm_0_15 hx, xm_0_2 hx, xm_0_5 hx, xm_0_6 hx, xm_0_7 hx, xm_0_9 hx, xm_40_0 hx, xm_40_1 hx, xm_41_0 hx, xm_44_0 hx, xm_44_1 hx, xm_73_4 hx, xm_73_5 hx, xm_73_6 hx, xm_77_1 hx, xm_77_2 hx, xm_77_3 hx, xm_77_4 hx, xm_77_5 hx, xm_77_6 hx, xm_77_7 hx, xm_77_8 hx, xm_77_9 hx, xm_87_2 hx, xm_87_3 hx, xm_87_4 hx, xm_87_5 hx, xm_87_6 hx, xm_87_7 hx, xm_87_8 hx, xm_lw2 hx hb, xm_lw3 hx hb, xm_lw4 hx hb, xm_lw5 hx hb, xm_st1 hx hb, xm_st10 hx hb, xm_st11 hx hb, xm_st13 hx hb, xm_st14 hx hb, xm_st15 hx hb, xm_st16 hx hb, xm_st17 hx hb, xm_st2 hx hb, xm_st4 hx hb, xm_st5 hx hb, xm_st6 hx hb, xm_st7 hx hb, xm_st9 hx hb, xm_wd10 hx hw, xm_wd11 hx hw, xm_wd4 hx hw, xm_wd5 hx hw, xm_wd6 hx hw, xm_wd7 hx hw, xm_wd8 hx hw, xm_wd9 hx hw, Bool.false_eq_true, eq_self, isk_t, i20_t, w20_t, l23_t, b21_t, b22_t, w_t, bif_t, bif_f, bif_d, if_pos, if_neg, if_true, if_false, not_true_eq_false, not_false_eq_true, Option.bind_some, Option.toList_some, Option.toList_none, List.cons_append, List.nil_append, Int.toNat_natCast, Int.reduceToNat, up_eq, up_p, up_k, sN,  hN, xt.2.1, e0, q1, hbt, k3 ]
    · rw [if_neg (fun g => q1 g.1)]
      obtain ⟨μ2, k1, k2, k3⟩ := ih (t + 1) W μ hX hW hK (by omega) (by omega)
      refine ⟨μ2, k1, k2, ?_⟩
      rw [e5_2]; simp (disch := omega) only [hst, hwd, xk_0, xk_1, xk_40, xk_41, xk_42, xk_43, xk_44, xk_45, xk_46, xk_47, xk_48, xk_49, xk_50, xk_51, xk_52, xk_53, xk_54, xk_55, xk_56, xk_57, xk_58, xk_59, xk_60, xk_61, xk_62, xk_63, xk_64, xk_65, xk_66, xk_67, xk_68, xk_69, xk_70, xk_71, xk_72, xk_73, xk_74, xk_75, xk_76, xk_77, xk_78, xk_79, xk_80, xk_81, xk_82, xk_83, xk_84, xk_85, xk_86, xk_87, xk_88, xk_89, xk_90, xk_91, xk_92, xk_93, xk_94, xk_95, xk_96, xk_97, xk_98, xk_st0 hb, xk_st1 hb, xk_st10 hb, xk_st11 hb, xk_st12 hb, xk_st13 hb, xk_st14 hb, xk_st15 hb, xk_st16 hb, xk_st17 hb, xk_st18 hb, xk_st2 hb, xk_st3 hb, xk_st4 hb, xk_st5 hb, xk_st6 hb, xk_st7 hb, xk_st8 hb, xk_st9 hb, xk_wd0 hw, xk_wd1 hw, xk_wd2 hw, xk_wd3 hw, xk_wd4 hw, xk_wd5 hw, xk_wd6 hw, xk_wd7 hw, xk_wd8 hw, xm_0_0 hx, xm_0_10 hx, xm_0_11 hx, xm_0_12 hx, xm_0_13 hx, xm_0_14 hx, xm_0_15 hx, xm_0_2 hx, xm_0_5 hx, xm_0_6 hx, xm_0_7 hx, xm_0_9 hx, xm_40_0 hx, xm_40_1 hx, xm_41_0 hx, xm_44_0 hx, xm_44_1 hx, xm_73_4 hx, xm_73_5 hx, xm_73_6 hx, xm_77_1 hx, xm_77_2 hx, xm_77_3 hx, xm_77_4 hx, xm_77_5 hx, xm_77_6 hx, xm_77_7 hx, xm_77_8 hx, xm_77_9 hx, xm_87_2 hx, xm_87_3 hx, xm_87_4 hx, xm_87_5 hx, xm_87_6 hx, xm_87_7 hx, xm_87_8 hx, xm_lw2 hx hb, xm_lw3 hx hb, xm_lw4 hx hb, xm_lw5 hx hb, xm_st1 hx hb, xm_st10 hx hb, xm_st11 hx hb, xm_st13 hx hb, xm_st14 hx hb, xm_st15 hx hb, xm_st16 hx hb, xm_st17 hx hb, xm_st2 hx hb, xm_st4 hx hb, xm_st5 hx hb, xm_st6 hx hb, xm_st7 hx hb, xm_st9 hx hb, xm_wd10 hx hw, xm_wd11 hx hw, xm_wd4 hx hw, xm_wd5 hx hw, xm_wd6 hx hw, xm_wd7 hx hw, xm_wd8 hx hw, xm_wd9 hx hw, Bool.false_eq_true, eq_self, isk_t, i20_t, w20_t, l23_t, b21_t, b22_t, w_t, bif_t, bif_f, bif_d, if_pos, if_neg, if_true, if_false, not_true_eq_false, not_false_eq_true, Option.bind_some, Option.toList_some, Option.toList_none, List.cons_append, List.nil_append, Int.toNat_natCast, Int.reduceToNat, up_eq, up_p, up_k, sN,  hN, xt.2.1, e0, q1, k3 ]
theorem X_seeAll (hx : XM ρ) (hb : b = 2 ∨ b = 21) (hw : w = 46 ∨ w = 55 ∨ w = 64) (hst : ρ 73 0 = b) (hwd : ρ 73 1 = w) {W : MW} {μ : Nat → Nat → Int} (hS : SI S) (hX : XS μ b S) (hW : XW μ w W) (hK : XC μ S C) : ∃ μ1, FrX w μ μ1 ∧ XW μ1 w (seeW S C W) ∧ am_E (d + 2) 5 0 [some (.inr (.inr 73)), none, none] [] (SH, ρ, μ, cs) = some (none, (SH, ρ, μ1, cs)) := by
  have b1 := hS.2.1
  rw [e5_0, ← seeO_W hS]
  exact X_see_out hx hb hw hst hwd hS (S 0 1).toNat 0 W μ hX hW hK (Int.le_refl _) (by omega)
theorem talk_5 {C : MC} {W : MW} {a : Nat} {p t : Int} (h : a ≠ 1) : talkW C W a p t = W a p t := by
  unfold talkW
  split
  · rfl
  · split
    · rfl
    · exact wp_o h
theorem wi_talk {S : MS} {C : MC} {D : Int} {W : MW} (hW : WI S D W) : WI S D (talkW C W) := by
  unfold talkW
  have hn := next_bd (W 1 0 0)
  split
  · exact hW
  · split
    · exact hW
    · exact wi_num hW hn.1 hn.2
theorem X_pass_in (hx : XM ρ) (hb : b = 2 ∨ b = 21) (hw : w = 46 ∨ w = 55 ∨ w = 64) (hst : ρ 73 0 = b) (hwd : ρ 73 1 = w) (hS : SI S) (hC : CI S C) (hD : D ≤ 20000) (hn3 : C.2.2.1 < 3) {y : Int} (y0 : 0 ≤ y) (y1 : y < S 0 3) (hF : C.2.2.2.1 (S 8 y) = false) {z : Nat} (hz : z < 64) : ∀ (j : Nat) (t : Int) (W : MW) (μ : Nat → Nat → Int), WI S D W → XS μ b S → XW μ w W → XC μ S C → (∀ t' : Int, t ≤ t' → t' < 6 → z.testBit t'.toNat = decide (C.2.2.2.2.2 t' = true ∧ W 5 (S 8 y) t' ≠ -1 ∧ W 5 (S 9 y) t' = -1)) → 0 ≤ t → t + j = S 0 1 → ∃ μ1, FrX w μ μ1 ∧ XW μ1 w (wayL S C y j t W) ∧ ∀ r, am_E (d + 4) 6 2 [some (.inr (.inr 73)), some (.inl (y + 1)), none, none, none, none] [] (SH, ρ, μ1, cs) = some r → am_E (d + 4) 6 80 [some (.inr (.inr 73)), some (.inl y), some (.inl (S 8 y)), some (.inl (S 9 y)), some (.inl (z : Int)), some (.inl t)] [] (SH, ρ, μ, cs) = some r := by
  intro j
  have b0 := hS.1
  have b1 := hS.2.1
  have b3 := hS.2.2.2.1
  have by' := hS.2.2.2.2.2.2.2.2.2.2.2.2.2.1 y y0 y1
  induction j with
  | zero =>
    intro t W μ hWI hX hW hK hm t0 ht
    have hN := hX.1.2.1
    refine ⟨μ, frx_rf w μ, hW, fun r hr => ?_⟩
    rw [e6_80]; simp (disch := omega) only [hst, hwd, xk_0, xk_1, xk_40, xk_41, xk_42, xk_43, xk_44, xk_45, xk_46, xk_47, xk_48, xk_49, xk_50, xk_51, xk_52, xk_53, xk_54, xk_55, xk_56, xk_57, xk_58, xk_59, xk_60, xk_61, xk_62, xk_63, xk_64, xk_65, xk_66, xk_67, xk_68, xk_69, xk_70, xk_71, xk_72, xk_73, xk_74, xk_75, xk_76, xk_77, xk_78, xk_79, xk_80, xk_81, xk_82, xk_83, xk_84, xk_85, xk_86, xk_87, xk_88, xk_89, xk_90, xk_91, xk_92, xk_93, xk_94, xk_95, xk_96, xk_97, xk_98, xk_st0 hb, xk_st1 hb, xk_st10 hb, xk_st11 hb, xk_st12 hb, xk_st13 hb, xk_st14 hb, xk_st15 hb, xk_st16 hb, xk_st17 hb, xk_st18 hb, xk_st2 hb, xk_st3 hb, xk_st4 hb, xk_st5 hb, xk_st6 hb, xk_st7 hb, xk_st8 hb, xk_st9 hb, xk_wd0 hw, xk_wd1 hw, xk_wd2 hw, xk_wd3 hw, xk_wd4 hw, xk_wd5 hw, xk_wd6 hw, xk_wd7 hw, xk_wd8 hw, xm_0_0 hx, xm_0_10 hx, xm_0_11 hx, xm_0_12 hx, xm_0_13 hx, xm_0_14 hx, xm_0_15 hx, xm_0_2 hx, xm_0_5 hx, xm_0_6 hx, xm_0_7 hx, xm_0_9 hx, xm_40_0 hx, xm_40_1 hx, xm_41_0 hx, xm_44_0 hx, xm_44_1 hx, xm_73_4 hx, xm_73_5 hx, xm_73_6 hx, xm_77_1 hx, xm_77_2 hx, xm_77_3 hx, xm_77_4 hx, xm_77_5 hx, xm_77_6 hx, xm_77_7 hx, xm_77_8 hx, xm_77_9 hx, xm_87_2 hx, xm_87_3 hx, xm_87_4 hx, xm_87_5 hx, xm_87_6 hx, xm_87_7 hx, xm_87_8 hx, xm_lw2 hx hb, xm_lw3 hx hb, xm_lw4 hx hb, xm_lw5 hx hb, xm_st1 hx hb, xm_st10 hx hb, xm_st11 hx hb, xm_st13 hx hb, xm_st14 hx hb, xm_st15 hx hb, xm_st16 hx hb, xm_st17 hx hb, xm_st2 hx hb, xm_st4 hx hb, xm_st5 hx hb, xm_st6 hx hb, xm_st7 hx hb, xm_st9 hx hb, xm_wd10 hx hw, xm_wd11 hx hw, xm_wd4 hx hw, xm_wd5 hx hw, xm_wd6 hx hw, xm_wd7 hx hw, xm_wd8 hx hw, xm_wd9 hx hw, Bool.false_eq_true, eq_self, isk_t, i20_t, w20_t, l23_t, b21_t, b22_t, w_t, bif_t, bif_f, bif_d, if_pos, if_neg, if_true, if_false, not_true_eq_false, not_false_eq_true, Option.bind_some, Option.toList_some, Option.toList_none, List.cons_append, List.nil_append, Int.toNat_natCast, Int.reduceToNat, up_eq, up_p, up_k, sN,  hN ]
    exact am_E_le (am_lq_of _ _ (by simp [am_leb])) hr
  | succ j ih =>
    intro t W μ hWI hX hW hK hm t0 ht
    have hN := hX.1.2.1
    have t6 : t < 6 := by omega
    have xy := hX.2.2.2.2.1 y y0 y1
    have bf := hWI.2.2.2.2.2 (S 8 y) t by'.1.1 (by omega) t0 t6
    have bd := hWI.1
    have e0 := xw_day hW
    have el : wayL S C y (j + 1) t W = wayL S C y j (t + 1) (wayT S C y W t) := rfl
    have hmt := hm t (Int.le_refl _) t6
    have hbit := ib_bit (a := z) (k := t) (by omega) t0 (by omega)
    have wb : wayB S C y W t = decide (C.2.2.2.1 (S 8 y) = false ∧ C.2.2.2.2.2 t = true ∧ W 5 (S 8 y) t ≠ -1 ∧ S 10 y ≤ W 0 0 0 - W 6 (S 8 y) t ∧ W 5 (S 9 y) t = -1) := rfl
    by_cases qz : z = 0
    · have hid : wayL S C y (j + 1) t W = W := wayL_id _ _ (fun t' h0 h1 => by
        have h2 := hm t' h0 (by omega)
        rw [qz, Nat.zero_testBit] at h2
        have h3 := of_decide_eq_false h2.symm
        show decide _ = false
        exact decide_eq_false (fun g => h3 ⟨g.2.1, g.2.2.1, g.2.2.2.2⟩))
      rw [hid]
      refine ⟨μ, frx_rf w μ, hW, fun r hr => ?_⟩
      subst qz
      rw [e6_80]; simp (disch := omega) only [hst, hwd, xk_0, xk_1, xk_40, xk_41, xk_42, xk_43, xk_44, xk_45, xk_46, xk_47, xk_48, xk_49, xk_50, xk_51, xk_52, xk_53, xk_54, xk_55, xk_56, xk_57, xk_58, xk_59, xk_60, xk_61, xk_62, xk_63, xk_64, xk_65, xk_66, xk_67, xk_68, xk_69, xk_70, xk_71, xk_72, xk_73, xk_74, xk_75, xk_76, xk_77, xk_78, xk_79, xk_80, xk_81, xk_82, xk_83, xk_84, xk_85, xk_86, xk_87, xk_88, xk_89, xk_90, xk_91, xk_92, xk_93, xk_94, xk_95, xk_96, xk_97, xk_98, xk_st0 hb, xk_st1 hb, xk_st10 hb, xk_st11 hb, xk_st12 hb, xk_st13 hb, xk_st14 hb, xk_st15 hb, xk_st16 hb, xk_st17 hb, xk_st18 hb, xk_st2 hb, xk_st3 hb, xk_st4 hb, xk_st5 hb, xk_st6 hb, xk_st7 hb, xk_st8 hb, xk_st9 hb, xk_wd0 hw, xk_wd1 hw, xk_wd2 hw, xk_wd3 hw, xk_wd4 hw, xk_wd5 hw, xk_wd6 hw, xk_wd7 hw, xk_wd8 hw, xm_0_0 hx, xm_0_10 hx, xm_0_11 hx, xm_0_12 hx, xm_0_13 hx, xm_0_14 hx, xm_0_15 hx, xm_0_2 hx, xm_0_5 hx, xm_0_6 hx, xm_0_7 hx, xm_0_9 hx, xm_40_0 hx, xm_40_1 hx, xm_41_0 hx, xm_44_0 hx, xm_44_1 hx, xm_73_4 hx, xm_73_5 hx, xm_73_6 hx, xm_77_1 hx, xm_77_2 hx, xm_77_3 hx, xm_77_4 hx, xm_77_5 hx, xm_77_6 hx, xm_77_7 hx, xm_77_8 hx, xm_77_9 hx, xm_87_2 hx, xm_87_3 hx, xm_87_4 hx, xm_87_5 hx, xm_87_6 hx, xm_87_7 hx, xm_87_8 hx, xm_lw2 hx hb, xm_lw3 hx hb, xm_lw4 hx hb, xm_lw5 hx hb, xm_st1 hx hb, xm_st10 hx hb, xm_st11 hx hb, xm_st13 hx hb, xm_st14 hx hb, xm_st15 hx hb, xm_st16 hx hb, xm_st17 hx hb, xm_st2 hx hb, xm_st4 hx hb, xm_st5 hx hb, xm_st6 hx hb, xm_st7 hx hb, xm_st9 hx hb, xm_wd10 hx hw, xm_wd11 hx hw, xm_wd4 hx hw, xm_wd5 hx hw, xm_wd6 hx hw, xm_wd7 hx hw, xm_wd8 hx hw, xm_wd9 hx hw, Bool.false_eq_true, eq_self, isk_t, i20_t, w20_t, l23_t, b21_t, b22_t, w_t, bif_t, bif_f, bif_d, if_pos, if_neg, if_true, if_false, not_true_eq_false, not_false_eq_true, Option.bind_some, Option.toList_some, Option.toList_none, List.cons_append, List.nil_append, Int.toNat_natCast, Int.reduceToNat, up_eq, up_p, up_k, sN,  hN ]
      exact am_E_le (am_lq_of _ _ (by simp [am_leb])) hr
    · rw [el]
      by_cases qb : C.2.2.2.2.2 t = true ∧ W 5 (S 8 y) t ≠ -1 ∧ W 5 (S 9 y) t = -1
      · rw [hmt, decide_eq_true qb, if_pos rfl] at hbit
        have e6 := xw_since hW by'.1.1 (show S 8 y < 7 by omega) t0 t6 qb.2.1
        by_cases qd : S 10 y ≤ W 0 0 0 - W 6 (S 8 y) t
        · have hb1 : wayB S C y W t = true := by rw [wb]; exact decide_eq_true ⟨hF, qb.1, qb.2.1, qd, qb.2.2⟩
          have et := wayT_talk hb1
          obtain ⟨μ1, g1, g2, g3⟩ := X_talks (ρ := ρ) (cs := cs) (d := d + 3) hx hb hw hst hwd hX hW hK hS hn3
          by_cases qt : talkB S C W = true
          · rw [if_pos qt] at g3 et
            have hWt := wi_talk (C := C) hWI
            have ht5 : talkW C W 5 (S 8 y) t ≠ -1 := by rw [talk_5 (by omega)]; exact qb.2.1
            have f1 := frx_v g1
            obtain ⟨μ2, g4, g5, g6⟩ := X_handOver (ρ := ρ) (cs := cs) (d := d) hx hb hw hst hwd hS hC hD hWt (xs_x hX hb hw f1) g2 (xc_x hK hw f1) by'.1.1 by'.1.2 t0 t6 by'.2.1.1 by'.2.1.2 ht5
            have f2 := frx_tr f1 g4
            have hWn := wi_wayT hS hC hWI y0 y1 t0 (show t < S 0 1 by omega)
            rw [et] at hWn ⊢
            obtain ⟨μ3, k1, k2, k3⟩ := ih (t + 1) _ μ2 hWn (xs_x hX hb hw f2) g5 (xc_x hK hw f2) (fun t' h0 h1 => by
              rw [hm t' (by omega) h1]
              have e5 : ∀ p, hearW S C (talkW C W) (S 9 y) (S 8 y) t 5 p t' = W 5 p t' := fun p => by rw [hear_gain, gain_5, if_neg (by omega), talk_5 (by omega)]
              rw [e5, e5]) (by omega) (by omega)
            refine ⟨μ3, frx_tr f2 k1, k2, fun r hr => ?_⟩
            have k4 := k3 r hr
            rw [e6_80]; simp (disch := omega) only [e6_128, e6_146, e6_157, hst, hwd, xk_0, xk_1, xk_40, xk_41, xk_42, xk_43, xk_44, xk_45, xk_46, xk_47, xk_48, xk_49, xk_50, xk_51, xk_52, xk_53, xk_54, xk_55, xk_56, xk_57, xk_58, xk_59, xk_60, xk_61, xk_62, xk_63, xk_64, xk_65, xk_66, xk_67, xk_68, xk_69, xk_70, xk_71, xk_72, xk_73, xk_74, xk_75, xk_76, xk_77, xk_78, xk_79, xk_80, xk_81, xk_82, xk_83, xk_84, xk_85, xk_86, xk_87, xk_88, xk_89, xk_90, xk_91, xk_92, xk_93, xk_94, xk_95, xk_96, xk_97, xk_98, xk_st0 hb, xk_st1 hb, xk_st10 hb, xk_st11 hb, xk_st12 hb, xk_st13 hb, xk_st14 hb, xk_st15 hb, xk_st16 hb, xk_st17 hb, xk_st18 hb, xk_st2 hb, xk_st3 hb, xk_st4 hb, xk_st5 hb, xk_st6 hb, xk_st7 hb, xk_st8 hb, xk_st9 hb, xk_wd0 hw, xk_wd1 hw, xk_wd2 hw, xk_wd3 hw, xk_wd4 hw, xk_wd5 hw, xk_wd6 hw, xk_wd7 hw, xk_wd8 hw, xm_0_0 hx, xm_0_10 hx, xm_0_11 hx, xm_0_12 hx, xm_0_13 hx, xm_0_14 hx, xm_0_15 hx, xm_0_2 hx, xm_0_5 hx, xm_0_6 hx, xm_0_7 hx, xm_0_9 hx, xm_40_0 hx, xm_40_1 hx, xm_41_0 hx, xm_44_0 hx, xm_44_1 hx, xm_73_4 hx, xm_73_5 hx, xm_73_6 hx, xm_77_1 hx, xm_77_2 hx, xm_77_3 hx, xm_77_4 hx, xm_77_5 hx, xm_77_6 hx, xm_77_7 hx, xm_77_8 hx, xm_77_9 hx, xm_87_2 hx, xm_87_3 hx, xm_87_4 hx, xm_87_5 hx, xm_87_6 hx, xm_87_7 hx, xm_87_8 hx, xm_lw2 hx hb, xm_lw3 hx hb, xm_lw4 hx hb, xm_lw5 hx hb, xm_st1 hx hb, xm_st10 hx hb, xm_st11 hx hb, xm_st13 hx hb, xm_st14 hx hb, xm_st15 hx hb, xm_st16 hx hb, xm_st17 hx hb, xm_st2 hx hb, xm_st4 hx hb, xm_st5 hx hb, xm_st6 hx hb, xm_st7 hx hb, xm_st9 hx hb, xm_wd10 hx hw, xm_wd11 hx hw, xm_wd4 hx hw, xm_wd5 hx hw, xm_wd6 hx hw, xm_wd7 hx hw, xm_wd8 hx hw, xm_wd9 hx hw, Bool.false_eq_true, eq_self, isk_t, i20_t, w20_t, l23_t, b21_t, b22_t, w_t, bif_t, bif_f, bif_d, if_pos, if_neg, if_true, if_false, not_true_eq_false, not_false_eq_true, Option.bind_some, Option.toList_some, Option.toList_none, List.cons_append, List.nil_append, Int.toNat_natCast, Int.reduceToNat, up_eq, up_p, up_k, sN,  hN, hbit, X_cell, i20_c, e0, e6, xy.2.2, g3, g6 ]
            exact k4
          · rw [if_neg qt] at g3 et
            have f1 := frx_v g1
            have hWn := wi_wayT hS hC hWI y0 y1 t0 (show t < S 0 1 by omega)
            rw [et] at hWn ⊢
            obtain ⟨μ3, k1, k2, k3⟩ := ih (t + 1) _ μ1 hWn (xs_x hX hb hw f1) g2 (xc_x hK hw f1) (fun t' h0 h1 => by
              rw [hm t' (by omega) h1, talk_5 (by omega), talk_5 (by omega)]) (by omega) (by omega)
            refine ⟨μ3, frx_tr f1 k1, k2, fun r hr => ?_⟩
            have k4 := k3 r hr
            rw [e6_80]; simp (disch := omega) only [e6_128, e6_146, e6_157, hst, hwd, xk_0, xk_1, xk_40, xk_41, xk_42, xk_43, xk_44, xk_45, xk_46, xk_47, xk_48, xk_49, xk_50, xk_51, xk_52, xk_53, xk_54, xk_55, xk_56, xk_57, xk_58, xk_59, xk_60, xk_61, xk_62, xk_63, xk_64, xk_65, xk_66, xk_67, xk_68, xk_69, xk_70, xk_71, xk_72, xk_73, xk_74, xk_75, xk_76, xk_77, xk_78, xk_79, xk_80, xk_81, xk_82, xk_83, xk_84, xk_85, xk_86, xk_87, xk_88, xk_89, xk_90, xk_91, xk_92, xk_93, xk_94, xk_95, xk_96, xk_97, xk_98, xk_st0 hb, xk_st1 hb, xk_st10 hb, xk_st11 hb, xk_st12 hb, xk_st13 hb, xk_st14 hb, xk_st15 hb, xk_st16 hb, xk_st17 hb, xk_st18 hb, xk_st2 hb, xk_st3 hb, xk_st4 hb, xk_st5 hb, xk_st6 hb, xk_st7 hb, xk_st8 hb, xk_st9 hb, xk_wd0 hw, xk_wd1 hw, xk_wd2 hw, xk_wd3 hw, xk_wd4 hw, xk_wd5 hw, xk_wd6 hw, xk_wd7 hw, xk_wd8 hw, xm_0_0 hx, xm_0_10 hx, xm_0_11 hx, xm_0_12 hx, xm_0_13 hx, xm_0_14 hx, xm_0_15 hx, xm_0_2 hx, xm_0_5 hx, xm_0_6 hx, xm_0_7 hx, xm_0_9 hx, xm_40_0 hx, xm_40_1 hx, xm_41_0 hx, xm_44_0 hx, xm_44_1 hx, xm_73_4 hx, xm_73_5 hx, xm_73_6 hx, xm_77_1 hx, xm_77_2 hx, xm_77_3 hx, xm_77_4 hx, xm_77_5 hx, xm_77_6 hx, xm_77_7 hx, xm_77_8 hx, xm_77_9 hx, xm_87_2 hx, xm_87_3 hx, xm_87_4 hx, xm_87_5 hx, xm_87_6 hx, xm_87_7 hx, xm_87_8 hx, xm_lw2 hx hb, xm_lw3 hx hb, xm_lw4 hx hb, xm_lw5 hx hb, xm_st1 hx hb, xm_st10 hx hb, xm_st11 hx hb, xm_st13 hx hb, xm_st14 hx hb, xm_st15 hx hb, xm_st16 hx hb, xm_st17 hx hb, xm_st2 hx hb, xm_st4 hx hb, xm_st5 hx hb, xm_st6 hx hb, xm_st7 hx hb, xm_st9 hx hb, xm_wd10 hx hw, xm_wd11 hx hw, xm_wd4 hx hw, xm_wd5 hx hw, xm_wd6 hx hw, xm_wd7 hx hw, xm_wd8 hx hw, xm_wd9 hx hw, Bool.false_eq_true, eq_self, isk_t, i20_t, w20_t, l23_t, b21_t, b22_t, w_t, bif_t, bif_f, bif_d, if_pos, if_neg, if_true, if_false, not_true_eq_false, not_false_eq_true, Option.bind_some, Option.toList_some, Option.toList_none, List.cons_append, List.nil_append, Int.toNat_natCast, Int.reduceToNat, up_eq, up_p, up_k, sN,  hN, hbit, X_cell, i20_c, e0, e6, xy.2.2, g3 ]
            exact k4
        · have et : wayT S C y W t = W := by unfold wayT; rw [if_pos (by rw [wb]; exact decide_eq_false (fun g => qd g.2.2.2.1))]
          rw [et]
          obtain ⟨μ3, k1, k2, k3⟩ := ih (t + 1) W μ hWI hX hW hK (fun t' h0 h1 => hm t' (by omega) h1) (by omega) (by omega)
          refine ⟨μ3, k1, k2, fun r hr => ?_⟩
          have k4 := k3 r hr
          rw [e6_80]; simp (disch := omega) only [e6_128, e6_157, hst, hwd, xk_0, xk_1, xk_40, xk_41, xk_42, xk_43, xk_44, xk_45, xk_46, xk_47, xk_48, xk_49, xk_50, xk_51, xk_52, xk_53, xk_54, xk_55, xk_56, xk_57, xk_58, xk_59, xk_60, xk_61, xk_62, xk_63, xk_64, xk_65, xk_66, xk_67, xk_68, xk_69, xk_70, xk_71, xk_72, xk_73, xk_74, xk_75, xk_76, xk_77, xk_78, xk_79, xk_80, xk_81, xk_82, xk_83, xk_84, xk_85, xk_86, xk_87, xk_88, xk_89, xk_90, xk_91, xk_92, xk_93, xk_94, xk_95, xk_96, xk_97, xk_98, xk_st0 hb, xk_st1 hb, xk_st10 hb, xk_st11 hb, xk_st12 hb, xk_st13 hb, xk_st14 hb, xk_st15 hb, xk_st16 hb, xk_st17 hb, xk_st18 hb, xk_st2 hb, xk_st3 hb, xk_st4 hb, xk_st5 hb, xk_st6 hb, xk_st7 hb, xk_st8 hb, xk_st9 hb, xk_wd0 hw, xk_wd1 hw, xk_wd2 hw, xk_wd3 hw, xk_wd4 hw, xk_wd5 hw, xk_wd6 hw, xk_wd7 hw, xk_wd8 hw, xm_0_0 hx, xm_0_10 hx, xm_0_11 hx, xm_0_12 hx, xm_0_13 hx, xm_0_14 hx, xm_0_15 hx, xm_0_2 hx, xm_0_5 hx, xm_0_6 hx, xm_0_7 hx, xm_0_9 hx, xm_40_0 hx, xm_40_1 hx, xm_41_0 hx, xm_44_0 hx, xm_44_1 hx, xm_73_4 hx, xm_73_5 hx, xm_73_6 hx, xm_77_1 hx, xm_77_2 hx, xm_77_3 hx, xm_77_4 hx, xm_77_5 hx, xm_77_6 hx, xm_77_7 hx, xm_77_8 hx, xm_77_9 hx, xm_87_2 hx, xm_87_3 hx, xm_87_4 hx, xm_87_5 hx, xm_87_6 hx, xm_87_7 hx, xm_87_8 hx, xm_lw2 hx hb, xm_lw3 hx hb, xm_lw4 hx hb, xm_lw5 hx hb, xm_st1 hx hb, xm_st10 hx hb, xm_st11 hx hb, xm_st13 hx hb, xm_st14 hx hb, xm_st15 hx hb, xm_st16 hx hb, xm_st17 hx hb, xm_st2 hx hb, xm_st4 hx hb, xm_st5 hx hb, xm_st6 hx hb, xm_st7 hx hb, xm_st9 hx hb, xm_wd10 hx hw, xm_wd11 hx hw, xm_wd4 hx hw, xm_wd5 hx hw, xm_wd6 hx hw, xm_wd7 hx hw, xm_wd8 hx hw, xm_wd9 hx hw, Bool.false_eq_true, eq_self, isk_t, i20_t, w20_t, l23_t, b21_t, b22_t, w_t, bif_t, bif_f, bif_d, if_pos, if_neg, if_true, if_false, not_true_eq_false, not_false_eq_true, Option.bind_some, Option.toList_some, Option.toList_none, List.cons_append, List.nil_append, Int.toNat_natCast, Int.reduceToNat, up_eq, up_p, up_k, sN,  hN, hbit, X_cell, i20_c, e0, e6, xy.2.2 ]
          exact k4
      · rw [hmt, decide_eq_false qb, if_neg (by decide)] at hbit
        have et : wayT S C y W t = W := by unfold wayT; rw [if_pos (by rw [wb]; exact decide_eq_false (fun g => qb ⟨g.2.1, g.2.2.1, g.2.2.2.2⟩))]
        rw [et]
        obtain ⟨μ3, k1, k2, k3⟩ := ih (t + 1) W μ hWI hX hW hK (fun t' h0 h1 => hm t' (by omega) h1) (by omega) (by omega)
        refine ⟨μ3, k1, k2, fun r hr => ?_⟩
        have k4 := k3 r hr
        rw [e6_80]; simp (disch := omega) only [e6_157, hst, hwd, xk_0, xk_1, xk_40, xk_41, xk_42, xk_43, xk_44, xk_45, xk_46, xk_47, xk_48, xk_49, xk_50, xk_51, xk_52, xk_53, xk_54, xk_55, xk_56, xk_57, xk_58, xk_59, xk_60, xk_61, xk_62, xk_63, xk_64, xk_65, xk_66, xk_67, xk_68, xk_69, xk_70, xk_71, xk_72, xk_73, xk_74, xk_75, xk_76, xk_77, xk_78, xk_79, xk_80, xk_81, xk_82, xk_83, xk_84, xk_85, xk_86, xk_87, xk_88, xk_89, xk_90, xk_91, xk_92, xk_93, xk_94, xk_95, xk_96, xk_97, xk_98, xk_st0 hb, xk_st1 hb, xk_st10 hb, xk_st11 hb, xk_st12 hb, xk_st13 hb, xk_st14 hb, xk_st15 hb, xk_st16 hb, xk_st17 hb, xk_st18 hb, xk_st2 hb, xk_st3 hb, xk_st4 hb, xk_st5 hb, xk_st6 hb, xk_st7 hb, xk_st8 hb, xk_st9 hb, xk_wd0 hw, xk_wd1 hw, xk_wd2 hw, xk_wd3 hw, xk_wd4 hw, xk_wd5 hw, xk_wd6 hw, xk_wd7 hw, xk_wd8 hw, xm_0_0 hx, xm_0_10 hx, xm_0_11 hx, xm_0_12 hx, xm_0_13 hx, xm_0_14 hx, xm_0_15 hx, xm_0_2 hx, xm_0_5 hx, xm_0_6 hx, xm_0_7 hx, xm_0_9 hx, xm_40_0 hx, xm_40_1 hx, xm_41_0 hx, xm_44_0 hx, xm_44_1 hx, xm_73_4 hx, xm_73_5 hx, xm_73_6 hx, xm_77_1 hx, xm_77_2 hx, xm_77_3 hx, xm_77_4 hx, xm_77_5 hx, xm_77_6 hx, xm_77_7 hx, xm_77_8 hx, xm_77_9 hx, xm_87_2 hx, xm_87_3 hx, xm_87_4 hx, xm_87_5 hx, xm_87_6 hx, xm_87_7 hx, xm_87_8 hx, xm_lw2 hx hb, xm_lw3 hx hb, xm_lw4 hx hb, xm_lw5 hx hb, xm_st1 hx hb, xm_st10 hx hb, xm_st11 hx hb, xm_st13 hx hb, xm_st14 hx hb, xm_st15 hx hb, xm_st16 hx hb, xm_st17 hx hb, xm_st2 hx hb, xm_st4 hx hb, xm_st5 hx hb, xm_st6 hx hb, xm_st7 hx hb, xm_st9 hx hb, xm_wd10 hx hw, xm_wd11 hx hw, xm_wd4 hx hw, xm_wd5 hx hw, xm_wd6 hx hw, xm_wd7 hx hw, xm_wd8 hx hw, xm_wd9 hx hw, Bool.false_eq_true, eq_self, isk_t, i20_t, w20_t, l23_t, b21_t, b22_t, w_t, bif_t, bif_f, bif_d, if_pos, if_neg, if_true, if_false, not_true_eq_false, not_false_eq_true, Option.bind_some, Option.toList_some, Option.toList_none, List.cons_append, List.nil_append, Int.toNat_natCast, Int.reduceToNat, up_eq, up_p, up_k, sN,  hN, hbit ]
        exact k4
theorem X_pass_out (hx : XM ρ) (hb : b = 2 ∨ b = 21) (hw : w = 46 ∨ w = 55 ∨ w = 64) (hst : ρ 73 0 = b) (hwd : ρ 73 1 = w) (hS : SI S) (hC : CI S C) (hD : D ≤ 20000) (hn3 : C.2.2.1 < 3) : ∀ (j : Nat) (y : Int) (W : MW) (μ : Nat → Nat → Int), WI S D W → XS μ b S → XW μ w W → XC μ S C → 0 ≤ y → y + j = S 0 3 → ∃ μ1, FrX w μ μ1 ∧ XW μ1 w (wayA S C j y W) ∧ am_E (d + 4) 6 2 [some (.inr (.inr 73)), some (.inl y), none, none, none, none] [] (SH, ρ, μ, cs) = some (none, (SH, ρ, μ1, cs)) := by
  intro j
  have b0 := hS.1
  have b1 := hS.2.1
  have b3 := hS.2.2.2.1
  induction j with
  | zero =>
    intro y W μ hWI hX hW hK y0 hy
    have hN := hX.1.2.2.1
    refine ⟨μ, frx_rf w μ, hW, ?_⟩
    rw [e6_2]; simp (disch := omega) only [hst, hwd, xk_0, xk_1, xk_40, xk_41, xk_42, xk_43, xk_44, xk_45, xk_46, xk_47, xk_48, xk_49, xk_50, xk_51, xk_52, xk_53, xk_54, xk_55, xk_56, xk_57, xk_58, xk_59, xk_60, xk_61, xk_62, xk_63, xk_64, xk_65, xk_66, xk_67, xk_68, xk_69, xk_70, xk_71, xk_72, xk_73, xk_74, xk_75, xk_76, xk_77, xk_78, xk_79, xk_80, xk_81, xk_82, xk_83, xk_84, xk_85, xk_86, xk_87, xk_88, xk_89, xk_90, xk_91, xk_92, xk_93, xk_94, xk_95, xk_96, xk_97, xk_98, xk_st0 hb, xk_st1 hb, xk_st10 hb, xk_st11 hb, xk_st12 hb, xk_st13 hb, xk_st14 hb, xk_st15 hb, xk_st16 hb, xk_st17 hb, xk_st18 hb, xk_st2 hb, xk_st3 hb, xk_st4 hb, xk_st5 hb, xk_st6 hb, xk_st7 hb, xk_st8 hb, xk_st9 hb, xk_wd0 hw, xk_wd1 hw, xk_wd2 hw, xk_wd3 hw, xk_wd4 hw, xk_wd5 hw, xk_wd6 hw, xk_wd7 hw, xk_wd8 hw, xm_0_0 hx, xm_0_10 hx, xm_0_11 hx, xm_0_12 hx, xm_0_13 hx, xm_0_14 hx, xm_0_15 hx, xm_0_2 hx, xm_0_5 hx, xm_0_6 hx, xm_0_7 hx, xm_0_9 hx, xm_40_0 hx, xm_40_1 hx, xm_41_0 hx, xm_44_0 hx, xm_44_1 hx, xm_73_4 hx, xm_73_5 hx, xm_73_6 hx, xm_77_1 hx, xm_77_2 hx, xm_77_3 hx, xm_77_4 hx, xm_77_5 hx, xm_77_6 hx, xm_77_7 hx, xm_77_8 hx, xm_77_9 hx, xm_87_2 hx, xm_87_3 hx, xm_87_4 hx, xm_87_5 hx, xm_87_6 hx, xm_87_7 hx, xm_87_8 hx, xm_lw2 hx hb, xm_lw3 hx hb, xm_lw4 hx hb, xm_lw5 hx hb, xm_st1 hx hb, xm_st10 hx hb, xm_st11 hx hb, xm_st13 hx hb, xm_st14 hx hb, xm_st15 hx hb, xm_st16 hx hb, xm_st17 hx hb, xm_st2 hx hb, xm_st4 hx hb, xm_st5 hx hb, xm_st6 hx hb, xm_st7 hx hb, xm_st9 hx hb, xm_wd10 hx hw, xm_wd11 hx hw, xm_wd4 hx hw, xm_wd5 hx hw, xm_wd6 hx hw, xm_wd7 hx hw, xm_wd8 hx hw, xm_wd9 hx hw, Bool.false_eq_true, eq_self, isk_t, i20_t, w20_t, l23_t, b21_t, b22_t, w_t, bif_t, bif_f, bif_d, if_pos, if_neg, if_true, if_false, not_true_eq_false, not_false_eq_true, Option.bind_some, Option.toList_some, Option.toList_none, List.cons_append, List.nil_append, Int.toNat_natCast, Int.reduceToNat, up_eq, up_p, up_k, sN,  hN ]
  | succ j ih =>
    intro y W μ hWI hX hW hK y0 hy
    have hN := hX.1.2.2.1
    have by' := hS.2.2.2.2.2.2.2.2.2.2.2.2.2.1 y y0 (by omega)
    have xy := hX.2.2.2.2.1 y y0 (by omega)
    have hwy := xc_way hK by'.1.1 (show S 8 y < 7 by omega)
    have h1 := hW.2.2.1 (S 8 y) by'.1.1 (by omega)
    have h2 := hW.2.2.1 (S 9 y) by'.2.1.1 (by omega)
    have el : wayA S C (j + 1) y W = wayA S C j (y + 1) (wayL S C y (S 0 1).toNat 0 W) := rfl
    rw [el]
    by_cases q : C.2.2.2.1 (S 8 y) = true
    · rw [wayL_shut q]
      rw [if_pos q] at hwy
      obtain ⟨μ2, k1, k2, k3⟩ := ih (y + 1) W μ hWI hX hW hK (by omega) (by omega)
      refine ⟨μ2, k1, k2, ?_⟩
      have hN1 := hX.1.2.1
      by_cases qn : S 0 1 ≤ 0
      · rw [e6_2]; simp (disch := omega) only [e6_80, hst, hwd, xk_0, xk_1, xk_40, xk_41, xk_42, xk_43, xk_44, xk_45, xk_46, xk_47, xk_48, xk_49, xk_50, xk_51, xk_52, xk_53, xk_54, xk_55, xk_56, xk_57, xk_58, xk_59, xk_60, xk_61, xk_62, xk_63, xk_64, xk_65, xk_66, xk_67, xk_68, xk_69, xk_70, xk_71, xk_72, xk_73, xk_74, xk_75, xk_76, xk_77, xk_78, xk_79, xk_80, xk_81, xk_82, xk_83, xk_84, xk_85, xk_86, xk_87, xk_88, xk_89, xk_90, xk_91, xk_92, xk_93, xk_94, xk_95, xk_96, xk_97, xk_98, xk_st0 hb, xk_st1 hb, xk_st10 hb, xk_st11 hb, xk_st12 hb, xk_st13 hb, xk_st14 hb, xk_st15 hb, xk_st16 hb, xk_st17 hb, xk_st18 hb, xk_st2 hb, xk_st3 hb, xk_st4 hb, xk_st5 hb, xk_st6 hb, xk_st7 hb, xk_st8 hb, xk_st9 hb, xk_wd0 hw, xk_wd1 hw, xk_wd2 hw, xk_wd3 hw, xk_wd4 hw, xk_wd5 hw, xk_wd6 hw, xk_wd7 hw, xk_wd8 hw, xm_0_0 hx, xm_0_10 hx, xm_0_11 hx, xm_0_12 hx, xm_0_13 hx, xm_0_14 hx, xm_0_15 hx, xm_0_2 hx, xm_0_5 hx, xm_0_6 hx, xm_0_7 hx, xm_0_9 hx, xm_40_0 hx, xm_40_1 hx, xm_41_0 hx, xm_44_0 hx, xm_44_1 hx, xm_73_4 hx, xm_73_5 hx, xm_73_6 hx, xm_77_1 hx, xm_77_2 hx, xm_77_3 hx, xm_77_4 hx, xm_77_5 hx, xm_77_6 hx, xm_77_7 hx, xm_77_8 hx, xm_77_9 hx, xm_87_2 hx, xm_87_3 hx, xm_87_4 hx, xm_87_5 hx, xm_87_6 hx, xm_87_7 hx, xm_87_8 hx, xm_lw2 hx hb, xm_lw3 hx hb, xm_lw4 hx hb, xm_lw5 hx hb, xm_st1 hx hb, xm_st10 hx hb, xm_st11 hx hb, xm_st13 hx hb, xm_st14 hx hb, xm_st15 hx hb, xm_st16 hx hb, xm_st17 hx hb, xm_st2 hx hb, xm_st4 hx hb, xm_st5 hx hb, xm_st6 hx hb, xm_st7 hx hb, xm_st9 hx hb, xm_wd10 hx hw, xm_wd11 hx hw, xm_wd4 hx hw, xm_wd5 hx hw, xm_wd6 hx hw, xm_wd7 hx hw, xm_wd8 hx hw, xm_wd9 hx hw, Bool.false_eq_true, eq_self, isk_t, i20_t, w20_t, l23_t, b21_t, b22_t, w_t, bif_t, bif_f, bif_d, if_pos, if_neg, if_true, if_false, not_true_eq_false, not_false_eq_true, Option.bind_some, Option.toList_some, Option.toList_none, List.cons_append, List.nil_append, Int.toNat_natCast, Int.reduceToNat, up_eq, up_p, up_k, sN,  hN, xy.1, xy.2.1, hwy, hN1 ]
        exact am_E_le (am_lq_of _ _ (by simp [am_leb])) k3
      · rw [e6_2]; simp (disch := omega) only [e6_80, hst, hwd, xk_0, xk_1, xk_40, xk_41, xk_42, xk_43, xk_44, xk_45, xk_46, xk_47, xk_48, xk_49, xk_50, xk_51, xk_52, xk_53, xk_54, xk_55, xk_56, xk_57, xk_58, xk_59, xk_60, xk_61, xk_62, xk_63, xk_64, xk_65, xk_66, xk_67, xk_68, xk_69, xk_70, xk_71, xk_72, xk_73, xk_74, xk_75, xk_76, xk_77, xk_78, xk_79, xk_80, xk_81, xk_82, xk_83, xk_84, xk_85, xk_86, xk_87, xk_88, xk_89, xk_90, xk_91, xk_92, xk_93, xk_94, xk_95, xk_96, xk_97, xk_98, xk_st0 hb, xk_st1 hb, xk_st10 hb, xk_st11 hb, xk_st12 hb, xk_st13 hb, xk_st14 hb, xk_st15 hb, xk_st16 hb, xk_st17 hb, xk_st18 hb, xk_st2 hb, xk_st3 hb, xk_st4 hb, xk_st5 hb, xk_st6 hb, xk_st7 hb, xk_st8 hb, xk_st9 hb, xk_wd0 hw, xk_wd1 hw, xk_wd2 hw, xk_wd3 hw, xk_wd4 hw, xk_wd5 hw, xk_wd6 hw, xk_wd7 hw, xk_wd8 hw, xm_0_0 hx, xm_0_10 hx, xm_0_11 hx, xm_0_12 hx, xm_0_13 hx, xm_0_14 hx, xm_0_15 hx, xm_0_2 hx, xm_0_5 hx, xm_0_6 hx, xm_0_7 hx, xm_0_9 hx, xm_40_0 hx, xm_40_1 hx, xm_41_0 hx, xm_44_0 hx, xm_44_1 hx, xm_73_4 hx, xm_73_5 hx, xm_73_6 hx, xm_77_1 hx, xm_77_2 hx, xm_77_3 hx, xm_77_4 hx, xm_77_5 hx, xm_77_6 hx, xm_77_7 hx, xm_77_8 hx, xm_77_9 hx, xm_87_2 hx, xm_87_3 hx, xm_87_4 hx, xm_87_5 hx, xm_87_6 hx, xm_87_7 hx, xm_87_8 hx, xm_lw2 hx hb, xm_lw3 hx hb, xm_lw4 hx hb, xm_lw5 hx hb, xm_st1 hx hb, xm_st10 hx hb, xm_st11 hx hb, xm_st13 hx hb, xm_st14 hx hb, xm_st15 hx hb, xm_st16 hx hb, xm_st17 hx hb, xm_st2 hx hb, xm_st4 hx hb, xm_st5 hx hb, xm_st6 hx hb, xm_st7 hx hb, xm_st9 hx hb, xm_wd10 hx hw, xm_wd11 hx hw, xm_wd4 hx hw, xm_wd5 hx hw, xm_wd6 hx hw, xm_wd7 hx hw, xm_wd8 hx hw, xm_wd9 hx hw, Bool.false_eq_true, eq_self, isk_t, i20_t, w20_t, l23_t, b21_t, b22_t, w_t, bif_t, bif_f, bif_d, if_pos, if_neg, if_true, if_false, not_true_eq_false, not_false_eq_true, Option.bind_some, Option.toList_some, Option.toList_none, List.cons_append, List.nil_append, Int.toNat_natCast, Int.reduceToNat, up_eq, up_p, up_k, sN,  hN, xy.1, xy.2.1, hwy, hN1 ]
        exact am_E_le (am_lq_of _ _ (by simp [am_leb])) k3
    · have q' : C.2.2.2.1 (S 8 y) = false := by simpa using q
      rw [if_neg q] at hwy
      have h3 := hK.2.2.2.1
      have hmask : am_and (am_and (μ (w + 2) (S 8 y).toNat) (am_xor (μ (w + 2) (S 9 y).toNat) (-1))) (μ 73 7) = (((((μ (w + 2) (S 8 y).toNat).toNat &&& (63 ^^^ (μ (w + 2) (S 9 y).toNat).toNat)) &&& (μ 73 7).toNat : Nat)) : Int) := by
        have e1 := and_not (μ (w + 2) (S 8 y).toNat).toNat (by omega) (μ (w + 2) (S 9 y).toNat).toNat (by omega)
        rw [Int.toNat_of_nonneg h1.1, Int.toNat_of_nonneg h2.1] at e1
        rw [e1]
        have e2 := nb_and (a := (μ (w + 2) (S 8 y).toNat).toNat &&& (63 ^^^ (μ (w + 2) (S 9 y).toNat).toNat)) (b := (μ 73 7).toNat) (Nat.lt_of_le_of_lt Nat.and_le_left (by omega)) (by omega)
        rw [Int.toNat_of_nonneg h3.1] at e2
        exact e2
      have hzl : (((μ (w + 2) (S 8 y).toNat).toNat &&& (63 ^^^ (μ (w + 2) (S 9 y).toNat).toNat)) &&& (μ 73 7).toNat) < 64 := Nat.lt_of_le_of_lt Nat.and_le_right (by omega)
      have hbits : ∀ t' : Int, 0 ≤ t' → t' < 6 → (((μ (w + 2) (S 8 y).toNat).toNat &&& (63 ^^^ (μ (w + 2) (S 9 y).toNat).toNat)) &&& (μ 73 7).toNat).testBit t'.toNat = decide (C.2.2.2.2.2 t' = true ∧ W 5 (S 8 y) t' ≠ -1 ∧ W 5 (S 9 y) t' = -1) := fun t' g0 g1 => by
        have e63 : (63 : Nat) = 2 ^ 6 - 1 := rfl
        rw [Nat.testBit_and, Nat.testBit_and, Nat.testBit_xor, e63, Nat.testBit_two_pow_sub_one, h3.2.2 t' g0 g1, (hW.2.2.2 (S 8 y) t' by'.1.1 (by omega) g0 g1).1, (hW.2.2.2 (S 9 y) t' by'.2.1.1 (by omega) g0 g1).1]
        have e6 : decide (t'.toNat < 6) = true := decide_eq_true (by omega)
        rw [e6]
        by_cases c1 : C.2.2.2.2.2 t' = true
        · by_cases c2 : W 5 (S 8 y) t' = -1
          · simp [c2]
          · by_cases c3 : W 5 (S 9 y) t' = -1
            · simp [c1, c2, c3]
            · simp [c3]
        · simp [c1]
      generalize (((μ (w + 2) (S 8 y).toNat).toNat &&& (63 ^^^ (μ (w + 2) (S 9 y).toNat).toNat)) &&& (μ 73 7).toNat) = z at hmask hzl hbits
      obtain ⟨μ1, g1, g2, g3⟩ := X_pass_in (ρ := ρ) (cs := cs) (d := d) hx hb hw hst hwd hS hC hD hn3 y0 (show y < S 0 3 by omega) q' hzl (S 0 1).toNat 0 W μ hWI hX hW hK (fun t' h0 h1 => hbits t' h0 h1) (Int.le_refl _) (by omega)
      obtain ⟨μ2, k1, k2, k3⟩ := ih (y + 1) _ μ1 (wi_wayL hS hC y0 (by omega) _ 0 W hWI (Int.le_refl _) (by omega)) (xs_x hX hb hw g1) g2 (xc_x hK hw g1) (by omega) (by omega)
      refine ⟨μ2, frx_tr g1 k1, k2, ?_⟩
      have g4 := g3 _ k3
      rw [e6_2]; simp (disch := omega) only [hst, hwd, xk_0, xk_1, xk_40, xk_41, xk_42, xk_43, xk_44, xk_45, xk_46, xk_47, xk_48, xk_49, xk_50, xk_51, xk_52, xk_53, xk_54, xk_55, xk_56, xk_57, xk_58, xk_59, xk_60, xk_61, xk_62, xk_63, xk_64, xk_65, xk_66, xk_67, xk_68, xk_69, xk_70, xk_71, xk_72, xk_73, xk_74, xk_75, xk_76, xk_77, xk_78, xk_79, xk_80, xk_81, xk_82, xk_83, xk_84, xk_85, xk_86, xk_87, xk_88, xk_89, xk_90, xk_91, xk_92, xk_93, xk_94, xk_95, xk_96, xk_97, xk_98, xk_st0 hb, xk_st1 hb, xk_st10 hb, xk_st11 hb, xk_st12 hb, xk_st13 hb, xk_st14 hb, xk_st15 hb, xk_st16 hb, xk_st17 hb, xk_st18 hb, xk_st2 hb, xk_st3 hb, xk_st4 hb, xk_st5 hb, xk_st6 hb, xk_st7 hb, xk_st8 hb, xk_st9 hb, xk_wd0 hw, xk_wd1 hw, xk_wd2 hw, xk_wd3 hw, xk_wd4 hw, xk_wd5 hw, xk_wd6 hw, xk_wd7 hw, xk_wd8 hw, xm_0_0 hx, xm_0_10 hx, xm_0_11 hx, xm_0_12 hx, xm_0_13 hx, xm_0_14 hx, xm_0_15 hx, xm_0_2 hx, xm_0_5 hx, xm_0_6 hx, xm_0_7 hx, xm_0_9 hx, xm_40_0 hx, xm_40_1 hx, xm_41_0 hx, xm_44_0 hx, xm_44_1 hx, xm_73_4 hx, xm_73_5 hx, xm_73_6 hx, xm_77_1 hx, xm_77_2 hx, xm_77_3 hx, xm_77_4 hx, xm_77_5 hx, xm_77_6 hx, xm_77_7 hx, xm_77_8 hx, xm_77_9 hx, xm_87_2 hx, xm_87_3 hx, xm_87_4 hx, xm_87_5 hx, xm_87_6 hx, xm_87_7 hx, xm_87_8 hx, xm_lw2 hx hb, xm_lw3 hx hb, xm_lw4 hx hb, xm_lw5 hx hb, xm_st1 hx hb, xm_st10 hx hb, xm_st11 hx hb, xm_st13 hx hb, xm_st14 hx hb, xm_st15 hx hb, xm_st16 hx hb, xm_st17 hx hb, xm_st2 hx hb, xm_st4 hx hb, xm_st5 hx hb, xm_st6 hx hb, xm_st7 hx hb, xm_st9 hx hb, xm_wd10 hx hw, xm_wd11 hx hw, xm_wd4 hx hw, xm_wd5 hx hw, xm_wd6 hx hw, xm_wd7 hx hw, xm_wd8 hx hw, xm_wd9 hx hw, Bool.false_eq_true, eq_self, isk_t, i20_t, w20_t, l23_t, b21_t, b22_t, w_t, bif_t, bif_f, bif_d, if_pos, if_neg, if_true, if_false, not_true_eq_false, not_false_eq_true, Option.bind_some, Option.toList_some, Option.toList_none, List.cons_append, List.nil_append, Int.toNat_natCast, Int.reduceToNat, up_eq, up_p, up_k, sN,  hN, xy.1, xy.2.1, hwy, hmask ]
      exact g4
theorem X_passAll (hx : XM ρ) (hb : b = 2 ∨ b = 21) (hw : w = 46 ∨ w = 55 ∨ w = 64) (hst : ρ 73 0 = b) (hwd : ρ 73 1 = w) {W : MW} {μ : Nat → Nat → Int} (hS : SI S) (hC : CI S C) (hD : D ≤ 20000) (hn3 : C.2.2.1 < 3) (hWI : WI S D W) (hX : XS μ b S) (hW : XW μ w W) (hK : XC μ S C) : ∃ μ1, FrX w μ μ1 ∧ XW μ1 w (wayA S C (S 0 3).toNat 0 W) ∧ am_E (d + 4) 6 0 [some (.inr (.inr 73)), none, none, none, none, none] [] (SH, ρ, μ, cs) = some (none, (SH, ρ, μ1, cs)) := by
  have b3 := hS.2.2.2.1
  rw [e6_0]
  exact X_pass_out hx hb hw hst hwd hS hC hD hn3 (S 0 3).toNat 0 W μ hWI hX hW hK (Int.le_refl _) (by omega)
theorem X_tells_all (hx : XM ρ) (hb : b = 2 ∨ b = 21) (hw : w = 46 ∨ w = 55 ∨ w = 64) (hst : ρ 73 0 = b) (hwd : ρ 73 1 = w) (hS : SI S) (hC : CI S C) (hD : D ≤ 20000) : ∀ (j : Nat) (l : Int) (W : MW) (μ : Nat → Nat → Int), WI S D W → XS μ b S → XW μ w W → XC μ S C → 0 ≤ l → l + j = S 0 4 → W 3 0 0 + j ≤ 12 * D → ∃ μ1, FrX w μ μ1 ∧ XW μ1 w (wp (telA S C j l W) 0 0 0 (W 0 0 0 + 1)) ∧ am_E (d + 6) 4 10 [some (.inr (.inr 73)), some (.inl l), none, none, none] [] (SH, ρ, μ, cs) = some (none, (SH, ρ, μ1, cs)) := by
  intro j
  have b0 := hS.1
  have b1 := hS.2.1
  have b4 := hS.2.2.2.2.1
  induction j with
  | zero =>
    intro l W μ hWI hX hW hK l0 hl hi
    have hN := hX.1.2.2.2
    have e0 := xw_day hW
    have bd := hWI.1
    refine ⟨am_up μ w 0 (W 0 0 0 + 1), fun q k hq _ _ => up_p (by omega), xw_up_sc hw hW (by omega), ?_⟩
    rw [e4_10]; simp (disch := omega) only [hst, hwd, xk_0, xk_1, xk_40, xk_41, xk_42, xk_43, xk_44, xk_45, xk_46, xk_47, xk_48, xk_49, xk_50, xk_51, xk_52, xk_53, xk_54, xk_55, xk_56, xk_57, xk_58, xk_59, xk_60, xk_61, xk_62, xk_63, xk_64, xk_65, xk_66, xk_67, xk_68, xk_69, xk_70, xk_71, xk_72, xk_73, xk_74, xk_75, xk_76, xk_77, xk_78, xk_79, xk_80, xk_81, xk_82, xk_83, xk_84, xk_85, xk_86, xk_87, xk_88, xk_89, xk_90, xk_91, xk_92, xk_93, xk_94, xk_95, xk_96, xk_97, xk_98, xk_st0 hb, xk_st1 hb, xk_st10 hb, xk_st11 hb, xk_st12 hb, xk_st13 hb, xk_st14 hb, xk_st15 hb, xk_st16 hb, xk_st17 hb, xk_st18 hb, xk_st2 hb, xk_st3 hb, xk_st4 hb, xk_st5 hb, xk_st6 hb, xk_st7 hb, xk_st8 hb, xk_st9 hb, xk_wd0 hw, xk_wd1 hw, xk_wd2 hw, xk_wd3 hw, xk_wd4 hw, xk_wd5 hw, xk_wd6 hw, xk_wd7 hw, xk_wd8 hw, xm_0_0 hx, xm_0_10 hx, xm_0_11 hx, xm_0_12 hx, xm_0_13 hx, xm_0_14 hx, xm_0_15 hx, xm_0_2 hx, xm_0_5 hx, xm_0_6 hx, xm_0_7 hx, xm_0_9 hx, xm_40_0 hx, xm_40_1 hx, xm_41_0 hx, xm_44_0 hx, xm_44_1 hx, xm_73_4 hx, xm_73_5 hx, xm_73_6 hx, xm_77_1 hx, xm_77_2 hx, xm_77_3 hx, xm_77_4 hx, xm_77_5 hx, xm_77_6 hx, xm_77_7 hx, xm_77_8 hx, xm_77_9 hx, xm_87_2 hx, xm_87_3 hx, xm_87_4 hx, xm_87_5 hx, xm_87_6 hx, xm_87_7 hx, xm_87_8 hx, xm_lw2 hx hb, xm_lw3 hx hb, xm_lw4 hx hb, xm_lw5 hx hb, xm_st1 hx hb, xm_st10 hx hb, xm_st11 hx hb, xm_st13 hx hb, xm_st14 hx hb, xm_st15 hx hb, xm_st16 hx hb, xm_st17 hx hb, xm_st2 hx hb, xm_st4 hx hb, xm_st5 hx hb, xm_st6 hx hb, xm_st7 hx hb, xm_st9 hx hb, xm_wd10 hx hw, xm_wd11 hx hw, xm_wd4 hx hw, xm_wd5 hx hw, xm_wd6 hx hw, xm_wd7 hx hw, xm_wd8 hx hw, xm_wd9 hx hw, Bool.false_eq_true, eq_self, isk_t, i20_t, w20_t, l23_t, b21_t, b22_t, w_t, bif_t, bif_f, bif_d, if_pos, if_neg, if_true, if_false, not_true_eq_false, not_false_eq_true, Option.bind_some, Option.toList_some, Option.toList_none, List.cons_append, List.nil_append, Int.toNat_natCast, Int.reduceToNat, up_eq, up_p, up_k, sN,  hN, e0 ]
  | succ j ih =>
    intro l W μ hWI hX hW hK l0 hl hi
    have hN := hX.1.2.2.2
    have e0 := xw_day hW
    have e3 := xw_idle hW
    have bl := hS.2.2.2.2.2.2.2.2.2.2.2.2.2.2.1 l l0 (by omega)
    have xl := hX.2.2.2.2.2.1 l l0 (by omega)
    have bi := hWI.2.2.2.1
    have hWn := wi_telT (C := C) hS hWI l0 (show l < S 0 4 by omega) (by omega)
    have ht := xc_tel hK bl.1.1 (show S 11 l < 7 by omega)
    have hg := xc_thg hK bl.2.1.1 (show S 12 l < 6 by omega)
    have el : telA S C (j + 1) l W = telA S C j (l + 1) (telT S C l W) := rfl
    rw [el]
    have e00 : telT S C l W 0 0 0 = W 0 0 0 := telT_0
    rw [← e00]
    have hmp := fun d => X_mayPrint (ρ := ρ) (cs := cs) (d := d) hx hw hW bl.1.1 (show S 11 l < 7 by omega) bl.2.1.1 (show S 12 l < 6 by omega)
    by_cases q1 : S 13 l = W 0 0 0
    · by_cases q2 : C.2.2.2.2.1 (S 11 l) = true
      · have et : telT S C l W = W := by unfold telT; rw [if_neg (fun g => by rw [q2] at g; cases g.2.1)]
        rw [et]
        obtain ⟨μ2, k1, k2, k3⟩ := ih (l + 1) W μ hWI hX hW hK (by omega) (by omega) (by omega)
        refine ⟨μ2, k1, k2, ?_⟩
        rw [if_pos q2] at ht
        rw [e4_10]; simp (disch := omega) only [hst, hwd, xk_0, xk_1, xk_40, xk_41, xk_42, xk_43, xk_44, xk_45, xk_46, xk_47, xk_48, xk_49, xk_50, xk_51, xk_52, xk_53, xk_54, xk_55, xk_56, xk_57, xk_58, xk_59, xk_60, xk_61, xk_62, xk_63, xk_64, xk_65, xk_66, xk_67, xk_68, xk_69, xk_70, xk_71, xk_72, xk_73, xk_74, xk_75, xk_76, xk_77, xk_78, xk_79, xk_80, xk_81, xk_82, xk_83, xk_84, xk_85, xk_86, xk_87, xk_88, xk_89, xk_90, xk_91, xk_92, xk_93, xk_94, xk_95, xk_96, xk_97, xk_98, xk_st0 hb, xk_st1 hb, xk_st10 hb, xk_st11 hb, xk_st12 hb, xk_st13 hb, xk_st14 hb, xk_st15 hb, xk_st16 hb, xk_st17 hb, xk_st18 hb, xk_st2 hb, xk_st3 hb, xk_st4 hb, xk_st5 hb, xk_st6 hb, xk_st7 hb, xk_st8 hb, xk_st9 hb, xk_wd0 hw, xk_wd1 hw, xk_wd2 hw, xk_wd3 hw, xk_wd4 hw, xk_wd5 hw, xk_wd6 hw, xk_wd7 hw, xk_wd8 hw, xm_0_0 hx, xm_0_10 hx, xm_0_11 hx, xm_0_12 hx, xm_0_13 hx, xm_0_14 hx, xm_0_15 hx, xm_0_2 hx, xm_0_5 hx, xm_0_6 hx, xm_0_7 hx, xm_0_9 hx, xm_40_0 hx, xm_40_1 hx, xm_41_0 hx, xm_44_0 hx, xm_44_1 hx, xm_73_4 hx, xm_73_5 hx, xm_73_6 hx, xm_77_1 hx, xm_77_2 hx, xm_77_3 hx, xm_77_4 hx, xm_77_5 hx, xm_77_6 hx, xm_77_7 hx, xm_77_8 hx, xm_77_9 hx, xm_87_2 hx, xm_87_3 hx, xm_87_4 hx, xm_87_5 hx, xm_87_6 hx, xm_87_7 hx, xm_87_8 hx, xm_lw2 hx hb, xm_lw3 hx hb, xm_lw4 hx hb, xm_lw5 hx hb, xm_st1 hx hb, xm_st10 hx hb, xm_st11 hx hb, xm_st13 hx hb, xm_st14 hx hb, xm_st15 hx hb, xm_st16 hx hb, xm_st17 hx hb, xm_st2 hx hb, xm_st4 hx hb, xm_st5 hx hb, xm_st6 hx hb, xm_st7 hx hb, xm_st9 hx hb, xm_wd10 hx hw, xm_wd11 hx hw, xm_wd4 hx hw, xm_wd5 hx hw, xm_wd6 hx hw, xm_wd7 hx hw, xm_wd8 hx hw, xm_wd9 hx hw, Bool.false_eq_true, eq_self, isk_t, i20_t, w20_t, l23_t, b21_t, b22_t, w_t, bif_t, bif_f, bif_d, if_pos, if_neg, if_true, if_false, not_true_eq_false, not_false_eq_true, Option.bind_some, Option.toList_some, Option.toList_none, List.cons_append, List.nil_append, Int.toNat_natCast, Int.reduceToNat, up_eq, up_p, up_k, sN,  hN, xl.1, xl.2.1, xl.2.2, e0, q1, ht ]
        exact am_E_le (am_lq_of _ _ (by simp [am_leb])) k3
      · have q2' : C.2.2.2.2.1 (S 11 l) = false := by simpa using q2
        rw [if_neg q2] at ht
        by_cases q5 : C.2.2.2.2.2 (S 12 l) = true
        · rw [if_pos q5] at hg
          by_cases q3 : W 5 (S 11 l) (S 12 l) ≠ -1 ∧ W 8 (S 11 l) (S 12 l) = -2
          · have et : telT S C l W = tellW S C W (S 11 l) (S 12 l) := by unfold telT; rw [if_pos ⟨q1, q2', q5⟩, if_neg (by omega)]
            rw [et] at hWn ⊢
            rw [if_pos q3] at hmp
            obtain ⟨μ1, g1, g2, g3⟩ := X_printTelling (ρ := ρ) (cs := cs) (d := d) hx hb hw hst hwd hS hC hD hWI hX hW hK bl.1.1 bl.1.2 bl.2.1.1 bl.2.1.2 q3.1
            obtain ⟨μ2, k1, k2, k3⟩ := ih (l + 1) _ μ1 hWn.1 (xs_x hX hb hw g1) g2 (xc_x hK hw g1) (by omega) (by omega) (by omega)
            refine ⟨μ2, frx_tr g1 k1, k2, ?_⟩
            rw [e4_10]; simp (disch := omega) only [e4_104, e4_113, hst, hwd, xk_0, xk_1, xk_40, xk_41, xk_42, xk_43, xk_44, xk_45, xk_46, xk_47, xk_48, xk_49, xk_50, xk_51, xk_52, xk_53, xk_54, xk_55, xk_56, xk_57, xk_58, xk_59, xk_60, xk_61, xk_62, xk_63, xk_64, xk_65, xk_66, xk_67, xk_68, xk_69, xk_70, xk_71, xk_72, xk_73, xk_74, xk_75, xk_76, xk_77, xk_78, xk_79, xk_80, xk_81, xk_82, xk_83, xk_84, xk_85, xk_86, xk_87, xk_88, xk_89, xk_90, xk_91, xk_92, xk_93, xk_94, xk_95, xk_96, xk_97, xk_98, xk_st0 hb, xk_st1 hb, xk_st10 hb, xk_st11 hb, xk_st12 hb, xk_st13 hb, xk_st14 hb, xk_st15 hb, xk_st16 hb, xk_st17 hb, xk_st18 hb, xk_st2 hb, xk_st3 hb, xk_st4 hb, xk_st5 hb, xk_st6 hb, xk_st7 hb, xk_st8 hb, xk_st9 hb, xk_wd0 hw, xk_wd1 hw, xk_wd2 hw, xk_wd3 hw, xk_wd4 hw, xk_wd5 hw, xk_wd6 hw, xk_wd7 hw, xk_wd8 hw, xm_0_0 hx, xm_0_10 hx, xm_0_11 hx, xm_0_12 hx, xm_0_13 hx, xm_0_14 hx, xm_0_15 hx, xm_0_2 hx, xm_0_5 hx, xm_0_6 hx, xm_0_7 hx, xm_0_9 hx, xm_40_0 hx, xm_40_1 hx, xm_41_0 hx, xm_44_0 hx, xm_44_1 hx, xm_73_4 hx, xm_73_5 hx, xm_73_6 hx, xm_77_1 hx, xm_77_2 hx, xm_77_3 hx, xm_77_4 hx, xm_77_5 hx, xm_77_6 hx, xm_77_7 hx, xm_77_8 hx, xm_77_9 hx, xm_87_2 hx, xm_87_3 hx, xm_87_4 hx, xm_87_5 hx, xm_87_6 hx, xm_87_7 hx, xm_87_8 hx, xm_lw2 hx hb, xm_lw3 hx hb, xm_lw4 hx hb, xm_lw5 hx hb, xm_st1 hx hb, xm_st10 hx hb, xm_st11 hx hb, xm_st13 hx hb, xm_st14 hx hb, xm_st15 hx hb, xm_st16 hx hb, xm_st17 hx hb, xm_st2 hx hb, xm_st4 hx hb, xm_st5 hx hb, xm_st6 hx hb, xm_st7 hx hb, xm_st9 hx hb, xm_wd10 hx hw, xm_wd11 hx hw, xm_wd4 hx hw, xm_wd5 hx hw, xm_wd6 hx hw, xm_wd7 hx hw, xm_wd8 hx hw, xm_wd9 hx hw, Bool.false_eq_true, eq_self, isk_t, i20_t, w20_t, l23_t, b21_t, b22_t, w_t, bif_t, bif_f, bif_d, if_pos, if_neg, if_true, if_false, not_true_eq_false, not_false_eq_true, Option.bind_some, Option.toList_some, Option.toList_none, List.cons_append, List.nil_append, Int.toNat_natCast, Int.reduceToNat, up_eq, up_p, up_k, sN,  hN, xl.1, xl.2.1, xl.2.2, e0, q1, ht, hg, hmp, g3 ]
            exact am_E_le (am_lq_of _ _ (by simp [am_leb])) k3
          · have et : telT S C l W = wp W 3 0 0 (W 3 0 0 + 1) := by unfold telT; rw [if_pos ⟨q1, q2', q5⟩, if_pos (by omega)]
            rw [et] at hWn ⊢
            rw [if_neg q3] at hmp
            have fr : FrX w μ (am_up μ w 3 (W 3 0 0 + 1)) := fun q k hq _ _ => up_p (by omega)
            obtain ⟨μ2, k1, k2, k3⟩ := ih (l + 1) _ (am_up μ w 3 (W 3 0 0 + 1)) hWn.1 (xs_x hX hb hw fr) (xw_up_sc hw hW (by omega)) (xc_x hK hw fr) (by omega) (by omega) (by omega)
            refine ⟨μ2, frx_tr fr k1, k2, ?_⟩
            rw [e4_10]; simp (disch := omega) only [e4_104, hst, hwd, xk_0, xk_1, xk_40, xk_41, xk_42, xk_43, xk_44, xk_45, xk_46, xk_47, xk_48, xk_49, xk_50, xk_51, xk_52, xk_53, xk_54, xk_55, xk_56, xk_57, xk_58, xk_59, xk_60, xk_61, xk_62, xk_63, xk_64, xk_65, xk_66, xk_67, xk_68, xk_69, xk_70, xk_71, xk_72, xk_73, xk_74, xk_75, xk_76, xk_77, xk_78, xk_79, xk_80, xk_81, xk_82, xk_83, xk_84, xk_85, xk_86, xk_87, xk_88, xk_89, xk_90, xk_91, xk_92, xk_93, xk_94, xk_95, xk_96, xk_97, xk_98, xk_st0 hb, xk_st1 hb, xk_st10 hb, xk_st11 hb, xk_st12 hb, xk_st13 hb, xk_st14 hb, xk_st15 hb, xk_st16 hb, xk_st17 hb, xk_st18 hb, xk_st2 hb, xk_st3 hb, xk_st4 hb, xk_st5 hb, xk_st6 hb, xk_st7 hb, xk_st8 hb, xk_st9 hb, xk_wd0 hw, xk_wd1 hw, xk_wd2 hw, xk_wd3 hw, xk_wd4 hw, xk_wd5 hw, xk_wd6 hw, xk_wd7 hw, xk_wd8 hw, xm_0_0 hx, xm_0_10 hx, xm_0_11 hx, xm_0_12 hx, xm_0_13 hx, xm_0_14 hx, xm_0_15 hx, xm_0_2 hx, xm_0_5 hx, xm_0_6 hx, xm_0_7 hx, xm_0_9 hx, xm_40_0 hx, xm_40_1 hx, xm_41_0 hx, xm_44_0 hx, xm_44_1 hx, xm_73_4 hx, xm_73_5 hx, xm_73_6 hx, xm_77_1 hx, xm_77_2 hx, xm_77_3 hx, xm_77_4 hx, xm_77_5 hx, xm_77_6 hx, xm_77_7 hx, xm_77_8 hx, xm_77_9 hx, xm_87_2 hx, xm_87_3 hx, xm_87_4 hx, xm_87_5 hx, xm_87_6 hx, xm_87_7 hx, xm_87_8 hx, xm_lw2 hx hb, xm_lw3 hx hb, xm_lw4 hx hb, xm_lw5 hx hb, xm_st1 hx hb, xm_st10 hx hb, xm_st11 hx hb, xm_st13 hx hb, xm_st14 hx hb, xm_st15 hx hb, xm_st16 hx hb, xm_st17 hx hb, xm_st2 hx hb, xm_st4 hx hb, xm_st5 hx hb, xm_st6 hx hb, xm_st7 hx hb, xm_st9 hx hb, xm_wd10 hx hw, xm_wd11 hx hw, xm_wd4 hx hw, xm_wd5 hx hw, xm_wd6 hx hw, xm_wd7 hx hw, xm_wd8 hx hw, xm_wd9 hx hw, Bool.false_eq_true, eq_self, isk_t, i20_t, w20_t, l23_t, b21_t, b22_t, w_t, bif_t, bif_f, bif_d, if_pos, if_neg, if_true, if_false, not_true_eq_false, not_false_eq_true, Option.bind_some, Option.toList_some, Option.toList_none, List.cons_append, List.nil_append, Int.toNat_natCast, Int.reduceToNat, up_eq, up_p, up_k, sN,  hN, xl.1, xl.2.1, xl.2.2, e0, e3, q1, ht, hg, hmp ]
            exact am_E_le (am_lq_of _ _ (by simp [am_leb])) k3
        · rw [if_neg q5] at hg
          have et : telT S C l W = W := by unfold telT; rw [if_neg (fun g => q5 g.2.2)]
          rw [et]
          obtain ⟨μ2, k1, k2, k3⟩ := ih (l + 1) W μ hWI hX hW hK (by omega) (by omega) (by omega)
          refine ⟨μ2, k1, k2, ?_⟩
          rw [e4_10]; simp (disch := omega) only [hst, hwd, xk_0, xk_1, xk_40, xk_41, xk_42, xk_43, xk_44, xk_45, xk_46, xk_47, xk_48, xk_49, xk_50, xk_51, xk_52, xk_53, xk_54, xk_55, xk_56, xk_57, xk_58, xk_59, xk_60, xk_61, xk_62, xk_63, xk_64, xk_65, xk_66, xk_67, xk_68, xk_69, xk_70, xk_71, xk_72, xk_73, xk_74, xk_75, xk_76, xk_77, xk_78, xk_79, xk_80, xk_81, xk_82, xk_83, xk_84, xk_85, xk_86, xk_87, xk_88, xk_89, xk_90, xk_91, xk_92, xk_93, xk_94, xk_95, xk_96, xk_97, xk_98, xk_st0 hb, xk_st1 hb, xk_st10 hb, xk_st11 hb, xk_st12 hb, xk_st13 hb, xk_st14 hb, xk_st15 hb, xk_st16 hb, xk_st17 hb, xk_st18 hb, xk_st2 hb, xk_st3 hb, xk_st4 hb, xk_st5 hb, xk_st6 hb, xk_st7 hb, xk_st8 hb, xk_st9 hb, xk_wd0 hw, xk_wd1 hw, xk_wd2 hw, xk_wd3 hw, xk_wd4 hw, xk_wd5 hw, xk_wd6 hw, xk_wd7 hw, xk_wd8 hw, xm_0_0 hx, xm_0_10 hx, xm_0_11 hx, xm_0_12 hx, xm_0_13 hx, xm_0_14 hx, xm_0_15 hx, xm_0_2 hx, xm_0_5 hx, xm_0_6 hx, xm_0_7 hx, xm_0_9 hx, xm_40_0 hx, xm_40_1 hx, xm_41_0 hx, xm_44_0 hx, xm_44_1 hx, xm_73_4 hx, xm_73_5 hx, xm_73_6 hx, xm_77_1 hx, xm_77_2 hx, xm_77_3 hx, xm_77_4 hx, xm_77_5 hx, xm_77_6 hx, xm_77_7 hx, xm_77_8 hx, xm_77_9 hx, xm_87_2 hx, xm_87_3 hx, xm_87_4 hx, xm_87_5 hx, xm_87_6 hx, xm_87_7 hx, xm_87_8 hx, xm_lw2 hx hb, xm_lw3 hx hb, xm_lw4 hx hb, xm_lw5 hx hb, xm_st1 hx hb, xm_st10 hx hb, xm_st11 hx hb, xm_st13 hx hb, xm_st14 hx hb, xm_st15 hx hb, xm_st16 hx hb, xm_st17 hx hb, xm_st2 hx hb, xm_st4 hx hb, xm_st5 hx hb, xm_st6 hx hb, xm_st7 hx hb, xm_st9 hx hb, xm_wd10 hx hw, xm_wd11 hx hw, xm_wd4 hx hw, xm_wd5 hx hw, xm_wd6 hx hw, xm_wd7 hx hw, xm_wd8 hx hw, xm_wd9 hx hw, Bool.false_eq_true, eq_self, isk_t, i20_t, w20_t, l23_t, b21_t, b22_t, w_t, bif_t, bif_f, bif_d, if_pos, if_neg, if_true, if_false, not_true_eq_false, not_false_eq_true, Option.bind_some, Option.toList_some, Option.toList_none, List.cons_append, List.nil_append, Int.toNat_natCast, Int.reduceToNat, up_eq, up_p, up_k, sN,  hN, xl.1, xl.2.1, xl.2.2, e0, q1, ht, hg ]
          exact am_E_le (am_lq_of _ _ (by simp [am_leb])) k3
    · have et : telT S C l W = W := by unfold telT; rw [if_neg (fun g => q1 g.1)]
      rw [et]
      obtain ⟨μ2, k1, k2, k3⟩ := ih (l + 1) W μ hWI hX hW hK (by omega) (by omega) (by omega)
      refine ⟨μ2, k1, k2, ?_⟩
      by_cases q2 : C.2.2.2.2.1 (S 11 l) = true
      · rw [if_pos q2] at ht
        rw [e4_10]; simp (disch := omega) only [hst, hwd, xk_0, xk_1, xk_40, xk_41, xk_42, xk_43, xk_44, xk_45, xk_46, xk_47, xk_48, xk_49, xk_50, xk_51, xk_52, xk_53, xk_54, xk_55, xk_56, xk_57, xk_58, xk_59, xk_60, xk_61, xk_62, xk_63, xk_64, xk_65, xk_66, xk_67, xk_68, xk_69, xk_70, xk_71, xk_72, xk_73, xk_74, xk_75, xk_76, xk_77, xk_78, xk_79, xk_80, xk_81, xk_82, xk_83, xk_84, xk_85, xk_86, xk_87, xk_88, xk_89, xk_90, xk_91, xk_92, xk_93, xk_94, xk_95, xk_96, xk_97, xk_98, xk_st0 hb, xk_st1 hb, xk_st10 hb, xk_st11 hb, xk_st12 hb, xk_st13 hb, xk_st14 hb, xk_st15 hb, xk_st16 hb, xk_st17 hb, xk_st18 hb, xk_st2 hb, xk_st3 hb, xk_st4 hb, xk_st5 hb, xk_st6 hb, xk_st7 hb, xk_st8 hb, xk_st9 hb, xk_wd0 hw, xk_wd1 hw, xk_wd2 hw, xk_wd3 hw, xk_wd4 hw, xk_wd5 hw, xk_wd6 hw, xk_wd7 hw, xk_wd8 hw, xm_0_0 hx, xm_0_10 hx, xm_0_11 hx, xm_0_12 hx, xm_0_13 hx, xm_0_14 hx, xm_0_15 hx, xm_0_2 hx, xm_0_5 hx, xm_0_6 hx, xm_0_7 hx, xm_0_9 hx, xm_40_0 hx, xm_40_1 hx, xm_41_0 hx, xm_44_0 hx, xm_44_1 hx, xm_73_4 hx, xm_73_5 hx, xm_73_6 hx, xm_77_1 hx, xm_77_2 hx, xm_77_3 hx, xm_77_4 hx, xm_77_5 hx, xm_77_6 hx, xm_77_7 hx, xm_77_8 hx, xm_77_9 hx, xm_87_2 hx, xm_87_3 hx, xm_87_4 hx, xm_87_5 hx, xm_87_6 hx, xm_87_7 hx, xm_87_8 hx, xm_lw2 hx hb, xm_lw3 hx hb, xm_lw4 hx hb, xm_lw5 hx hb, xm_st1 hx hb, xm_st10 hx hb, xm_st11 hx hb, xm_st13 hx hb, xm_st14 hx hb, xm_st15 hx hb, xm_st16 hx hb, xm_st17 hx hb, xm_st2 hx hb, xm_st4 hx hb, xm_st5 hx hb, xm_st6 hx hb, xm_st7 hx hb, xm_st9 hx hb, xm_wd10 hx hw, xm_wd11 hx hw, xm_wd4 hx hw, xm_wd5 hx hw, xm_wd6 hx hw, xm_wd7 hx hw, xm_wd8 hx hw, xm_wd9 hx hw, Bool.false_eq_true, eq_self, isk_t, i20_t, w20_t, l23_t, b21_t, b22_t, w_t, bif_t, bif_f, bif_d, if_pos, if_neg, if_true, if_false, not_true_eq_false, not_false_eq_true, Option.bind_some, Option.toList_some, Option.toList_none, List.cons_append, List.nil_append, Int.toNat_natCast, Int.reduceToNat, up_eq, up_p, up_k, sN,  hN, xl.1, xl.2.1, xl.2.2, e0, q1, ht ]
        exact am_E_le (am_lq_of _ _ (by simp [am_leb])) k3
      · rw [if_neg q2] at ht
        by_cases q5 : C.2.2.2.2.2 (S 12 l) = true
        · rw [if_pos q5] at hg
          rw [e4_10]; simp (disch := omega) only [hst, hwd, xk_0, xk_1, xk_40, xk_41, xk_42, xk_43, xk_44, xk_45, xk_46, xk_47, xk_48, xk_49, xk_50, xk_51, xk_52, xk_53, xk_54, xk_55, xk_56, xk_57, xk_58, xk_59, xk_60, xk_61, xk_62, xk_63, xk_64, xk_65, xk_66, xk_67, xk_68, xk_69, xk_70, xk_71, xk_72, xk_73, xk_74, xk_75, xk_76, xk_77, xk_78, xk_79, xk_80, xk_81, xk_82, xk_83, xk_84, xk_85, xk_86, xk_87, xk_88, xk_89, xk_90, xk_91, xk_92, xk_93, xk_94, xk_95, xk_96, xk_97, xk_98, xk_st0 hb, xk_st1 hb, xk_st10 hb, xk_st11 hb, xk_st12 hb, xk_st13 hb, xk_st14 hb, xk_st15 hb, xk_st16 hb, xk_st17 hb, xk_st18 hb, xk_st2 hb, xk_st3 hb, xk_st4 hb, xk_st5 hb, xk_st6 hb, xk_st7 hb, xk_st8 hb, xk_st9 hb, xk_wd0 hw, xk_wd1 hw, xk_wd2 hw, xk_wd3 hw, xk_wd4 hw, xk_wd5 hw, xk_wd6 hw, xk_wd7 hw, xk_wd8 hw, xm_0_0 hx, xm_0_10 hx, xm_0_11 hx, xm_0_12 hx, xm_0_13 hx, xm_0_14 hx, xm_0_15 hx, xm_0_2 hx, xm_0_5 hx, xm_0_6 hx, xm_0_7 hx, xm_0_9 hx, xm_40_0 hx, xm_40_1 hx, xm_41_0 hx, xm_44_0 hx, xm_44_1 hx, xm_73_4 hx, xm_73_5 hx, xm_73_6 hx, xm_77_1 hx, xm_77_2 hx, xm_77_3 hx, xm_77_4 hx, xm_77_5 hx, xm_77_6 hx, xm_77_7 hx, xm_77_8 hx, xm_77_9 hx, xm_87_2 hx, xm_87_3 hx, xm_87_4 hx, xm_87_5 hx, xm_87_6 hx, xm_87_7 hx, xm_87_8 hx, xm_lw2 hx hb, xm_lw3 hx hb, xm_lw4 hx hb, xm_lw5 hx hb, xm_st1 hx hb, xm_st10 hx hb, xm_st11 hx hb, xm_st13 hx hb, xm_st14 hx hb, xm_st15 hx hb, xm_st16 hx hb, xm_st17 hx hb, xm_st2 hx hb, xm_st4 hx hb, xm_st5 hx hb, xm_st6 hx hb, xm_st7 hx hb, xm_st9 hx hb, xm_wd10 hx hw, xm_wd11 hx hw, xm_wd4 hx hw, xm_wd5 hx hw, xm_wd6 hx hw, xm_wd7 hx hw, xm_wd8 hx hw, xm_wd9 hx hw, Bool.false_eq_true, eq_self, isk_t, i20_t, w20_t, l23_t, b21_t, b22_t, w_t, bif_t, bif_f, bif_d, if_pos, if_neg, if_true, if_false, not_true_eq_false, not_false_eq_true, Option.bind_some, Option.toList_some, Option.toList_none, List.cons_append, List.nil_append, Int.toNat_natCast, Int.reduceToNat, up_eq, up_p, up_k, sN,  hN, xl.1, xl.2.1, xl.2.2, e0, q1, ht, hg ]
          exact am_E_le (am_lq_of _ _ (by simp [am_leb])) k3
        · rw [if_neg q5] at hg
          rw [e4_10]; simp (disch := omega) only [hst, hwd, xk_0, xk_1, xk_40, xk_41, xk_42, xk_43, xk_44, xk_45, xk_46, xk_47, xk_48, xk_49, xk_50, xk_51, xk_52, xk_53, xk_54, xk_55, xk_56, xk_57, xk_58, xk_59, xk_60, xk_61, xk_62, xk_63, xk_64, xk_65, xk_66, xk_67, xk_68, xk_69, xk_70, xk_71, xk_72, xk_73, xk_74, xk_75, xk_76, xk_77, xk_78, xk_79, xk_80, xk_81, xk_82, xk_83, xk_84, xk_85, xk_86, xk_87, xk_88, xk_89, xk_90, xk_91, xk_92, xk_93, xk_94, xk_95, xk_96, xk_97, xk_98, xk_st0 hb, xk_st1 hb, xk_st10 hb, xk_st11 hb, xk_st12 hb, xk_st13 hb, xk_st14 hb, xk_st15 hb, xk_st16 hb, xk_st17 hb, xk_st18 hb, xk_st2 hb, xk_st3 hb, xk_st4 hb, xk_st5 hb, xk_st6 hb, xk_st7 hb, xk_st8 hb, xk_st9 hb, xk_wd0 hw, xk_wd1 hw, xk_wd2 hw, xk_wd3 hw, xk_wd4 hw, xk_wd5 hw, xk_wd6 hw, xk_wd7 hw, xk_wd8 hw, xm_0_0 hx, xm_0_10 hx, xm_0_11 hx, xm_0_12 hx, xm_0_13 hx, xm_0_14 hx, xm_0_15 hx, xm_0_2 hx, xm_0_5 hx, xm_0_6 hx, xm_0_7 hx, xm_0_9 hx, xm_40_0 hx, xm_40_1 hx, xm_41_0 hx, xm_44_0 hx, xm_44_1 hx, xm_73_4 hx, xm_73_5 hx, xm_73_6 hx, xm_77_1 hx, xm_77_2 hx, xm_77_3 hx, xm_77_4 hx, xm_77_5 hx, xm_77_6 hx, xm_77_7 hx, xm_77_8 hx, xm_77_9 hx, xm_87_2 hx, xm_87_3 hx, xm_87_4 hx, xm_87_5 hx, xm_87_6 hx, xm_87_7 hx, xm_87_8 hx, xm_lw2 hx hb, xm_lw3 hx hb, xm_lw4 hx hb, xm_lw5 hx hb, xm_st1 hx hb, xm_st10 hx hb, xm_st11 hx hb, xm_st13 hx hb, xm_st14 hx hb, xm_st15 hx hb, xm_st16 hx hb, xm_st17 hx hb, xm_st2 hx hb, xm_st4 hx hb, xm_st5 hx hb, xm_st6 hx hb, xm_st7 hx hb, xm_st9 hx hb, xm_wd10 hx hw, xm_wd11 hx hw, xm_wd4 hx hw, xm_wd5 hx hw, xm_wd6 hx hw, xm_wd7 hx hw, xm_wd8 hx hw, xm_wd9 hx hw, Bool.false_eq_true, eq_self, isk_t, i20_t, w20_t, l23_t, b21_t, b22_t, w_t, bif_t, bif_f, bif_d, if_pos, if_neg, if_true, if_false, not_true_eq_false, not_false_eq_true, Option.bind_some, Option.toList_some, Option.toList_none, List.cons_append, List.nil_append, Int.toNat_natCast, Int.reduceToNat, up_eq, up_p, up_k, sN,  hN, xl.1, xl.2.1, xl.2.2, e0, q1, ht, hg ]
          exact am_E_le (am_lq_of _ _ (by simp [am_leb])) k3
theorem X_aDay (hx : XM ρ) (hb : b = 2 ∨ b = 21) (hw : w = 46 ∨ w = 55 ∨ w = 64) (hst : ρ 73 0 = b) (hwd : ρ 73 1 = w) {W : MW} {μ : Nat → Nat → Int} (hS : SI S) (hC : CI S C) (hD : D < 20000) (hn3 : C.2.2.1 < 3) (hWI : WI S D W) (hX : XS μ b S) (hW : XW μ w W) (hK : XC μ S C) : ∃ μ1, FrX w μ μ1 ∧ XW μ1 w (dayW S C W) ∧ am_E (d + 6) 4 0 [some (.inr (.inr 73)), none, none, none, none] [] (SH, ρ, μ, cs) = some (none, (SH, ρ, μ1, cs)) := by
  have b3 := hS.2.2.2.1
  have b4 := hS.2.2.2.2.1
  have bi := hWI.2.2.2.1
  obtain ⟨μ1, g1, g2, g3⟩ := X_seeAll (ρ := ρ) (cs := cs) (d := d + 3) hx hb hw hst hwd hS hX hW hK
  have hW1 : WI S D (seeW S C W) := wi_seeW hS hWI
  obtain ⟨μ2, k1, k2, k3⟩ := X_passAll (ρ := ρ) (cs := cs) (d := d + 1) hx hb hw hst hwd hS hC (by omega) hn3 hW1 (xs_x hX hb hw g1) g2 (xc_x hK hw g1)
  have f2 := frx_tr g1 k1
  have hW2 : WI S D (wayA S C (S 0 3).toNat 0 (seeW S C W)) := wi_wayA hS hC _ 0 _ hW1 (Int.le_refl _) (by omega)
  have h30 : wayA S C (S 0 3).toNat 0 (seeW S C W) 3 0 0 = W 3 0 0 := by rw [(wayA_3 _ _ _).1, seeW_Q, seeQ_00 (by omega)]
  have h00 : wayA S C (S 0 3).toNat 0 (seeW S C W) 0 0 0 = W 0 0 0 := by rw [(wayA_3 _ _ _).2, seeW_Q, seeQ_00 (by omega)]
  obtain ⟨μ3, l1, l2, l3⟩ := X_tells_all (ρ := ρ) (cs := cs) (d := d) (D := D + 1) hx hb hw hst hwd hS hC (by omega) (S 0 4).toNat 0 _ μ2 (WI_mono hW2 (by omega)) (xs_x hX hb hw f2) k2 (xc_x hK hw f2) (Int.le_refl _) (by omega) (by rw [h30]; omega)
  refine ⟨μ3, frx_tr f2 l1, ?_, ?_⟩
  · rw [h00] at l2
    exact l2
  · simp (disch := omega) only [e4_0, e4_4, e4_8, hst, hwd, xk_0, xk_1, xk_40, xk_41, xk_42, xk_43, xk_44, xk_45, xk_46, xk_47, xk_48, xk_49, xk_50, xk_51, xk_52, xk_53, xk_54, xk_55, xk_56, xk_57, xk_58, xk_59, xk_60, xk_61, xk_62, xk_63, xk_64, xk_65, xk_66, xk_67, xk_68, xk_69, xk_70, xk_71, xk_72, xk_73, xk_74, xk_75, xk_76, xk_77, xk_78, xk_79, xk_80, xk_81, xk_82, xk_83, xk_84, xk_85, xk_86, xk_87, xk_88, xk_89, xk_90, xk_91, xk_92, xk_93, xk_94, xk_95, xk_96, xk_97, xk_98, xk_st0 hb, xk_st1 hb, xk_st10 hb, xk_st11 hb, xk_st12 hb, xk_st13 hb, xk_st14 hb, xk_st15 hb, xk_st16 hb, xk_st17 hb, xk_st18 hb, xk_st2 hb, xk_st3 hb, xk_st4 hb, xk_st5 hb, xk_st6 hb, xk_st7 hb, xk_st8 hb, xk_st9 hb, xk_wd0 hw, xk_wd1 hw, xk_wd2 hw, xk_wd3 hw, xk_wd4 hw, xk_wd5 hw, xk_wd6 hw, xk_wd7 hw, xk_wd8 hw, xm_0_0 hx, xm_0_10 hx, xm_0_11 hx, xm_0_12 hx, xm_0_13 hx, xm_0_14 hx, xm_0_15 hx, xm_0_2 hx, xm_0_5 hx, xm_0_6 hx, xm_0_7 hx, xm_0_9 hx, xm_40_0 hx, xm_40_1 hx, xm_41_0 hx, xm_44_0 hx, xm_44_1 hx, xm_73_4 hx, xm_73_5 hx, xm_73_6 hx, xm_77_1 hx, xm_77_2 hx, xm_77_3 hx, xm_77_4 hx, xm_77_5 hx, xm_77_6 hx, xm_77_7 hx, xm_77_8 hx, xm_77_9 hx, xm_87_2 hx, xm_87_3 hx, xm_87_4 hx, xm_87_5 hx, xm_87_6 hx, xm_87_7 hx, xm_87_8 hx, xm_lw2 hx hb, xm_lw3 hx hb, xm_lw4 hx hb, xm_lw5 hx hb, xm_st1 hx hb, xm_st10 hx hb, xm_st11 hx hb, xm_st13 hx hb, xm_st14 hx hb, xm_st15 hx hb, xm_st16 hx hb, xm_st17 hx hb, xm_st2 hx hb, xm_st4 hx hb, xm_st5 hx hb, xm_st6 hx hb, xm_st7 hx hb, xm_st9 hx hb, xm_wd10 hx hw, xm_wd11 hx hw, xm_wd4 hx hw, xm_wd5 hx hw, xm_wd6 hx hw, xm_wd7 hx hw, xm_wd8 hx hw, xm_wd9 hx hw, Bool.false_eq_true, eq_self, isk_t, i20_t, w20_t, l23_t, b21_t, b22_t, w_t, bif_t, bif_f, bif_d, if_pos, if_neg, if_true, if_false, not_true_eq_false, not_false_eq_true, Option.bind_some, Option.toList_some, Option.toList_none, List.cons_append, List.nil_append, Int.toNat_natCast, Int.reduceToNat, up_eq, up_p, up_k, sN,  g3, k3, l3 ]
end XD2
