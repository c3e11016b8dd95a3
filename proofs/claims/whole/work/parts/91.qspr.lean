/-! QUERIES: spread -/
def unR (S : MS) (s : Nat) : Nat → Nat
  | 0 => 0
  | n + 1 => if s.testBit n then unR S s n ||| reachF S (n : Int) else unR S s n
def sprH (S : MS) (s : Nat) : Bool := decide (unR S s (men S) = 2 ^ men S - 1)
theorem rT_sup {S : MS} {j : Nat} : ∀ (n : Nat) (k : Int) (s : Nat), s.testBit j = true → (rT S n k s).testBit j = true
  | 0, _, _, h => h
  | n + 1, k, s, h => by
    refine rT_sup n (k + 1) _ ?_
    split
    · rw [Nat.testBit_or, h]; rfl
    · exact h
theorem rI_sup {S : MS} {j : Nat} : ∀ (n : Nat) (s : Nat), s.testBit j = true → (rI S n s).testBit j = true
  | 0, _, h => h
  | n + 1, s, h => rI_sup n _ (rT_sup _ 0 s h)
theorem rI_lt {S : MS} (hS : SI S) : ∀ (n : Nat) (s : Nat), s < 2 ^ men S → rI S n s < 2 ^ men S
  | 0, _, h => h
  | n + 1, s, h => rI_lt hS n _ (rT_lt hS _ 0 s (Int.le_refl _) (by have := hS.2.2.2.1; omega) h)
theorem reach_lt {S : MS} (hS : SI S) {n : Nat} (h : n < men S) : reachF S (n : Int) < 2 ^ men S := rI_lt hS 7 _ (Nat.pow_lt_pow_right (by decide) (by rw [Int.toNat_natCast]; exact h))
theorem reach_self {S : MS} {n : Nat} : (reachF S (n : Int)).testBit n = true := rI_sup 7 _ (by rw [Int.toNat_natCast, Nat.testBit_two_pow]; exact decide_eq_true rfl)
theorem unR_lt {S : MS} (hS : SI S) {s : Nat} : ∀ n, n ≤ men S → unR S s n < 2 ^ men S
  | 0, _ => Nat.pow_pos (by decide)
  | n + 1, h => by
    unfold unR
    split
    · exact Nat.or_lt_two_pow (unR_lt hS n (by omega)) (reach_lt hS (by omega))
    · exact unR_lt hS n (by omega)
theorem unR_all {S : MS} {m : Nat} : ∀ n, n ≤ m → ∀ j, j < n → (unR S (2 ^ m - 1) n).testBit j = true
  | 0, _, j, hj => by omega
  | n + 1, h, j, hj => by
    unfold unR
    have hb : (2 ^ m - 1).testBit n = true := by rw [Nat.testBit_two_pow_sub_one]; exact decide_eq_true (by omega)
    rw [if_pos hb, Nat.testBit_or]
    by_cases e : j = n
    · subst e; rw [reach_self]; simp
    · rw [unR_all n (by omega) j (by omega)]; rfl
theorem spr_all {S : MS} (hS : SI S) : sprH S (2 ^ men S - 1) = true := by
  refine decide_eq_true ?_
  apply Nat.eq_of_testBit_eq
  intro i
  rw [Nat.testBit_two_pow_sub_one]
  by_cases c : i < men S
  · rw [decide_eq_true c]
    exact unR_all _ (Nat.le_refl _) i c
  · rw [decide_eq_false c]
    exact Nat.testBit_lt_two_pow (Nat.lt_of_lt_of_le (unR_lt hS _ (Nat.le_refl _)) (Nat.pow_le_pow_right (by decide) (by omega)))
/-- the best so far, beginning with all -/
def cbest (H : Nat → Bool) (all : Nat) : Nat → Nat
  | 0 => all
  | n + 1 => if popN n 7 < popN (cbest H all n) 7 ∧ H n = true then n else cbest H all n
theorem cbest_is {H : Nat → Bool} {m : Nat} (hm : m ≤ 7) (hH : H (2 ^ m - 1) = true) : ∀ n, n ≤ 2 ^ m - 1 → H (cbest H (2 ^ m - 1) n) = true ∧ (cbest H (2 ^ m - 1) n < n ∨ cbest H (2 ^ m - 1) n = 2 ^ m - 1) ∧ ∀ s, (s < n ∨ s = 2 ^ m - 1) → H s = true → popN (cbest H (2 ^ m - 1) n) 10 < popN s 10 ∨ (popN (cbest H (2 ^ m - 1) n) 10 = popN s 10 ∧ cbest H (2 ^ m - 1) n ≤ s)
  | 0, _ => by
    refine ⟨hH, Or.inr rfl, fun s hs hh => ?_⟩
    rcases hs with hs | hs
    · omega
    · subst hs; right; exact ⟨rfl, Nat.le_refl _⟩
  | n + 1, hn => by
    have ih := cbest_is hm hH n (by omega)
    have hpn := pop_prop (m := m) (s := n) (by omega) hm
    have hpa := pop_all m hm
    have hpc : popN (cbest H (2 ^ m - 1) n) 10 = popN (cbest H (2 ^ m - 1) n) 7 := by
      rcases ih.2.1 with g | g
      · exact (pop_prop (m := m) (s := cbest H (2 ^ m - 1) n) (by omega) hm).2
      · rw [g]; omega
    have e : cbest H (2 ^ m - 1) (n + 1) = if popN n 7 < popN (cbest H (2 ^ m - 1) n) 7 ∧ H n = true then n else cbest H (2 ^ m - 1) n := rfl
    rw [e]
    generalize cbest H (2 ^ m - 1) n = r at ih hpc ⊢
    by_cases c : popN n 7 < popN r 7 ∧ H n = true
    · rw [if_pos c]
      refine ⟨c.2, Or.inl (by omega), fun s hs hh => ?_⟩
      by_cases e2 : s = n
      · subst e2; right; exact ⟨rfl, Nat.le_refl _⟩
      · have := ih.2.2 s (by omega) hh
        omega
    · rw [if_neg c]
      refine ⟨ih.1, by omega, fun s hs hh => ?_⟩
      by_cases e2 : s = n
      · subst e2
        have c2 : ¬ popN s 7 < popN r 7 := fun g => c ⟨g, hh⟩
        by_cases c3 : popN s 7 = popN r 7
        · right
          refine ⟨by omega, ?_⟩
          rcases ih.2.1 with g | g
          · omega
          · rw [g] at c3; omega
        · left; omega
      · exact ih.2.2 s (by omega) hh
theorem spr_eq {S : MS} (hS : SI S) : hbest (sprH S) (2 ^ men S) = (cbest (sprH S) (2 ^ men S - 1) (2 ^ men S - 1) : Int) := by
  have b0 := hS.1
  have hpos : 0 < 2 ^ men S := Nat.pow_pos (by decide)
  have h := cbest_is (m := men S) (by unfold men; omega) (spr_all hS) (2 ^ men S - 1) (Nat.le_refl _)
  exact best_eq ⟨by omega, h.1, fun s hs hh => h.2.2 s (by omega) hh⟩
section QW
variable {ρ : Nat → Nat → Nat} {μ : Nat → Nat → Int} {cs : Nat × Nat × Nat} {d b w u : Nat} {S : MS} {W : MW}
theorem unR_128 (hS : SI S) {s n : Nat} (h : n ≤ men S) : unR S s n < 128 := Nat.lt_of_lt_of_le (unR_lt hS n h) (two_men hS).1
theorem R_spr_in (hρ : RM ρ) (hSR : SR μ = S) (hS : SI S) {s : Nat} (hs : s < 128) {x1 x2 : Int} : ∀ (n k : Nat), (k : Int) + n = S 0 0 → am_E (d + 1) 230 31 [some (.inr (.inr 99)), some (.inl x1), some (.inl x2), some (.inl (s : Int)), some (.inl ((unR S s k : Nat) : Int)), some (.inl (k : Int))] [] (SH, ρ, μ, cs) = am_E (d + 1) 230 31 [some (.inr (.inr 99)), some (.inl x1), some (.inl x2), some (.inl (s : Int)), some (.inl ((unR S s (men S) : Nat) : Int)), some (.inl (S 0 0))] [] (SH, ρ, μ, cs) := by
  intro n
  have b0 := hS.1
  have hN : μ 101 0 = S 0 0 := by rw [← hSR]; rfl
  induction n with
  | zero =>
    intro k hk
    have e : men S = k := by unfold men; omega
    have e2 : S 0 0 = (k : Int) := by omega
    rw [e, e2]
  | succ n ih =>
    intro k hk
    have hl := unR_128 hS (s := s) (n := k) (by unfold men; omega)
    have hr := Nat.lt_of_lt_of_le (reach_lt hS (n := k) (by unfold men; omega)) (two_men hS).1
    have hro := fun d => R_reachOf (ρ := ρ) (μ := μ) (cs := cs) (d := d) (p := (k : Int)) hρ hSR hS (by omega) (by omega)
    have h2 := ih (k + 1) (by omega)
    have e2 : ((k + 1 : Nat) : Int) = (k : Int) + 1 := by omega
    have eu : unR S s (k + 1) = if s.testBit k then unR S s k ||| reachF S (k : Int) else unR S s k := rfl
    rw [e2, eu] at h2
    rw [← h2]
    have hbit := nb_bit (a := s) (k := k) (by omega) (by omega)
    by_cases c : s.testBit k = true
    · rw [if_pos c] at hbit ⊢
      have hor := nb_or (a := unR S s k) (b := reachF S (k : Int)) (by omega) (by omega)
      rw [e230_31]; simp (disch := (first | omega | (simp (disch := omega) only [sr_up, wr_up_o]; omega))) only [e230_60, ks_101, ks_99, rm_number hρ, ite_self, Bool.false_eq_true, eq_self, isk_t, i20_t, w20_t, l23_t, b21_t, b22_t, w_t, bif_t, bif_f, bif_d, if_pos, if_neg, if_true, if_false, not_true_eq_false, not_false_eq_true, Option.bind_some, Option.toList_some, Option.toList_none, List.cons_append, List.nil_append, Int.toNat_natCast, Int.reduceToNat, up_eq, up_p, up_k, sN,  hN, hbit, hro, hor ]
    · rw [if_neg c] at hbit ⊢
      rw [e230_31]; simp (disch := (first | omega | (simp (disch := omega) only [sr_up, wr_up_o]; omega))) only [ks_101, ks_99, rm_number hρ, ite_self, Bool.false_eq_true, eq_self, isk_t, i20_t, w20_t, l23_t, b21_t, b22_t, w_t, bif_t, bif_f, bif_d, if_pos, if_neg, if_true, if_false, not_true_eq_false, not_false_eq_true, Option.bind_some, Option.toList_some, Option.toList_none, List.cons_append, List.nil_append, Int.toNat_natCast, Int.reduceToNat, up_eq, up_p, up_k, sN,  hN, hbit, ib_or0 ]
theorem R_spr_loop (hρ : RM ρ) (hSR : SR μ = S) (hS : SI S) : ∀ (n k : Nat), k + n = 2 ^ men S → am_E (d + 1) 230 20 [some (.inr (.inr 99)), some (.inl ((2 ^ men S - 1 : Nat) : Int)), some (.inl (hbest (sprH S) k)), some (.inl (k : Int)), none, none] [] (SH, ρ, μ, cs) = some (some (.inl (hbest (sprH S) (2 ^ men S))), (SH, ρ, μ, cs)) := by
  intro n
  have b0 := hS.1
  have h2 := two_men hS
  have hN : μ 101 0 = S 0 0 := by rw [← hSR]; rfl
  have hpos : 0 < 2 ^ men S := Nat.pow_pos (by decide)
  induction n with
  | zero =>
    intro k hk
    have e : 2 ^ men S = k := by omega
    rw [e230_20, e]
    simp (disch := omega) only [bif_d, if_pos]
  | succ n ih =>
    intro k hk
    have hin := R_spr_in (ρ := ρ) (μ := μ) (cs := cs) (d := d) (s := k) (x1 := ((2 ^ men S - 1 : Nat) : Int)) (x2 := hbest (sprH S) k) hρ hSR hS (by omega) (men S) 0 (by unfold men; omega)
    have ez : ((0 : Nat) : Int) = 0 := rfl
    have ez2 : ((unR S k 0 : Nat) : Int) = 0 := rfl
    rw [ez, ez2] at hin
    have hl := ih (k + 1) (by omega)
    have e2 : ((k + 1 : Nat) : Int) = (k : Int) + 1 := by omega
    have eb : hbest (sprH S) (k + 1) = if (hbest (sprH S) k = -1 ∨ popN k 10 < popN (hbest (sprH S) k).toNat 10) ∧ sprH S k = true then (k : Int) else hbest (sprH S) k := rfl
    rw [e2, eb] at hl
    have hbk := fun d => R_bitsOf (ρ := ρ) (μ := μ) (cs := cs) (d := d) (sh := SH) (a := k) (by omega)
    have hcase : ∀ β : Int, hbest (sprH S) k = β → (β = -1 ∨ (∃ r : Nat, β = (r : Int) ∧ r < k)) := fun β hβ => by
      rcases hbest_is (H := sprH S) k with ⟨a, _⟩ | ⟨r, a, c⟩
      · left; rw [← hβ]; exact a
      · right; exact ⟨r, by rw [← hβ]; exact a, c.1⟩
    have e1 : am_E (d + 1) 230 20 [some (.inr (.inr 99)), some (.inl ((2 ^ men S - 1 : Nat) : Int)), some (.inl (hbest (sprH S) k)), some (.inl (k : Int)), none, none] [] (SH, ρ, μ, cs) = am_E (d + 1) 230 31 [some (.inr (.inr 99)), some (.inl ((2 ^ men S - 1 : Nat) : Int)), some (.inl (hbest (sprH S) k)), some (.inl (k : Int)), some (.inl ((unR S k (men S) : Nat) : Int)), some (.inl (S 0 0))] [] (SH, ρ, μ, cs) := by
      rw [← hin, e230_20]
      simp (disch := omega) only [bif_d, if_neg]
    rw [e1]
    have hH : sprH S k = decide (unR S k (men S) = 2 ^ men S - 1) := rfl
    have hul := unR_128 hS (s := k) (n := men S) (Nat.le_refl _)
    generalize unR S k (men S) = U at hH hul ⊢
    generalize hβ : hbest (sprH S) k = β at hl ⊢
    generalize hM : 2 ^ men S = M at hl hH h2 hk hpos ⊢
    have hl3 := am_E_le (am_lq_of _ [some (.inr (.inr 99)), some (.inl ((M - 1 : Nat) : Int)), some (.inl (if (β = -1 ∨ popN k 10 < popN β.toNat 10) ∧ sprH S k = true then (k : Int) else β)), some (.inl ((k : Int) + 1)), some (.inl ((U : Nat) : Int)), some (.inl (S 0 0))] (by simp [am_leb])) hl
    rw [← hl3]
    by_cases cH : U = M - 1
    · rw [decide_eq_true cH] at hH
      rcases hcase β hβ with hm | ⟨r, hr, hrk⟩
      · rw [if_pos ⟨Or.inl hm, hH⟩]
        rw [e230_31]; simp (disch := (first | omega | (simp (disch := omega) only [sr_up, wr_up_o]; omega))) only [ks_101, ks_99, rm_number hρ, ite_self, Bool.false_eq_true, eq_self, isk_t, i20_t, w20_t, l23_t, b21_t, b22_t, w_t, bif_t, bif_f, bif_d, if_pos, if_neg, if_true, if_false, not_true_eq_false, not_false_eq_true, Option.bind_some, Option.toList_some, Option.toList_none, List.cons_append, List.nil_append, Int.toNat_natCast, Int.reduceToNat, up_eq, up_p, up_k, sN,  hN, cH ]
      · have hbr := fun d => R_bitsOf (ρ := ρ) (μ := μ) (cs := cs) (d := d) (sh := SH) (a := r) (by omega)
        rw [← hr] at hbr
        have hrn : β.toNat = r := by omega
        rw [hrn]
        by_cases cP : popN k 10 < popN r 10
        · rw [if_pos ⟨Or.inr cP, hH⟩]
          rw [e230_31]; simp (disch := (first | omega | (simp (disch := omega) only [sr_up, wr_up_o]; omega))) only [e230_88, e230_92, ks_101, ks_99, rm_number hρ, ite_self, Bool.false_eq_true, eq_self, isk_t, i20_t, w20_t, l23_t, b21_t, b22_t, w_t, bif_t, bif_f, bif_d, if_pos, if_neg, if_true, if_false, not_true_eq_false, not_false_eq_true, Option.bind_some, Option.toList_some, Option.toList_none, List.cons_append, List.nil_append, Int.toNat_natCast, Int.reduceToNat, up_eq, up_p, up_k, sN,  hN, cH, hbk, hbr ]
        · rw [if_neg (by omega)]
          rw [e230_31]; simp (disch := (first | omega | (simp (disch := omega) only [sr_up, wr_up_o]; omega))) only [e230_88, e230_92, ks_101, ks_99, rm_number hρ, ite_self, Bool.false_eq_true, eq_self, isk_t, i20_t, w20_t, l23_t, b21_t, b22_t, w_t, bif_t, bif_f, bif_d, if_pos, if_neg, if_true, if_false, not_true_eq_false, not_false_eq_true, Option.bind_some, Option.toList_some, Option.toList_none, List.cons_append, List.nil_append, Int.toNat_natCast, Int.reduceToNat, up_eq, up_p, up_k, sN,  hN, cH, hbk, hbr ]
    · rw [decide_eq_false cH] at hH
      rw [if_neg (fun g => by rw [hH] at g; cases g.2)]
      rw [e230_31]; simp (disch := (first | omega | (simp (disch := omega) only [sr_up, wr_up_o]; omega))) only [ks_101, ks_99, rm_number hρ, ite_self, Bool.false_eq_true, eq_self, isk_t, i20_t, w20_t, l23_t, b21_t, b22_t, w_t, bif_t, bif_f, bif_d, if_pos, if_neg, if_true, if_false, not_true_eq_false, not_false_eq_true, Option.bind_some, Option.toList_some, Option.toList_none, List.cons_append, List.nil_append, Int.toNat_natCast, Int.reduceToNat, up_eq, up_p, up_k, sN,  hN ]
def sprA (S : MS) : Int := hbest (sprH S) (2 ^ men S)
theorem R_spread (h : RLq ρ μ b w u S W) : ∃ μ', FrQ μ μ' ∧ am_E (d + 1) 230 0 [some (.inr (.inr 99)), none, none, none, none, none] [] (SH, ρ, μ, cs) = some (some (.inl (sprA S)), (SH, ρ, μ', cs)) := by
  obtain ⟨hx, hρ, hb, hgs, hw46, hu64, hSR, hS, hX, hWR, hWI, hW, hday, h49, h51, h53⟩ := h; have hw : w = 46 ∨ w = 55 ∨ w = 64 := Or.inl hw46; have hu : u = 46 ∨ u = 55 ∨ u = 64 := Or.inr (Or.inr hu64); have hn5 := (xm_0_5 hx).trans hw46.symm; have hn7 := (xm_0_7 hx).trans hu64.symm; have b0 := hS.1; have b1 := hS.2.1
  refine ⟨am_up μ 99 0 0, frq_t0 μ 0, ?_⟩
  have h2 := two_men hS
  have hN : μ 101 0 = S 0 0 := by rw [← hSR]; rfl
  have hpos : 0 < 2 ^ men S := Nat.pow_pos (by decide)
  have hl := R_spr_loop (ρ := ρ) (μ := am_up μ 99 0 0) (cs := cs) (d := d) hρ (by rw [sr_up (by omega)]; exact hSR) hS (2 ^ men S) 0 (by omega)
  have ec : ((2 ^ men S : Nat) : Int) - 1 = ((2 ^ men S - 1 : Nat) : Int) := by omega
  unfold sprA
  rw [← hl]
  generalize 2 ^ men S - 1 = M at ec ⊢
  generalize 2 ^ men S = N at ec h2 hpos
  simp (disch := (first | omega | (simp (disch := omega) only [sr_up, wr_up_o]; omega))) only [e230_0, ks_101, ks_99, rm_number hρ, ite_self, Bool.false_eq_true, eq_self, isk_t, i20_t, w20_t, l23_t, b21_t, b22_t, w_t, bif_t, bif_f, bif_d, if_pos, if_neg, if_true, if_false, not_true_eq_false, not_false_eq_true, Option.bind_some, Option.toList_some, Option.toList_none, List.cons_append, List.nil_append, Int.toNat_natCast, Int.reduceToNat, up_eq, up_p, up_k, sN,  hN, h2.2, ec ]
  all_goals rfl
theorem X_spr_in (hx : XM ρ) (hb : b = 2 ∨ b = 21) (hgs : ρ 0 3 = b) (hX : XS μ b S) (hS : SI S) {s : Nat} (hs : s < 128) : ∀ (n k : Nat), (k : Int) + n = S 0 0 → am_E (d + 1) 107 4 [some (.inr (.inr 0)), some (.inl (s : Int)), some (.inl ((unR S s k : Nat) : Int)), some (.inl (k : Int))] [] (SH, ρ, μ, cs) = some (some (.inl ((unR S s (men S) : Nat) : Int)), (SH, ρ, μ, cs)) := by
  intro n
  have b0 := hS.1
  have hN := hX.1.1
  induction n with
  | zero =>
    intro k hk
    have e : men S = k := by unfold men; omega
    rw [e]
    rw [e107_4]; simp (disch := omega) only [hgs, xk_0, xk_1, xk_40, xk_41, xk_42, xk_43, xk_44, xk_45, xk_46, xk_47, xk_48, xk_49, xk_50, xk_51, xk_52, xk_53, xk_54, xk_55, xk_56, xk_57, xk_58, xk_59, xk_60, xk_61, xk_62, xk_63, xk_64, xk_65, xk_66, xk_67, xk_68, xk_69, xk_70, xk_71, xk_72, xk_73, xk_74, xk_75, xk_76, xk_77, xk_78, xk_79, xk_80, xk_81, xk_82, xk_83, xk_84, xk_85, xk_86, xk_87, xk_88, xk_89, xk_90, xk_91, xk_92, xk_93, xk_94, xk_95, xk_96, xk_97, xk_98, xk_st0 hb, xk_st1 hb, xk_st10 hb, xk_st11 hb, xk_st12 hb, xk_st13 hb, xk_st14 hb, xk_st15 hb, xk_st16 hb, xk_st17 hb, xk_st18 hb, xk_st2 hb, xk_st3 hb, xk_st4 hb, xk_st5 hb, xk_st6 hb, xk_st7 hb, xk_st8 hb, xk_st9 hb, xm_0_0 hx, xm_0_10 hx, xm_0_11 hx, xm_0_12 hx, xm_0_13 hx, xm_0_14 hx, xm_0_15 hx, xm_0_2 hx, xm_0_9 hx, xm_40_0 hx, xm_40_1 hx, xm_41_0 hx, xm_44_0 hx, xm_44_1 hx, xm_73_4 hx, xm_73_5 hx, xm_73_6 hx, xm_77_1 hx, xm_77_2 hx, xm_77_3 hx, xm_77_4 hx, xm_77_5 hx, xm_77_6 hx, xm_77_7 hx, xm_77_8 hx, xm_77_9 hx, xm_87_2 hx, xm_87_3 hx, xm_87_4 hx, xm_87_5 hx, xm_87_6 hx, xm_87_7 hx, xm_87_8 hx, xm_lw2 hx hb, xm_lw3 hx hb, xm_lw4 hx hb, xm_lw5 hx hb, xm_st1 hx hb, xm_st10 hx hb, xm_st11 hx hb, xm_st13 hx hb, xm_st14 hx hb, xm_st15 hx hb, xm_st16 hx hb, xm_st17 hx hb, xm_st2 hx hb, xm_st4 hx hb, xm_st5 hx hb, xm_st6 hx hb, xm_st7 hx hb, xm_st9 hx hb, ite_self, Bool.false_eq_true, eq_self, isk_t, i20_t, w20_t, l23_t, b21_t, b22_t, w_t, bif_t, bif_f, bif_d, if_pos, if_neg, if_true, if_false, not_true_eq_false, not_false_eq_true, Option.bind_some, Option.toList_some, Option.toList_none, List.cons_append, List.nil_append, Int.toNat_natCast, Int.reduceToNat, up_eq, up_p, up_k, sN,  hN ]
  | succ n ih =>
    intro k hk
    have hl := unR_128 hS (s := s) (n := k) (by unfold men; omega)
    have hr := Nat.lt_of_lt_of_le (reach_lt hS (n := k) (by unfold men; omega)) (two_men hS).1
    have hro := fun d => X_reachOf (ρ := ρ) (μ := μ) (cs := cs) (d := d) (p := (k : Int)) hx hb hX hS (by omega) (by omega)
    have h2 := ih (k + 1) (by omega)
    have e2 : ((k + 1 : Nat) : Int) = (k : Int) + 1 := by omega
    have eu : unR S s (k + 1) = if s.testBit k then unR S s k ||| reachF S (k : Int) else unR S s k := rfl
    rw [e2, eu] at h2
    have hbit := nb_bit (a := s) (k := k) (by omega) (by omega)
    by_cases c : s.testBit k = true
    · rw [if_pos c] at hbit h2
      have hor := nb_or (a := unR S s k) (b := reachF S (k : Int)) (by omega) (by omega)
      rw [e107_4]; simp (disch := omega) only [e107_33, hgs, xk_0, xk_1, xk_40, xk_41, xk_42, xk_43, xk_44, xk_45, xk_46, xk_47, xk_48, xk_49, xk_50, xk_51, xk_52, xk_53, xk_54, xk_55, xk_56, xk_57, xk_58, xk_59, xk_60, xk_61, xk_62, xk_63, xk_64, xk_65, xk_66, xk_67, xk_68, xk_69, xk_70, xk_71, xk_72, xk_73, xk_74, xk_75, xk_76, xk_77, xk_78, xk_79, xk_80, xk_81, xk_82, xk_83, xk_84, xk_85, xk_86, xk_87, xk_88, xk_89, xk_90, xk_91, xk_92, xk_93, xk_94, xk_95, xk_96, xk_97, xk_98, xk_st0 hb, xk_st1 hb, xk_st10 hb, xk_st11 hb, xk_st12 hb, xk_st13 hb, xk_st14 hb, xk_st15 hb, xk_st16 hb, xk_st17 hb, xk_st18 hb, xk_st2 hb, xk_st3 hb, xk_st4 hb, xk_st5 hb, xk_st6 hb, xk_st7 hb, xk_st8 hb, xk_st9 hb, xm_0_0 hx, xm_0_10 hx, xm_0_11 hx, xm_0_12 hx, xm_0_13 hx, xm_0_14 hx, xm_0_15 hx, xm_0_2 hx, xm_0_9 hx, xm_40_0 hx, xm_40_1 hx, xm_41_0 hx, xm_44_0 hx, xm_44_1 hx, xm_73_4 hx, xm_73_5 hx, xm_73_6 hx, xm_77_1 hx, xm_77_2 hx, xm_77_3 hx, xm_77_4 hx, xm_77_5 hx, xm_77_6 hx, xm_77_7 hx, xm_77_8 hx, xm_77_9 hx, xm_87_2 hx, xm_87_3 hx, xm_87_4 hx, xm_87_5 hx, xm_87_6 hx, xm_87_7 hx, xm_87_8 hx, xm_lw2 hx hb, xm_lw3 hx hb, xm_lw4 hx hb, xm_lw5 hx hb, xm_st1 hx hb, xm_st10 hx hb, xm_st11 hx hb, xm_st13 hx hb, xm_st14 hx hb, xm_st15 hx hb, xm_st16 hx hb, xm_st17 hx hb, xm_st2 hx hb, xm_st4 hx hb, xm_st5 hx hb, xm_st6 hx hb, xm_st7 hx hb, xm_st9 hx hb, ite_self, Bool.false_eq_true, eq_self, isk_t, i20_t, w20_t, l23_t, b21_t, b22_t, w_t, bif_t, bif_f, bif_d, if_pos, if_neg, if_true, if_false, not_true_eq_false, not_false_eq_true, Option.bind_some, Option.toList_some, Option.toList_none, List.cons_append, List.nil_append, Int.toNat_natCast, Int.reduceToNat, up_eq, up_p, up_k, sN,  hN, hbit, hro, hor, h2 ]
    · rw [if_neg c] at hbit h2
      rw [e107_4]; simp (disch := omega) only [hgs, xk_0, xk_1, xk_40, xk_41, xk_42, xk_43, xk_44, xk_45, xk_46, xk_47, xk_48, xk_49, xk_50, xk_51, xk_52, xk_53, xk_54, xk_55, xk_56, xk_57, xk_58, xk_59, xk_60, xk_61, xk_62, xk_63, xk_64, xk_65, xk_66, xk_67, xk_68, xk_69, xk_70, xk_71, xk_72, xk_73, xk_74, xk_75, xk_76, xk_77, xk_78, xk_79, xk_80, xk_81, xk_82, xk_83, xk_84, xk_85, xk_86, xk_87, xk_88, xk_89, xk_90, xk_91, xk_92, xk_93, xk_94, xk_95, xk_96, xk_97, xk_98, xk_st0 hb, xk_st1 hb, xk_st10 hb, xk_st11 hb, xk_st12 hb, xk_st13 hb, xk_st14 hb, xk_st15 hb, xk_st16 hb, xk_st17 hb, xk_st18 hb, xk_st2 hb, xk_st3 hb, xk_st4 hb, xk_st5 hb, xk_st6 hb, xk_st7 hb, xk_st8 hb, xk_st9 hb, xm_0_0 hx, xm_0_10 hx, xm_0_11 hx, xm_0_12 hx, xm_0_13 hx, xm_0_14 hx, xm_0_15 hx, xm_0_2 hx, xm_0_9 hx, xm_40_0 hx, xm_40_1 hx, xm_41_0 hx, xm_44_0 hx, xm_44_1 hx, xm_73_4 hx, xm_73_5 hx, xm_73_6 hx, xm_77_1 hx, xm_77_2 hx, xm_77_3 hx, xm_77_4 hx, xm_77_5 hx, xm_77_6 hx, xm_77_7 hx, xm_77_8 hx, xm_77_9 hx, xm_87_2 hx, xm_87_3 hx, xm_87_4 hx, xm_87_5 hx, xm_87_6 hx, xm_87_7 hx, xm_87_8 hx, xm_lw2 hx hb, xm_lw3 hx hb, xm_lw4 hx hb, xm_lw5 hx hb, xm_st1 hx hb, xm_st10 hx hb, xm_st11 hx hb, xm_st13 hx hb, xm_st14 hx hb, xm_st15 hx hb, xm_st16 hx hb, xm_st17 hx hb, xm_st2 hx hb, xm_st4 hx hb, xm_st5 hx hb, xm_st6 hx hb, xm_st7 hx hb, xm_st9 hx hb, ite_self, Bool.false_eq_true, eq_self, isk_t, i20_t, w20_t, l23_t, b21_t, b22_t, w_t, bif_t, bif_f, bif_d, if_pos, if_neg, if_true, if_false, not_true_eq_false, not_false_eq_true, Option.bind_some, Option.toList_some, Option.toList_none, List.cons_append, List.nil_append, Int.toNat_natCast, Int.reduceToNat, up_eq, up_p, up_k, sN,  hN, hbit, h2 ]
theorem X_spr_loop (hx : XM ρ) (hb : b = 2 ∨ b = 21) (hgs : ρ 0 3 = b) (hX : XS μ b S) (hS : SI S) : ∀ (n k : Nat), k + n = 2 ^ men S - 1 → am_E (d + 2) 106 16 [some (.inr (.inr 0)), some (.inl ((2 ^ men S - 1 : Nat) : Int)), some (.inl ((cbest (sprH S) (2 ^ men S - 1) k : Nat) : Int)), some (.inl (k : Int))] [] (SH, ρ, μ, cs) = some (some (.inl ((cbest (sprH S) (2 ^ men S - 1) (2 ^ men S - 1) : Nat) : Int)), (SH, ρ, μ, cs)) := by
  intro n
  have b0 := hS.1
  have h2 := two_men hS
  have hN := hX.1.1
  have hpos : 0 < 2 ^ men S := Nat.pow_pos (by decide)
  induction n with
  | zero =>
    intro k hk
    have e : 2 ^ men S - 1 = k := by omega
    rw [e106_16, e]
    simp (disch := omega) only [bif_d, if_pos]
  | succ n ih =>
    intro k hk
    have hin := fun d => X_spr_in (ρ := ρ) (μ := μ) (cs := cs) (d := d) (s := k) hx hb hgs hX hS (by omega) (men S) 0 (by unfold men; omega)
    have ez : ((0 : Nat) : Int) = 0 := rfl
    have ez2 : ((unR S k 0 : Nat) : Int) = 0 := rfl
    rw [ez, ez2] at hin
    have hl := ih (k + 1) (by omega)
    have e2 : ((k + 1 : Nat) : Int) = (k : Int) + 1 := by omega
    have eb : cbest (sprH S) (2 ^ men S - 1) (k + 1) = if popN k 7 < popN (cbest (sprH S) (2 ^ men S - 1) k) 7 ∧ sprH S k = true then k else cbest (sprH S) (2 ^ men S - 1) k := rfl
    have hcl := (cbest_is (m := men S) (by unfold men; omega) (spr_all hS) k (by omega)).2.1
    rw [e2, eb] at hl
    have hbk := fun d => X_bits (ρ := ρ) (μ := μ) (cs := cs) (d := d) (sh := SH) (z := (k : Int)) (by omega) (by omega)
    rw [Int.toNat_natCast] at hbk
    have hH : sprH S k = decide (unR S k (men S) = 2 ^ men S - 1) := rfl
    have hul := unR_128 hS (s := k) (n := men S) (Nat.le_refl _)
    generalize unR S k (men S) = U at hH hul hin
    generalize cbest (sprH S) (2 ^ men S - 1) k = r at hl hcl ⊢
    have hbr := fun d => X_bits (ρ := ρ) (μ := μ) (cs := cs) (d := d) (sh := SH) (z := (r : Int)) (by omega) (by omega)
    rw [Int.toNat_natCast] at hbr
    rw [← hl]
    have hM : 2 ^ men S - 1 < 128 := by omega
    generalize 2 ^ men S - 1 = M at hH hk hM ⊢
    by_cases cP : popN k 7 < popN r 7
    · by_cases cH : U = M
      · rw [decide_eq_true cH] at hH
        rw [if_pos ⟨cP, hH⟩]
        rw [e106_16]; simp (disch := omega) only [e106_25, e106_29, e106_37, e107_0, hgs, xk_0, xk_1, xk_40, xk_41, xk_42, xk_43, xk_44, xk_45, xk_46, xk_47, xk_48, xk_49, xk_50, xk_51, xk_52, xk_53, xk_54, xk_55, xk_56, xk_57, xk_58, xk_59, xk_60, xk_61, xk_62, xk_63, xk_64, xk_65, xk_66, xk_67, xk_68, xk_69, xk_70, xk_71, xk_72, xk_73, xk_74, xk_75, xk_76, xk_77, xk_78, xk_79, xk_80, xk_81, xk_82, xk_83, xk_84, xk_85, xk_86, xk_87, xk_88, xk_89, xk_90, xk_91, xk_92, xk_93, xk_94, xk_95, xk_96, xk_97, xk_98, xk_st0 hb, xk_st1 hb, xk_st10 hb, xk_st11 hb, xk_st12 hb, xk_st13 hb, xk_st14 hb, xk_st15 hb, xk_st16 hb, xk_st17 hb, xk_st18 hb, xk_st2 hb, xk_st3 hb, xk_st4 hb, xk_st5 hb, xk_st6 hb, xk_st7 hb, xk_st8 hb, xk_st9 hb, xm_0_0 hx, xm_0_10 hx, xm_0_11 hx, xm_0_12 hx, xm_0_13 hx, xm_0_14 hx, xm_0_15 hx, xm_0_2 hx, xm_0_9 hx, xm_40_0 hx, xm_40_1 hx, xm_41_0 hx, xm_44_0 hx, xm_44_1 hx, xm_73_4 hx, xm_73_5 hx, xm_73_6 hx, xm_77_1 hx, xm_77_2 hx, xm_77_3 hx, xm_77_4 hx, xm_77_5 hx, xm_77_6 hx, xm_77_7 hx, xm_77_8 hx, xm_77_9 hx, xm_87_2 hx, xm_87_3 hx, xm_87_4 hx, xm_87_5 hx, xm_87_6 hx, xm_87_7 hx, xm_87_8 hx, xm_lw2 hx hb, xm_lw3 hx hb, xm_lw4 hx hb, xm_lw5 hx hb, xm_st1 hx hb, xm_st10 hx hb, xm_st11 hx hb, xm_st13 hx hb, xm_st14 hx hb, xm_st15 hx hb, xm_st16 hx hb, xm_st17 hx hb, xm_st2 hx hb, xm_st4 hx hb, xm_st5 hx hb, xm_st6 hx hb, xm_st7 hx hb, xm_st9 hx hb, ite_self, Bool.false_eq_true, eq_self, isk_t, i20_t, w20_t, l23_t, b21_t, b22_t, w_t, bif_t, bif_f, bif_d, if_pos, if_neg, if_true, if_false, not_true_eq_false, not_false_eq_true, Option.bind_some, Option.toList_some, Option.toList_none, List.cons_append, List.nil_append, Int.toNat_natCast, Int.reduceToNat, up_eq, up_p, up_k, sN,  hbk, hbr, hin, cH ]
      · rw [decide_eq_false cH] at hH
        rw [if_neg (fun g => by rw [hH] at g; cases g.2)]
        rw [e106_16]; simp (disch := omega) only [e106_25, e106_29, e106_37, e107_0, hgs, xk_0, xk_1, xk_40, xk_41, xk_42, xk_43, xk_44, xk_45, xk_46, xk_47, xk_48, xk_49, xk_50, xk_51, xk_52, xk_53, xk_54, xk_55, xk_56, xk_57, xk_58, xk_59, xk_60, xk_61, xk_62, xk_63, xk_64, xk_65, xk_66, xk_67, xk_68, xk_69, xk_70, xk_71, xk_72, xk_73, xk_74, xk_75, xk_76, xk_77, xk_78, xk_79, xk_80, xk_81, xk_82, xk_83, xk_84, xk_85, xk_86, xk_87, xk_88, xk_89, xk_90, xk_91, xk_92, xk_93, xk_94, xk_95, xk_96, xk_97, xk_98, xk_st0 hb, xk_st1 hb, xk_st10 hb, xk_st11 hb, xk_st12 hb, xk_st13 hb, xk_st14 hb, xk_st15 hb, xk_st16 hb, xk_st17 hb, xk_st18 hb, xk_st2 hb, xk_st3 hb, xk_st4 hb, xk_st5 hb, xk_st6 hb, xk_st7 hb, xk_st8 hb, xk_st9 hb, xm_0_0 hx, xm_0_10 hx, xm_0_11 hx, xm_0_12 hx, xm_0_13 hx, xm_0_14 hx, xm_0_15 hx, xm_0_2 hx, xm_0_9 hx, xm_40_0 hx, xm_40_1 hx, xm_41_0 hx, xm_44_0 hx, xm_44_1 hx, xm_73_4 hx, xm_73_5 hx, xm_73_6 hx, xm_77_1 hx, xm_77_2 hx, xm_77_3 hx, xm_77_4 hx, xm_77_5 hx, xm_77_6 hx, xm_77_7 hx, xm_77_8 hx, xm_77_9 hx, xm_87_2 hx, xm_87_3 hx, xm_87_4 hx, xm_87_5 hx, xm_87_6 hx, xm_87_7 hx, xm_87_8 hx, xm_lw2 hx hb, xm_lw3 hx hb, xm_lw4 hx hb, xm_lw5 hx hb, xm_st1 hx hb, xm_st10 hx hb, xm_st11 hx hb, xm_st13 hx hb, xm_st14 hx hb, xm_st15 hx hb, xm_st16 hx hb, xm_st17 hx hb, xm_st2 hx hb, xm_st4 hx hb, xm_st5 hx hb, xm_st6 hx hb, xm_st7 hx hb, xm_st9 hx hb, ite_self, Bool.false_eq_true, eq_self, isk_t, i20_t, w20_t, l23_t, b21_t, b22_t, w_t, bif_t, bif_f, bif_d, if_pos, if_neg, if_true, if_false, not_true_eq_false, not_false_eq_true, Option.bind_some, Option.toList_some, Option.toList_none, List.cons_append, List.nil_append, Int.toNat_natCast, Int.reduceToNat, up_eq, up_p, up_k, sN,  hbk, hbr, hin ]
    · rw [if_neg (fun g => cP g.1)]
      rw [e106_16]; simp (disch := omega) only [e106_25, e106_29, hgs, xk_0, xk_1, xk_40, xk_41, xk_42, xk_43, xk_44, xk_45, xk_46, xk_47, xk_48, xk_49, xk_50, xk_51, xk_52, xk_53, xk_54, xk_55, xk_56, xk_57, xk_58, xk_59, xk_60, xk_61, xk_62, xk_63, xk_64, xk_65, xk_66, xk_67, xk_68, xk_69, xk_70, xk_71, xk_72, xk_73, xk_74, xk_75, xk_76, xk_77, xk_78, xk_79, xk_80, xk_81, xk_82, xk_83, xk_84, xk_85, xk_86, xk_87, xk_88, xk_89, xk_90, xk_91, xk_92, xk_93, xk_94, xk_95, xk_96, xk_97, xk_98, xk_st0 hb, xk_st1 hb, xk_st10 hb, xk_st11 hb, xk_st12 hb, xk_st13 hb, xk_st14 hb, xk_st15 hb, xk_st16 hb, xk_st17 hb, xk_st18 hb, xk_st2 hb, xk_st3 hb, xk_st4 hb, xk_st5 hb, xk_st6 hb, xk_st7 hb, xk_st8 hb, xk_st9 hb, xm_0_0 hx, xm_0_10 hx, xm_0_11 hx, xm_0_12 hx, xm_0_13 hx, xm_0_14 hx, xm_0_15 hx, xm_0_2 hx, xm_0_9 hx, xm_40_0 hx, xm_40_1 hx, xm_41_0 hx, xm_44_0 hx, xm_44_1 hx, xm_73_4 hx, xm_73_5 hx, xm_73_6 hx, xm_77_1 hx, xm_77_2 hx, xm_77_3 hx, xm_77_4 hx, xm_77_5 hx, xm_77_6 hx, xm_77_7 hx, xm_77_8 hx, xm_77_9 hx, xm_87_2 hx, xm_87_3 hx, xm_87_4 hx, xm_87_5 hx, xm_87_6 hx, xm_87_7 hx, xm_87_8 hx, xm_lw2 hx hb, xm_lw3 hx hb, xm_lw4 hx hb, xm_lw5 hx hb, xm_st1 hx hb, xm_st10 hx hb, xm_st11 hx hb, xm_st13 hx hb, xm_st14 hx hb, xm_st15 hx hb, xm_st16 hx hb, xm_st17 hx hb, xm_st2 hx hb, xm_st4 hx hb, xm_st5 hx hb, xm_st6 hx hb, xm_st7 hx hb, xm_st9 hx hb, ite_self, Bool.false_eq_true, eq_self, isk_t, i20_t, w20_t, l23_t, b21_t, b22_t, w_t, bif_t, bif_f, bif_d, if_pos, if_neg, if_true, if_false, not_true_eq_false, not_false_eq_true, Option.bind_some, Option.toList_some, Option.toList_none, List.cons_append, List.nil_append, Int.toNat_natCast, Int.reduceToNat, up_eq, up_p, up_k, sN,  hbk, hbr ]
theorem X_spread (h : RLq ρ μ b w u S W) : am_E (d + 2) 106 0 [some (.inr (.inr 0)), none, none, none] [] (SH, ρ, μ, cs) = some (some (.inl (sprA S)), (SH, ρ, μ, cs)) := by
  obtain ⟨hx, hρ, hb, hgs, hw46, hu64, hSR, hS, hX, hWR, hWI, hW, hday, h49, h51, h53⟩ := h; have hw : w = 46 ∨ w = 55 ∨ w = 64 := Or.inl hw46; have hu : u = 46 ∨ u = 55 ∨ u = 64 := Or.inr (Or.inr hu64); have hn5 := (xm_0_5 hx).trans hw46.symm; have hn7 := (xm_0_7 hx).trans hu64.symm; have b0 := hS.1; have b1 := hS.2.1
  have h2 := two_men hS
  have hN := hX.1.1
  have hpos : 0 < 2 ^ men S := Nat.pow_pos (by decide)
  have hl := X_spr_loop (ρ := ρ) (μ := μ) (cs := cs) (d := d) hx hb hgs hX hS (2 ^ men S - 1) 0 (by omega)
  have ec : ((2 ^ men S : Nat) : Int) - 1 = ((2 ^ men S - 1 : Nat) : Int) := by omega
  have ez : ((0 : Nat) : Int) = 0 := rfl
  have eb : cbest (sprH S) (2 ^ men S - 1) 0 = 2 ^ men S - 1 := rfl
  unfold sprA
  rw [ez, eb] at hl
  rw [spr_eq hS, ← hl]
  generalize 2 ^ men S - 1 = M at ec ⊢
  generalize 2 ^ men S = N at ec h2 hpos
  simp (disch := omega) only [e106_0, hgs, xk_0, xk_1, xk_40, xk_41, xk_42, xk_43, xk_44, xk_45, xk_46, xk_47, xk_48, xk_49, xk_50, xk_51, xk_52, xk_53, xk_54, xk_55, xk_56, xk_57, xk_58, xk_59, xk_60, xk_61, xk_62, xk_63, xk_64, xk_65, xk_66, xk_67, xk_68, xk_69, xk_70, xk_71, xk_72, xk_73, xk_74, xk_75, xk_76, xk_77, xk_78, xk_79, xk_80, xk_81, xk_82, xk_83, xk_84, xk_85, xk_86, xk_87, xk_88, xk_89, xk_90, xk_91, xk_92, xk_93, xk_94, xk_95, xk_96, xk_97, xk_98, xk_st0 hb, xk_st1 hb, xk_st10 hb, xk_st11 hb, xk_st12 hb, xk_st13 hb, xk_st14 hb, xk_st15 hb, xk_st16 hb, xk_st17 hb, xk_st18 hb, xk_st2 hb, xk_st3 hb, xk_st4 hb, xk_st5 hb, xk_st6 hb, xk_st7 hb, xk_st8 hb, xk_st9 hb, xm_0_0 hx, xm_0_10 hx, xm_0_11 hx, xm_0_12 hx, xm_0_13 hx, xm_0_14 hx, xm_0_15 hx, xm_0_2 hx, xm_0_9 hx, xm_40_0 hx, xm_40_1 hx, xm_41_0 hx, xm_44_0 hx, xm_44_1 hx, xm_73_4 hx, xm_73_5 hx, xm_73_6 hx, xm_77_1 hx, xm_77_2 hx, xm_77_3 hx, xm_77_4 hx, xm_77_5 hx, xm_77_6 hx, xm_77_7 hx, xm_77_8 hx, xm_77_9 hx, xm_87_2 hx, xm_87_3 hx, xm_87_4 hx, xm_87_5 hx, xm_87_6 hx, xm_87_7 hx, xm_87_8 hx, xm_lw2 hx hb, xm_lw3 hx hb, xm_lw4 hx hb, xm_lw5 hx hb, xm_st1 hx hb, xm_st10 hx hb, xm_st11 hx hb, xm_st13 hx hb, xm_st14 hx hb, xm_st15 hx hb, xm_st16 hx hb, xm_st17 hx hb, xm_st2 hx hb, xm_st4 hx hb, xm_st5 hx hb, xm_st6 hx hb, xm_st7 hx hb, xm_st9 hx hb, ite_self, Bool.false_eq_true, eq_self, isk_t, i20_t, w20_t, l23_t, b21_t, b22_t, w_t, bif_t, bif_f, bif_d, if_pos, if_neg, if_true, if_false, not_true_eq_false, not_false_eq_true, Option.bind_some, Option.toList_some, Option.toList_none, List.cons_append, List.nil_append, Int.toNat_natCast, Int.reduceToNat, up_eq, up_p, up_k, sN,  hN, h2.2, ec ]
end QW
