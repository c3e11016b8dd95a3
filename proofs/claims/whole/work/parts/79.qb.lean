/-! QUERIES: named, reach, lone, law, pairs -/
/-- what a query of the class may change -/
def FrY (μ μ' : Nat → Nat → Int) : Prop := ∀ q k, ¬ ((64 ≤ q ∧ q ≤ 76) ∨ (94 ≤ q ∧ q ≤ 98)) → μ' q k = μ q k
theorem fry_rf (μ : Nat → Nat → Int) : FrY μ μ := fun _ _ _ => rfl
theorem fry_tr {a b c : Nat → Nat → Int} (h1 : FrY a b) (h2 : FrY b c) : FrY a c := fun q k h => (h2 q k h).trans (h1 q k h)
theorem fry_a {a b : Nat → Nat → Int} (h : FrA a b) : FrY a b := fun q k hq => h q k (by omega)
theorem fry_z {a b : Nat → Nat → Int} (h : FrZ a b) : FrY a b := fun q k hq => h q k (by omega) (by omega)
theorem fry_c {a b : Nat → Nat → Int} (h : FrC a b) : FrY a b := fun q k hq => h q k (by omega) (by omega)
theorem fry_q {a b : Nat → Nat → Int} (h : FrY a b) : FrQ a b := fun q k hq => h q k (by omega)
theorem fry_CR {μ μ' : Nat → Nat → Int} (h : FrY μ μ') (y : Int) : CR μ' y = CR μ y := by
  have e0 := frq_SR (fry_q h)
  have e : bendR μ' = bendR μ := by
    funext p
    unfold bendR
    rw [e0, h 99 49 (by omega), h 99 51 (by omega), h 99 52 (by omega)]
  unfold CR
  rw [e, e0, h 99 49 (by omega), h 99 50 (by omega), h 99 53 (by omega)]
theorem thr_CR {μ : Nat → Nat → Int} {v y : Int} : CR (am_up μ 99 0 v) y = CR μ y := by
  have e0 : SR (am_up μ 99 0 v) = SR μ := sr_up (by omega)
  have e : bendR (am_up μ 99 0 v) = bendR μ := by
    funext p
    unfold bendR
    rw [e0, up_k (by omega), up_k (by omega), up_k (by omega)]
  unfold CR
  rw [e, e0, up_k (by omega), up_k (by omega), up_k (by omega)]
theorem fnd_congr {f g : Nat → Int} {b : Nat} {z : Int} : ∀ (n k : Nat), (∀ i, k ≤ i → i < k + n → f (b + i) = g (b + i)) → fnd f b z n k = fnd g b z n k
  | 0, _, _ => rfl
  | n + 1, k, h => by
    show (if f (b + k) = z then (k : Int) else fnd f b z n (k + 1)) = (if g (b + k) = z then (k : Int) else fnd g b z n (k + 1))
    rw [h k (by omega) (by omega), fnd_congr n (k + 1) (fun i h0 h1 => h i (by omega) (by omega))]
/-- reaching: one turn over the ways, some turns -/
def rT (S : MS) : Nat → Int → Nat → Nat
  | 0, _, s => s
  | n + 1, k, s => rT S n (k + 1) (if s.testBit (S 8 k).toNat then s ||| 2 ^ (S 9 k).toNat else s)
def rI (S : MS) : Nat → Nat → Nat
  | 0, s => s
  | n + 1, s => rI S n (rT S (S 0 3).toNat 0 s)
theorem rT_lt {S : MS} (hS : SI S) : ∀ (n : Nat) (k : Int) (s : Nat), 0 ≤ k → k + n ≤ S 0 3 → s < 2 ^ men S → rT S n k s < 2 ^ men S
  | 0, _, _, _, _, h => h
  | n + 1, k, s, h0, h1, h => by
    have bk := hS.2.2.2.2.2.2.2.2.2.2.2.2.2.1 k h0 (by omega)
    refine rT_lt hS n (k + 1) _ (by omega) (by omega) ?_
    split
    · exact or1_lt h bk.2.1.1 (by unfold men; omega)
    · exact h
theorem rT_lt7 {S : MS} (hS : SI S) : ∀ (n : Nat) (k : Int) (s : Nat), 0 ≤ k → k + n ≤ S 0 3 → s < 128 → rT S n k s < 128
  | 0, _, _, _, _, h => h
  | n + 1, k, s, h0, h1, h => by
    have bk := hS.2.2.2.2.2.2.2.2.2.2.2.2.2.1 k h0 (by omega)
    have b0 := hS.1
    refine rT_lt7 hS n (k + 1) _ (by omega) (by omega) ?_
    split
    · exact or1_lt (n := 7) h bk.2.1.1 (by omega)
    · exact h
theorem or_same {s : Nat} {j : Nat} (h : s.testBit j = true) : s ||| 2 ^ j = s := by
  apply Nat.eq_of_testBit_eq
  intro i
  rw [Nat.testBit_or, Nat.testBit_two_pow]
  by_cases e : j = i
  · subst e; simp [h]
  · simp [e]
theorem rT_pop {S : MS} (hS : SI S) : ∀ (n : Nat) (k : Int) (s : Nat), 0 ≤ k → k + n ≤ S 0 3 → popN s 7 ≤ popN (rT S n k s) 7 ∧ (popN (rT S n k s) 7 = popN s 7 → rT S n k s = s)
  | 0, _, _, _, _ => ⟨Int.le_refl _, fun _ => rfl⟩
  | n + 1, k, s, h0, h1 => by
    have bk := hS.2.2.2.2.2.2.2.2.2.2.2.2.2.1 k h0 (by omega)
    have b0 := hS.1
    show popN s 7 ≤ popN (rT S n (k + 1) (if s.testBit (S 8 k).toNat then s ||| 2 ^ (S 9 k).toNat else s)) 7 ∧ (popN (rT S n (k + 1) (if s.testBit (S 8 k).toNat then s ||| 2 ^ (S 9 k).toNat else s)) 7 = popN s 7 → rT S n (k + 1) (if s.testBit (S 8 k).toNat then s ||| 2 ^ (S 9 k).toNat else s) = s)
    by_cases q : s.testBit (S 8 k).toNat = true
    · rw [if_pos q]
      by_cases q2 : s.testBit (S 9 k).toNat = true
      · rw [or_same q2]
        exact rT_pop hS n (k + 1) s (by omega) (by omega)
      · have q3 : s.testBit (S 9 k).toNat = false := by simpa using q2
        have h2 := rT_pop hS n (k + 1) (s ||| 2 ^ (S 9 k).toNat) (by omega) (by omega)
        have h3 := popN_or1 bk.2.1.1 q3 7
        rw [if_pos (by omega)] at h3
        exact ⟨by omega, fun g => by omega⟩
    · rw [if_neg q]
      exact rT_pop hS n (k + 1) s (by omega) (by omega)
theorem rI_fix {S : MS} {s : Nat} (h : rT S (S 0 3).toNat 0 s = s) : ∀ n, rI S n s = s
  | 0 => rfl
  | n + 1 => by
    show rI S n (rT S (S 0 3).toNat 0 s) = s
    rw [h]
    exact rI_fix h n
theorem pop_lt {s n : Nat} : ∀ (m : Nat), s < 2 ^ n → n ≤ m → popN s m = popN s n := by
  intro m h hm
  rw [popN_cnt, popN_cnt]
  obtain ⟨j, rfl⟩ : ∃ j, m = n + j := ⟨m - n, by omega⟩
  refine cnt_cut j (fun k h0 h1 => ?_)
  exact Nat.testBit_lt_two_pow (Nat.lt_of_lt_of_le h (Nat.pow_le_pow_right (by decide) (by omega)))
theorem pop_full {s : Nat} : ∀ (n : Nat), popN s n = n → ∀ j, j < n → s.testBit j = true
  | 0, _, j, hj => by omega
  | n + 1, h, j, hj => by
    have h1 := popN_le s n
    have h2 : popN s n + (if s.testBit n then 1 else 0) = ((n + 1 : Nat) : Int) := h
    by_cases q : s.testBit n = true
    · rw [if_pos q] at h2
      by_cases e : j = n
      · subst e; exact q
      · exact pop_full n (by omega) j (by omega)
    · rw [if_neg q] at h2
      omega
theorem rT_full {S : MS} (hS : SI S) {s : Nat} (h : ∀ j, j < men S → s.testBit j = true) : ∀ (n : Nat) (k : Int), 0 ≤ k → k + n ≤ S 0 3 → rT S n k s = s
  | 0, _, _, _ => rfl
  | n + 1, k, h0, h1 => by
    have bk := hS.2.2.2.2.2.2.2.2.2.2.2.2.2.1 k h0 (by omega)
    show rT S n (k + 1) (if s.testBit (S 8 k).toNat then s ||| 2 ^ (S 9 k).toNat else s) = s
    have e : (if s.testBit (S 8 k).toNat then s ||| 2 ^ (S 9 k).toNat else s) = s := by
      split
      · exact or_same (h _ (by unfold men; omega))
      · rfl
    rw [e]
    exact rT_full hS h n (k + 1) (by omega) (by omega)
/-- as many turns as people are enough -/
theorem rI_more {S : MS} (hS : SI S) : ∀ (n m : Nat) (s : Nat), s < 2 ^ men S → (men S : Int) ≤ popN s 7 + n → n ≤ m → rI S m s = rI S n s
  | 0, m, s, hs, hp, hm => by
    have b0 := hS.1
    have b3 := hS.2.2.2.1
    have h1 := pop_lt (s := s) (n := men S) 7 hs (by unfold men; omega)
    have h2 := popN_le s (men S)
    exact rI_fix (rT_full hS (pop_full (men S) (by omega)) _ 0 (Int.le_refl _) (by omega)) m
  | n + 1, m, s, hs, hp, hm => by
    have b3 := hS.2.2.2.1
    obtain ⟨j, rfl⟩ : ∃ j, m = j + 1 := ⟨m - 1, by omega⟩
    show rI S j (rT S (S 0 3).toNat 0 s) = rI S n (rT S (S 0 3).toNat 0 s)
    have h1 := rT_pop hS (S 0 3).toNat 0 s (Int.le_refl _) (by omega)
    by_cases q : rT S (S 0 3).toNat 0 s = s
    · rw [q, rI_fix q, rI_fix q]
    · have h2 : popN (rT S (S 0 3).toNat 0 s) 7 ≠ popN s 7 := fun g => q (h1.2 g)
      exact rI_more hS n j _ (rT_lt hS _ 0 s (Int.le_refl _) (by omega) hs) (by omega) (by omega)
def reachF (S : MS) (p : Int) : Nat := rI S 7 (2 ^ p.toNat)
theorem pop_one {p : Nat} : ∀ {n : Nat}, p < n → popN (2 ^ p) n = 1
  | 0, h => by omega
  | n + 1, h => by
    show popN (2 ^ p) n + (if (2 ^ p).testBit n then 1 else 0) = 1
    by_cases e : p = n
    · subst e
      have : popN (2 ^ p) p = 0 := by
        rw [popN_cnt]
        have h2 := cnt_cut (f := fun k => (2 ^ p).testBit k.toNat) (n := 0) p (fun k h0 h1 => by
          show (2 ^ p).testBit k.toNat = false
          rw [Nat.testBit_two_pow]
          exact decide_eq_false (by omega))
        rw [Nat.zero_add] at h2
        exact h2
      rw [this, Nat.testBit_two_pow, decide_eq_true rfl]
      all_goals rfl
    · rw [pop_one (show p < n by omega), Nat.testBit_two_pow, decide_eq_false e]
      all_goals rfl
theorem reach_men {S : MS} (hS : SI S) {p : Int} (p0 : 0 ≤ p) (p1 : p < S 0 0) : rI S (men S) (2 ^ p.toNat) = reachF S p := by
  have b0 := hS.1
  refine (rI_more hS (men S) 7 (2 ^ p.toNat) (Nat.pow_lt_pow_right (by decide) (by unfold men; omega)) ?_ (by unfold men; omega)).symm
  rw [pop_one (by omega)]
  omega
theorem rI_lt7 {S : MS} (hS : SI S) : ∀ (n : Nat) (s : Nat), s < 128 → rI S n s < 128
  | 0, _, h => h
  | n + 1, s, h => rI_lt7 hS n _ (rT_lt7 hS _ 0 s (Int.le_refl _) (by have := hS.2.2.2.1; omega) h)
section QB
variable {ρ : Nat → Nat → Nat} {μ : Nat → Nat → Int} {cs : Nat × Nat × Nat} {d b w u : Nat} {S : MS} {W : MW}
theorem X_placeOf {q len : Nat} {z sz : Int} (hk : am_ks SH cs.2.2 q = (20, len)) (hl : len < 1000) (h0 : 0 ≤ sz) (h1 : sz ≤ len) : ∀ (n k : Nat), (k : Int) + n = sz → am_E d 58 2 [some (.inl z), some (.inr (.inr q)), some (.inl sz), some (.inl (k : Int))] [] (SH, ρ, μ, cs) = some (some (.inl (fnd (μ q) 0 z n k)), (SH, ρ, μ, cs)) := by
  intro n
  induction n with
  | zero =>
    intro k hkn
    rw [e58_2]
    simp (disch := omega) only [bif_d, if_pos]
    all_goals rfl
  | succ n ih =>
    intro k hkn
    have hlk : am_lnk (20, len) = true := by simp [am_lnk]; omega
    have h2 := ih (k + 1) (by omega)
    have e2 : ((k + 1 : Nat) : Int) = (k : Int) + 1 := by omega
    rw [e2] at h2
    have e3 : fnd (μ q) 0 z (n + 1) k = if μ q (0 + k) = z then (k : Int) else fnd (μ q) 0 z n (k + 1) := rfl
    rw [e3, Nat.zero_add, e58_2]
    by_cases c : μ q k = z
    · simp (disch := omega) only [bif_d, if_neg, if_pos, hk, hlk, bif_t, i20_t, Int.toNat_natCast, c, not_true_eq_false, if_false, if_true]
    · simp (disch := omega) only [bif_d, if_neg, if_pos, hk, hlk, bif_t, i20_t, Int.toNat_natCast, c, not_false_eq_true, if_true, w_t]
      exact h2
def namedA (S : MS) (q z : Int) : Int := if q = 0 then fnd (fun k => S 1 k) 0 z (S 0 0).toNat 0 else if q = 1 then fnd (fun k => S 3 k) 0 z (S 0 1).toNat 0 else -1
theorem X_named (h : RLq ρ μ b w u S W) {q z : Int} : am_E (d + 1) 89 0 [some (.inr (.inr 0)), some (.inl q), some (.inl z)] [] (SH, ρ, μ, cs) = some (some (.inl (namedA S q z)), (SH, ρ, μ, cs)) := by
  obtain ⟨hx, hρ, hb, hgs, hw46, hu64, hSR, hS, hX, hWR, hWI, hW, hday, h49, h51, h53⟩ := h; have hw : w = 46 ∨ w = 55 ∨ w = 64 := Or.inl hw46; have hu : u = 46 ∨ u = 55 ∨ u = 64 := Or.inr (Or.inr hu64); have hn5 := (xm_0_5 hx).trans hw46.symm; have hn7 := (xm_0_7 hx).trans hu64.symm; have b0 := hS.1; have b1 := hS.2.1
  have hN := hX.1.1
  have hN1 := hX.1.2.1
  unfold namedA
  by_cases q0 : q = 0
  · rw [if_pos q0]
    have h2 := fun d => X_placeOf (ρ := ρ) (μ := μ) (cs := cs) (d := d) (z := z) (xk_st1 (L := cs.2.2) hb) (by omega) b0.1 (by omega) (S 0 0).toNat 0 (by omega)
    rw [fnd_congr (g := fun k => S 1 k) _ _ (fun i h0 h1 => by
      have := (hX.2.2.1 (i : Int) (by omega) (by omega)).1
      rw [Int.toNat_natCast] at this
      rw [Nat.zero_add]
      exact this)] at h2
    have e : ((0 : Nat) : Int) = 0 := rfl
    rw [e] at h2
    simp (disch := omega) only [e89_0, e89_22, e58_0, hgs, xk_0, xk_1, xk_40, xk_41, xk_42, xk_43, xk_44, xk_45, xk_46, xk_47, xk_48, xk_49, xk_50, xk_51, xk_52, xk_53, xk_54, xk_55, xk_56, xk_57, xk_58, xk_59, xk_60, xk_61, xk_62, xk_63, xk_64, xk_65, xk_66, xk_67, xk_68, xk_69, xk_70, xk_71, xk_72, xk_73, xk_74, xk_75, xk_76, xk_77, xk_78, xk_79, xk_80, xk_81, xk_82, xk_83, xk_84, xk_85, xk_86, xk_87, xk_88, xk_89, xk_90, xk_91, xk_92, xk_93, xk_94, xk_95, xk_96, xk_97, xk_98, xk_st0 hb, xk_st1 hb, xk_st10 hb, xk_st11 hb, xk_st12 hb, xk_st13 hb, xk_st14 hb, xk_st15 hb, xk_st16 hb, xk_st17 hb, xk_st18 hb, xk_st2 hb, xk_st3 hb, xk_st4 hb, xk_st5 hb, xk_st6 hb, xk_st7 hb, xk_st8 hb, xk_st9 hb, xm_0_0 hx, xm_0_10 hx, xm_0_11 hx, xm_0_12 hx, xm_0_13 hx, xm_0_14 hx, xm_0_15 hx, xm_0_2 hx, xm_0_9 hx, xm_40_0 hx, xm_40_1 hx, xm_41_0 hx, xm_44_0 hx, xm_44_1 hx, xm_73_4 hx, xm_73_5 hx, xm_73_6 hx, xm_77_1 hx, xm_77_2 hx, xm_77_3 hx, xm_77_4 hx, xm_77_5 hx, xm_77_6 hx, xm_77_7 hx, xm_77_8 hx, xm_77_9 hx, xm_87_2 hx, xm_87_3 hx, xm_87_4 hx, xm_87_5 hx, xm_87_6 hx, xm_87_7 hx, xm_87_8 hx, xm_lw2 hx hb, xm_lw3 hx hb, xm_lw4 hx hb, xm_lw5 hx hb, xm_st1 hx hb, xm_st10 hx hb, xm_st11 hx hb, xm_st13 hx hb, xm_st14 hx hb, xm_st15 hx hb, xm_st16 hx hb, xm_st17 hx hb, xm_st2 hx hb, xm_st4 hx hb, xm_st5 hx hb, xm_st6 hx hb, xm_st7 hx hb, xm_st9 hx hb, ite_self, Bool.false_eq_true, eq_self, isk_t, i20_t, w20_t, l23_t, b21_t, b22_t, w_t, bif_t, bif_f, bif_d, if_pos, if_neg, if_true, if_false, not_true_eq_false, not_false_eq_true, Option.bind_some, Option.toList_some, Option.toList_none, List.cons_append, List.nil_append, Int.toNat_natCast, Int.reduceToNat, up_eq, up_p, up_k, sN,  hN, h2, q0 ]
  · rw [if_neg q0]
    by_cases q1 : q = 1
    · rw [if_pos q1]
      have h2 := fun d => X_placeOf (ρ := ρ) (μ := μ) (cs := cs) (d := d) (z := z) (xk_st3 (L := cs.2.2) hb) (by omega) b1.1 (by omega) (S 0 1).toNat 0 (by omega)
      rw [fnd_congr (g := fun k => S 3 k) _ _ (fun i h0 h1 => by
        have := (hX.2.2.2.1 (i : Int) (by omega) (by omega)).1
        rw [Int.toNat_natCast] at this
        rw [Nat.zero_add]
        exact this)] at h2
      have e : ((0 : Nat) : Int) = 0 := rfl
      rw [e] at h2
      simp (disch := omega) only [e89_0, e89_46, e58_0, hgs, xk_0, xk_1, xk_40, xk_41, xk_42, xk_43, xk_44, xk_45, xk_46, xk_47, xk_48, xk_49, xk_50, xk_51, xk_52, xk_53, xk_54, xk_55, xk_56, xk_57, xk_58, xk_59, xk_60, xk_61, xk_62, xk_63, xk_64, xk_65, xk_66, xk_67, xk_68, xk_69, xk_70, xk_71, xk_72, xk_73, xk_74, xk_75, xk_76, xk_77, xk_78, xk_79, xk_80, xk_81, xk_82, xk_83, xk_84, xk_85, xk_86, xk_87, xk_88, xk_89, xk_90, xk_91, xk_92, xk_93, xk_94, xk_95, xk_96, xk_97, xk_98, xk_st0 hb, xk_st1 hb, xk_st10 hb, xk_st11 hb, xk_st12 hb, xk_st13 hb, xk_st14 hb, xk_st15 hb, xk_st16 hb, xk_st17 hb, xk_st18 hb, xk_st2 hb, xk_st3 hb, xk_st4 hb, xk_st5 hb, xk_st6 hb, xk_st7 hb, xk_st8 hb, xk_st9 hb, xm_0_0 hx, xm_0_10 hx, xm_0_11 hx, xm_0_12 hx, xm_0_13 hx, xm_0_14 hx, xm_0_15 hx, xm_0_2 hx, xm_0_9 hx, xm_40_0 hx, xm_40_1 hx, xm_41_0 hx, xm_44_0 hx, xm_44_1 hx, xm_73_4 hx, xm_73_5 hx, xm_73_6 hx, xm_77_1 hx, xm_77_2 hx, xm_77_3 hx, xm_77_4 hx, xm_77_5 hx, xm_77_6 hx, xm_77_7 hx, xm_77_8 hx, xm_77_9 hx, xm_87_2 hx, xm_87_3 hx, xm_87_4 hx, xm_87_5 hx, xm_87_6 hx, xm_87_7 hx, xm_87_8 hx, xm_lw2 hx hb, xm_lw3 hx hb, xm_lw4 hx hb, xm_lw5 hx hb, xm_st1 hx hb, xm_st10 hx hb, xm_st11 hx hb, xm_st13 hx hb, xm_st14 hx hb, xm_st15 hx hb, xm_st16 hx hb, xm_st17 hx hb, xm_st2 hx hb, xm_st4 hx hb, xm_st5 hx hb, xm_st6 hx hb, xm_st7 hx hb, xm_st9 hx hb, ite_self, Bool.false_eq_true, eq_self, isk_t, i20_t, w20_t, l23_t, b21_t, b22_t, w_t, bif_t, bif_f, bif_d, if_pos, if_neg, if_true, if_false, not_true_eq_false, not_false_eq_true, Option.bind_some, Option.toList_some, Option.toList_none, List.cons_append, List.nil_append, Int.toNat_natCast, Int.reduceToNat, up_eq, up_p, up_k, sN,  hN1, h2, q1 ]
    · rw [if_neg q1]
      simp (disch := omega) only [e89_0, hgs, xk_0, xk_1, xk_40, xk_41, xk_42, xk_43, xk_44, xk_45, xk_46, xk_47, xk_48, xk_49, xk_50, xk_51, xk_52, xk_53, xk_54, xk_55, xk_56, xk_57, xk_58, xk_59, xk_60, xk_61, xk_62, xk_63, xk_64, xk_65, xk_66, xk_67, xk_68, xk_69, xk_70, xk_71, xk_72, xk_73, xk_74, xk_75, xk_76, xk_77, xk_78, xk_79, xk_80, xk_81, xk_82, xk_83, xk_84, xk_85, xk_86, xk_87, xk_88, xk_89, xk_90, xk_91, xk_92, xk_93, xk_94, xk_95, xk_96, xk_97, xk_98, xk_st0 hb, xk_st1 hb, xk_st10 hb, xk_st11 hb, xk_st12 hb, xk_st13 hb, xk_st14 hb, xk_st15 hb, xk_st16 hb, xk_st17 hb, xk_st18 hb, xk_st2 hb, xk_st3 hb, xk_st4 hb, xk_st5 hb, xk_st6 hb, xk_st7 hb, xk_st8 hb, xk_st9 hb, xm_0_0 hx, xm_0_10 hx, xm_0_11 hx, xm_0_12 hx, xm_0_13 hx, xm_0_14 hx, xm_0_15 hx, xm_0_2 hx, xm_0_9 hx, xm_40_0 hx, xm_40_1 hx, xm_41_0 hx, xm_44_0 hx, xm_44_1 hx, xm_73_4 hx, xm_73_5 hx, xm_73_6 hx, xm_77_1 hx, xm_77_2 hx, xm_77_3 hx, xm_77_4 hx, xm_77_5 hx, xm_77_6 hx, xm_77_7 hx, xm_77_8 hx, xm_77_9 hx, xm_87_2 hx, xm_87_3 hx, xm_87_4 hx, xm_87_5 hx, xm_87_6 hx, xm_87_7 hx, xm_87_8 hx, xm_lw2 hx hb, xm_lw3 hx hb, xm_lw4 hx hb, xm_lw5 hx hb, xm_st1 hx hb, xm_st10 hx hb, xm_st11 hx hb, xm_st13 hx hb, xm_st14 hx hb, xm_st15 hx hb, xm_st16 hx hb, xm_st17 hx hb, xm_st2 hx hb, xm_st4 hx hb, xm_st5 hx hb, xm_st6 hx hb, xm_st7 hx hb, xm_st9 hx hb, ite_self, Bool.false_eq_true, eq_self, isk_t, i20_t, w20_t, l23_t, b21_t, b22_t, w_t, bif_t, bif_f, bif_d, if_pos, if_neg, if_true, if_false, not_true_eq_false, not_false_eq_true, Option.bind_some, Option.toList_some, Option.toList_none, List.cons_append, List.nil_append, Int.toNat_natCast, Int.reduceToNat, up_eq, up_p, up_k, sN]
theorem R_named (h : RLq ρ μ b w u S W) {q z : Int} : ∃ μ', FrQ μ μ' ∧ am_E (d + 1) 177 0 [some (.inr (.inr 99)), some (.inl q), some (.inl z)] [] (SH, ρ, μ, cs) = some (some (.inl (namedA S q z)), (SH, ρ, μ', cs)) := by
  obtain ⟨hx, hρ, hb, hgs, hw46, hu64, hSR, hS, hX, hWR, hWI, hW, hday, h49, h51, h53⟩ := h; have hw : w = 46 ∨ w = 55 ∨ w = 64 := Or.inl hw46; have hu : u = 46 ∨ u = 55 ∨ u = 64 := Or.inr (Or.inr hu64); have hn5 := (xm_0_5 hx).trans hw46.symm; have hn7 := (xm_0_7 hx).trans hu64.symm; have b0 := hS.1; have b1 := hS.2.1
  refine ⟨am_up μ 99 0 0, frq_t0 μ 0, ?_⟩
  unfold namedA
  have hN : μ 101 0 = S 0 0 := by rw [← hSR]; rfl
  have hN1 : μ 101 1 = S 0 1 := by rw [← hSR]; rfl
  by_cases q0 : q = 0
  · subst q0
    rw [if_pos rfl]
    have h2 := fun d => M_found (ρ := ρ) (μ := am_up μ 99 0 0) (cs := cs) (d := d) (b := 0) (many := (S 0 0).toNat) (z := z) (ks_102 cs.2.2) (by omega) (by omega)
    rw [Int.toNat_of_nonneg b0.1] at h2
    rw [fnd_congr (g := fun k => S 1 k) _ _ (fun i h0 h1 => by rw [up_p (by omega), ← hSR, Nat.zero_add]; unfold SR; rw [if_pos (by decide)]; rfl)] at h2
    have e : ((0 : Nat) : Int) = 0 := rfl
    rw [e] at h2
    simp (disch := (first | omega | (simp (disch := omega) only [sr_up, wr_up_o]; omega))) only [e177_0, e177_6_c0, e177_47, ks_101, ks_102, ks_99, rm_manName hρ, rm_number hρ, ite_self, Bool.false_eq_true, eq_self, isk_t, i20_t, w20_t, l23_t, b21_t, b22_t, w_t, bif_t, bif_f, bif_d, if_pos, if_neg, if_true, if_false, not_true_eq_false, not_false_eq_true, Option.bind_some, Option.toList_some, Option.toList_none, List.cons_append, List.nil_append, Int.toNat_natCast, Int.reduceToNat, up_eq, up_p, up_k, sN,  hN, h2 ]
  · rw [if_neg q0]
    by_cases q1 : q = 1
    · subst q1
      rw [if_pos rfl]
      have h2 := fun d => M_found (ρ := ρ) (μ := am_up μ 99 0 0) (cs := cs) (d := d) (b := 0) (many := (S 0 1).toNat) (z := z) (ks_104 cs.2.2) (by omega) (by omega)
      rw [Int.toNat_of_nonneg b1.1] at h2
      rw [fnd_congr (g := fun k => S 3 k) _ _ (fun i h0 h1 => by rw [up_p (by omega), ← hSR, Nat.zero_add]; unfold SR; rw [if_pos (by decide)]; rfl)] at h2
      have e : ((0 : Nat) : Int) = 0 := rfl
      rw [e] at h2
      simp (disch := (first | omega | (simp (disch := omega) only [sr_up, wr_up_o]; omega))) only [e177_0, e177_6_c1, e177_63, ks_101, ks_104, ks_99, rm_number hρ, rm_thingName hρ, ite_self, Bool.false_eq_true, eq_self, isk_t, i20_t, w20_t, l23_t, b21_t, b22_t, w_t, bif_t, bif_f, bif_d, if_pos, if_neg, if_true, if_false, not_true_eq_false, not_false_eq_true, Option.bind_some, Option.toList_some, Option.toList_none, List.cons_append, List.nil_append, Int.toNat_natCast, Int.reduceToNat, up_eq, up_p, up_k, sN,  hN1, h2 ]
    · rw [if_neg q1]
      simp (disch := (first | omega | (simp (disch := omega) only [sr_up, wr_up_o]; omega))) only [e177_0, e177_6_d, ks_99, ite_self, Bool.false_eq_true, eq_self, isk_t, i20_t, w20_t, l23_t, b21_t, b22_t, w_t, bif_t, bif_f, bif_d, if_pos, if_neg, if_true, if_false, not_true_eq_false, not_false_eq_true, Option.bind_some, Option.toList_some, Option.toList_none, List.cons_append, List.nil_append, Int.toNat_natCast, Int.reduceToNat, up_eq, up_p, up_k, sN]
theorem R_reach_in (hρ : RM ρ) (hSR : SR μ = S) (hS : SI S) {p x3 : Int} : ∀ (n : Nat) (k : Int) (s : Nat), s < 128 → 0 ≤ k → k + n = S 0 3 → am_E d 226 15 [some (.inr (.inr 99)), some (.inl p), some (.inl (s : Int)), some (.inl x3), some (.inl k)] [] (SH, ρ, μ, cs) = am_E d 226 6 [some (.inr (.inr 99)), some (.inl p), some (.inl ((rT S n k s : Nat) : Int)), some (.inl (am_w (x3 + 1))), some (.inl (S 0 3))] [] (SH, ρ, μ, cs) := by
  intro n
  have b0 := hS.1
  have b3 := hS.2.2.2.1
  have hN : μ 101 3 = S 0 3 := by rw [← hSR]; rfl
  induction n with
  | zero =>
    intro k s hs k0 hk
    have e : k = S 0 3 := by omega
    rw [e226_15]
    simp (disch := omega) only [ks_99, isk_t, bif_t, rm_number hρ, ks_101, i20_t, hN, bif_d, if_pos]
    rw [e]
    all_goals rfl
  | succ n ih =>
    intro k s hs k0 hk
    have bk := hS.2.2.2.2.2.2.2.2.2.2.2.2.2.1 k k0 (by omega)
    have e8 : μ 109 k.toNat = S 8 k := by rw [← hSR]; rfl
    have e9 : μ 110 k.toNat = S 9 k := by rw [← hSR]; rfl
    have el : rT S (n + 1) k s = rT S n (k + 1) (if s.testBit (S 8 k).toNat then s ||| 2 ^ (S 9 k).toNat else s) := rfl
    rw [el]
    by_cases q : s.testBit (S 8 k).toNat = true
    · rw [if_pos q, ← ih (k + 1) (s ||| 2 ^ (S 9 k).toNat) (or1_lt (n := 7) hs bk.2.1.1 (by omega)) (by omega) (by omega)]
      rw [e226_15]; simp (disch := (first | omega | (simp (disch := omega) only [sr_up, wr_up_o]; omega))) only [ks_101, ks_109, ks_110, ks_99, rm_number hρ, rm_wayFrom hρ, rm_wayTo hρ, ite_self, Bool.false_eq_true, eq_self, isk_t, i20_t, w20_t, l23_t, b21_t, b22_t, w_t, bif_t, bif_f, bif_d, if_pos, if_neg, if_true, if_false, not_true_eq_false, not_false_eq_true, Option.bind_some, Option.toList_some, Option.toList_none, List.cons_append, List.nil_append, Int.toNat_natCast, Int.reduceToNat, up_eq, up_p, up_k, sN,  hN, e8, e9, ib_bit, ib_or1, q ]
    · rw [if_neg q, ← ih (k + 1) s hs (by omega) (by omega)]
      have q' : s.testBit (S 8 k).toNat = false := by simpa using q
      rw [e226_15]; simp (disch := (first | omega | (simp (disch := omega) only [sr_up, wr_up_o]; omega))) only [ks_101, ks_109, ks_110, ks_99, rm_number hρ, rm_wayFrom hρ, rm_wayTo hρ, ite_self, Bool.false_eq_true, eq_self, isk_t, i20_t, w20_t, l23_t, b21_t, b22_t, w_t, bif_t, bif_f, bif_d, if_pos, if_neg, if_true, if_false, not_true_eq_false, not_false_eq_true, Option.bind_some, Option.toList_some, Option.toList_none, List.cons_append, List.nil_append, Int.toNat_natCast, Int.reduceToNat, up_eq, up_p, up_k, sN,  hN, e8, e9, ib_bit, q' ]
theorem R_reach_out (hρ : RM ρ) (hSR : SR μ = S) (hS : SI S) {p : Int} : ∀ (n : Nat) (k : Int) (s : Nat), s < 128 → 0 ≤ k → k + n = 7 → am_E d 226 6 [some (.inr (.inr 99)), some (.inl p), some (.inl (s : Int)), some (.inl k), none] [] (SH, ρ, μ, cs) = some (some (.inl ((rI S n s : Nat) : Int)), (SH, ρ, μ, cs)) := by
  intro n
  have b3 := hS.2.2.2.1
  induction n with
  | zero =>
    intro k s hs k0 hk
    rw [e226_6]; simp (disch := (first | omega | (simp (disch := omega) only [sr_up, wr_up_o]; omega))) only [ks_99, ite_self, Bool.false_eq_true, eq_self, isk_t, i20_t, w20_t, l23_t, b21_t, b22_t, w_t, bif_t, bif_f, bif_d, if_pos, if_neg, if_true, if_false, not_true_eq_false, not_false_eq_true, Option.bind_some, Option.toList_some, Option.toList_none, List.cons_append, List.nil_append, Int.toNat_natCast, Int.reduceToNat, up_eq, up_p, up_k, sN]
    all_goals rfl
  | succ n ih =>
    intro k s hs k0 hk
    have h1 := R_reach_in (ρ := ρ) (cs := cs) (d := d) (p := p) (x3 := k) hρ hSR hS (S 0 3).toNat 0 s hs (Int.le_refl _) (by omega)
    have h2 := ih (k + 1) (rT S (S 0 3).toNat 0 s) (rT_lt7 hS _ 0 s (Int.le_refl _) (by omega) hs) (by omega) (by omega)
    rw [e226_6]; simp (disch := (first | omega | (simp (disch := omega) only [sr_up, wr_up_o]; omega))) only [ks_99, ite_self, Bool.false_eq_true, eq_self, isk_t, i20_t, w20_t, l23_t, b21_t, b22_t, w_t, bif_t, bif_f, bif_d, if_pos, if_neg, if_true, if_false, not_true_eq_false, not_false_eq_true, Option.bind_some, Option.toList_some, Option.toList_none, List.cons_append, List.nil_append, Int.toNat_natCast, Int.reduceToNat, up_eq, up_p, up_k, sN,  h1 ]
    exact am_E_le (am_lq_of _ _ (by simp [am_leb])) h2
theorem pow7 {p : Int} (p0 : 0 ≤ p) (p1 : p < 7) : 2 ^ p.toNat < 128 := Nat.lt_of_lt_of_le (Nat.pow_lt_pow_right (by decide) (show p.toNat < 7 by omega)) (by decide)
theorem R_reachOf (hρ : RM ρ) (hSR : SR μ = S) (hS : SI S) {p : Int} (p0 : 0 ≤ p) (p1 : p < 7) : am_E d 226 0 [some (.inr (.inr 99)), some (.inl p), none, none, none] [] (SH, ρ, μ, cs) = some (some (.inl ((reachF S p : Nat) : Int)), (SH, ρ, μ, cs)) := by
  rw [e226_0, ib_one p0 (by omega)]
  exact R_reach_out hρ hSR hS 7 0 _ (pow7 p0 p1) (Int.le_refl _) rfl
theorem X_reach_in (hx : XM ρ) (hb : b = 2 ∨ b = 21) (hX : XS μ b S) (hS : SI S) {p x3 : Int} : ∀ (n : Nat) (k : Int) (s : Nat), s < 128 → 0 ≤ k → k + n = S 0 3 → am_E d 60 17 [some (.inr (.inr b)), some (.inl p), some (.inl (s : Int)), some (.inl x3), some (.inl k)] [] (SH, ρ, μ, cs) = am_E d 60 6 [some (.inr (.inr b)), some (.inl p), some (.inl ((rT S n k s : Nat) : Int)), some (.inl (am_w (x3 + 1))), some (.inl (S 0 3))] [] (SH, ρ, μ, cs) := by
  intro n
  have b0 := hS.1
  have b3 := hS.2.2.2.1
  have hN := hX.1.2.2.1
  induction n with
  | zero =>
    intro k s hs k0 hk
    have e : k = S 0 3 := by omega
    rw [e60_17]
    simp (disch := omega) only [xk_st0 hb, isk_t, bif_t, hN, bif_d, if_pos]
    rw [e]
    all_goals rfl
  | succ n ih =>
    intro k s hs k0 hk
    have bk := hS.2.2.2.2.2.2.2.2.2.2.2.2.2.1 k k0 (by omega)
    have xk := hX.2.2.2.2.1 k k0 (by omega)
    have el : rT S (n + 1) k s = rT S n (k + 1) (if s.testBit (S 8 k).toNat then s ||| 2 ^ (S 9 k).toNat else s) := rfl
    rw [el]
    by_cases q : s.testBit (S 8 k).toNat = true
    · rw [if_pos q, ← ih (k + 1) (s ||| 2 ^ (S 9 k).toNat) (or1_lt (n := 7) hs bk.2.1.1 (by omega)) (by omega) (by omega)]
      rw [e60_17]; simp (disch := omega) only [xk_st0 hb, xk_st1 hb, xk_st10 hb, xk_st11 hb, xk_st12 hb, xk_st13 hb, xk_st14 hb, xk_st15 hb, xk_st16 hb, xk_st17 hb, xk_st18 hb, xk_st2 hb, xk_st3 hb, xk_st4 hb, xk_st5 hb, xk_st6 hb, xk_st7 hb, xk_st8 hb, xk_st9 hb, xm_lw2 hx hb, xm_lw3 hx hb, xm_lw4 hx hb, xm_lw5 hx hb, xm_st1 hx hb, xm_st10 hx hb, xm_st11 hx hb, xm_st13 hx hb, xm_st14 hx hb, xm_st15 hx hb, xm_st16 hx hb, xm_st17 hx hb, xm_st2 hx hb, xm_st4 hx hb, xm_st5 hx hb, xm_st6 hx hb, xm_st7 hx hb, xm_st9 hx hb, ite_self, Bool.false_eq_true, eq_self, isk_t, i20_t, w20_t, l23_t, b21_t, b22_t, w_t, bif_t, bif_f, bif_d, if_pos, if_neg, if_true, if_false, not_true_eq_false, not_false_eq_true, Option.bind_some, Option.toList_some, Option.toList_none, List.cons_append, List.nil_append, Int.toNat_natCast, Int.reduceToNat, up_eq, up_p, up_k, sN,  hN, xk.1, xk.2.1, ib_bit, ib_or1, q ]
    · rw [if_neg q, ← ih (k + 1) s hs (by omega) (by omega)]
      have q' : s.testBit (S 8 k).toNat = false := by simpa using q
      rw [e60_17]; simp (disch := omega) only [xk_st0 hb, xk_st1 hb, xk_st10 hb, xk_st11 hb, xk_st12 hb, xk_st13 hb, xk_st14 hb, xk_st15 hb, xk_st16 hb, xk_st17 hb, xk_st18 hb, xk_st2 hb, xk_st3 hb, xk_st4 hb, xk_st5 hb, xk_st6 hb, xk_st7 hb, xk_st8 hb, xk_st9 hb, xm_lw2 hx hb, xm_lw3 hx hb, xm_lw4 hx hb, xm_lw5 hx hb, xm_st1 hx hb, xm_st10 hx hb, xm_st11 hx hb, xm_st13 hx hb, xm_st14 hx hb, xm_st15 hx hb, xm_st16 hx hb, xm_st17 hx hb, xm_st2 hx hb, xm_st4 hx hb, xm_st5 hx hb, xm_st6 hx hb, xm_st7 hx hb, xm_st9 hx hb, ite_self, Bool.false_eq_true, eq_self, isk_t, i20_t, w20_t, l23_t, b21_t, b22_t, w_t, bif_t, bif_f, bif_d, if_pos, if_neg, if_true, if_false, not_true_eq_false, not_false_eq_true, Option.bind_some, Option.toList_some, Option.toList_none, List.cons_append, List.nil_append, Int.toNat_natCast, Int.reduceToNat, up_eq, up_p, up_k, sN,  hN, xk.1, ib_bit, q' ]
theorem X_reach_out (hx : XM ρ) (hb : b = 2 ∨ b = 21) (hX : XS μ b S) (hS : SI S) {p : Int} : ∀ (n : Nat) (k : Int) (s : Nat), s < 128 → 0 ≤ k → k + n = S 0 0 → am_E d 60 6 [some (.inr (.inr b)), some (.inl p), some (.inl (s : Int)), some (.inl k), none] [] (SH, ρ, μ, cs) = some (some (.inl ((rI S n s : Nat) : Int)), (SH, ρ, μ, cs)) := by
  intro n
  have b0 := hS.1
  have b3 := hS.2.2.2.1
  have hN := hX.1.1
  induction n with
  | zero =>
    intro k s hs k0 hk
    rw [e60_6]; simp (disch := omega) only [xk_st0 hb, xk_st1 hb, xk_st10 hb, xk_st11 hb, xk_st12 hb, xk_st13 hb, xk_st14 hb, xk_st15 hb, xk_st16 hb, xk_st17 hb, xk_st18 hb, xk_st2 hb, xk_st3 hb, xk_st4 hb, xk_st5 hb, xk_st6 hb, xk_st7 hb, xk_st8 hb, xk_st9 hb, xm_lw2 hx hb, xm_lw3 hx hb, xm_lw4 hx hb, xm_lw5 hx hb, xm_st1 hx hb, xm_st10 hx hb, xm_st11 hx hb, xm_st13 hx hb, xm_st14 hx hb, xm_st15 hx hb, xm_st16 hx hb, xm_st17 hx hb, xm_st2 hx hb, xm_st4 hx hb, xm_st5 hx hb, xm_st6 hx hb, xm_st7 hx hb, xm_st9 hx hb, ite_self, Bool.false_eq_true, eq_self, isk_t, i20_t, w20_t, l23_t, b21_t, b22_t, w_t, bif_t, bif_f, bif_d, if_pos, if_neg, if_true, if_false, not_true_eq_false, not_false_eq_true, Option.bind_some, Option.toList_some, Option.toList_none, List.cons_append, List.nil_append, Int.toNat_natCast, Int.reduceToNat, up_eq, up_p, up_k, sN,  hN ]
    all_goals rfl
  | succ n ih =>
    intro k s hs k0 hk
    have h1 := X_reach_in (ρ := ρ) (cs := cs) (d := d) (p := p) (x3 := k) hx hb hX hS (S 0 3).toNat 0 s hs (Int.le_refl _) (by omega)
    have h2 := ih (k + 1) (rT S (S 0 3).toNat 0 s) (rT_lt7 hS _ 0 s (Int.le_refl _) (by omega) hs) (by omega) (by omega)
    rw [e60_6]; simp (disch := omega) only [xk_st0 hb, xk_st1 hb, xk_st10 hb, xk_st11 hb, xk_st12 hb, xk_st13 hb, xk_st14 hb, xk_st15 hb, xk_st16 hb, xk_st17 hb, xk_st18 hb, xk_st2 hb, xk_st3 hb, xk_st4 hb, xk_st5 hb, xk_st6 hb, xk_st7 hb, xk_st8 hb, xk_st9 hb, xm_lw2 hx hb, xm_lw3 hx hb, xm_lw4 hx hb, xm_lw5 hx hb, xm_st1 hx hb, xm_st10 hx hb, xm_st11 hx hb, xm_st13 hx hb, xm_st14 hx hb, xm_st15 hx hb, xm_st16 hx hb, xm_st17 hx hb, xm_st2 hx hb, xm_st4 hx hb, xm_st5 hx hb, xm_st6 hx hb, xm_st7 hx hb, xm_st9 hx hb, ite_self, Bool.false_eq_true, eq_self, isk_t, i20_t, w20_t, l23_t, b21_t, b22_t, w_t, bif_t, bif_f, bif_d, if_pos, if_neg, if_true, if_false, not_true_eq_false, not_false_eq_true, Option.bind_some, Option.toList_some, Option.toList_none, List.cons_append, List.nil_append, Int.toNat_natCast, Int.reduceToNat, up_eq, up_p, up_k, sN,  hN, h1 ]
    exact am_E_le (am_lq_of _ _ (by simp [am_leb])) h2
theorem X_reachOf (hx : XM ρ) (hb : b = 2 ∨ b = 21) (hX : XS μ b S) (hS : SI S) {p : Int} (p0 : 0 ≤ p) (p1 : p < S 0 0) : am_E d 60 0 [some (.inr (.inr b)), some (.inl p), none, none, none] [] (SH, ρ, μ, cs) = some (some (.inl ((reachF S p : Nat) : Int)), (SH, ρ, μ, cs)) := by
  have b0 := hS.1
  rw [e60_0, ib_one p0 (by omega), ← reach_men hS p0 p1]
  exact X_reach_out hx hb hX hS (men S) 0 _ (pow7 p0 (by omega)) (Int.le_refl _) (by unfold men; omega)
def reachA (S : MS) (p : Int) : Int := if 0 ≤ p ∧ p < S 0 0 then (reachF S p : Int) else -1
theorem R_reach (h : RLq ρ μ b w u S W) {p : Int} : ∃ μ', FrQ μ μ' ∧ am_E (d + 1) 227 0 [some (.inr (.inr 99)), some (.inl p)] [] (SH, ρ, μ, cs) = some (some (.inl (reachA S p)), (SH, ρ, μ', cs)) := by
  obtain ⟨hx, hρ, hb, hgs, hw46, hu64, hSR, hS, hX, hWR, hWI, hW, hday, h49, h51, h53⟩ := h; have hw : w = 46 ∨ w = 55 ∨ w = 64 := Or.inl hw46; have hu : u = 46 ∨ u = 55 ∨ u = 64 := Or.inr (Or.inr hu64); have hn5 := (xm_0_5 hx).trans hw46.symm; have hn7 := (xm_0_7 hx).trans hu64.symm; have b0 := hS.1; have b1 := hS.2.1
  refine ⟨am_up μ 99 0 0, frq_t0 μ 0, ?_⟩
  unfold reachA
  by_cases q : 0 ≤ p ∧ p < S 0 0
  · have h2 := fun d => R_reachOf (ρ := ρ) (cs := cs) (d := d) (μ := am_up μ 99 0 0) (S := S) hρ (by rw [sr_up (by omega)]; exact hSR) hS q.1 (show p < 7 by omega)
    simp (disch := (first | omega | (simp (disch := omega) only [sr_up, wr_up_o]; omega))) only [e227_0, e227_10, e227_18, ks_99, ite_self, Bool.false_eq_true, eq_self, isk_t, i20_t, w20_t, l23_t, b21_t, b22_t, w_t, bif_t, bif_f, bif_d, if_pos, if_neg, if_true, if_false, not_true_eq_false, not_false_eq_true, Option.bind_some, Option.toList_some, Option.toList_none, List.cons_append, List.nil_append, Int.toNat_natCast, Int.reduceToNat, up_eq, up_p, up_k, sN,  R_isMan hρ, R_isThing hρ, sr_up, hSR, wr_up_o, hWR, h2 ]
  · simp (disch := (first | omega | (simp (disch := omega) only [sr_up, wr_up_o]; omega))) only [e227_0, e227_10, ks_99, ite_self, Bool.false_eq_true, eq_self, isk_t, i20_t, w20_t, l23_t, b21_t, b22_t, w_t, bif_t, bif_f, bif_d, if_pos, if_neg, if_true, if_false, not_true_eq_false, not_false_eq_true, Option.bind_some, Option.toList_some, Option.toList_none, List.cons_append, List.nil_append, Int.toNat_natCast, Int.reduceToNat, up_eq, up_p, up_k, sN,  R_isMan hρ, R_isThing hρ, sr_up, hSR, wr_up_o, hWR ]
theorem X_reach (h : RLq ρ μ b w u S W) {p : Int} : am_E (d + 1) 103 0 [some (.inr (.inr 0)), some (.inl p)] [] (SH, ρ, μ, cs) = some (some (.inl (reachA S p)), (SH, ρ, μ, cs)) := by
  obtain ⟨hx, hρ, hb, hgs, hw46, hu64, hSR, hS, hX, hWR, hWI, hW, hday, h49, h51, h53⟩ := h; have hw : w = 46 ∨ w = 55 ∨ w = 64 := Or.inl hw46; have hu : u = 46 ∨ u = 55 ∨ u = 64 := Or.inr (Or.inr hu64); have hn5 := (xm_0_5 hx).trans hw46.symm; have hn7 := (xm_0_7 hx).trans hu64.symm; have b0 := hS.1; have b1 := hS.2.1
  unfold reachA
  by_cases q : 0 ≤ p ∧ p < S 0 0
  · have h2 := fun d => X_reachOf (ρ := ρ) (cs := cs) (d := d) hx hb hX hS q.1 q.2
    simp (disch := omega) only [e103_0, e103_5, e103_16, hgs, xk_0, xk_1, xk_40, xk_41, xk_42, xk_43, xk_44, xk_45, xk_46, xk_47, xk_48, xk_49, xk_50, xk_51, xk_52, xk_53, xk_54, xk_55, xk_56, xk_57, xk_58, xk_59, xk_60, xk_61, xk_62, xk_63, xk_64, xk_65, xk_66, xk_67, xk_68, xk_69, xk_70, xk_71, xk_72, xk_73, xk_74, xk_75, xk_76, xk_77, xk_78, xk_79, xk_80, xk_81, xk_82, xk_83, xk_84, xk_85, xk_86, xk_87, xk_88, xk_89, xk_90, xk_91, xk_92, xk_93, xk_94, xk_95, xk_96, xk_97, xk_98, xk_st0 hb, xk_st1 hb, xk_st10 hb, xk_st11 hb, xk_st12 hb, xk_st13 hb, xk_st14 hb, xk_st15 hb, xk_st16 hb, xk_st17 hb, xk_st18 hb, xk_st2 hb, xk_st3 hb, xk_st4 hb, xk_st5 hb, xk_st6 hb, xk_st7 hb, xk_st8 hb, xk_st9 hb, xm_0_0 hx, xm_0_10 hx, xm_0_11 hx, xm_0_12 hx, xm_0_13 hx, xm_0_14 hx, xm_0_15 hx, xm_0_2 hx, xm_0_9 hx, xm_40_0 hx, xm_40_1 hx, xm_41_0 hx, xm_44_0 hx, xm_44_1 hx, xm_73_4 hx, xm_73_5 hx, xm_73_6 hx, xm_77_1 hx, xm_77_2 hx, xm_77_3 hx, xm_77_4 hx, xm_77_5 hx, xm_77_6 hx, xm_77_7 hx, xm_77_8 hx, xm_77_9 hx, xm_87_2 hx, xm_87_3 hx, xm_87_4 hx, xm_87_5 hx, xm_87_6 hx, xm_87_7 hx, xm_87_8 hx, xm_lw2 hx hb, xm_lw3 hx hb, xm_lw4 hx hb, xm_lw5 hx hb, xm_st1 hx hb, xm_st10 hx hb, xm_st11 hx hb, xm_st13 hx hb, xm_st14 hx hb, xm_st15 hx hb, xm_st16 hx hb, xm_st17 hx hb, xm_st2 hx hb, xm_st4 hx hb, xm_st5 hx hb, xm_st6 hx hb, xm_st7 hx hb, xm_st9 hx hb, ite_self, Bool.false_eq_true, eq_self, isk_t, i20_t, w20_t, l23_t, b21_t, b22_t, w_t, bif_t, bif_f, bif_d, if_pos, if_neg, if_true, if_false, not_true_eq_false, not_false_eq_true, Option.bind_some, Option.toList_some, Option.toList_none, List.cons_append, List.nil_append, Int.toNat_natCast, Int.reduceToNat, up_eq, up_p, up_k, sN,  X_isMan hx hb hgs hX, X_isThing hx hb hgs hX, h2 ]
  · simp (disch := omega) only [e103_0, e103_5, hgs, xk_0, xk_1, xk_40, xk_41, xk_42, xk_43, xk_44, xk_45, xk_46, xk_47, xk_48, xk_49, xk_50, xk_51, xk_52, xk_53, xk_54, xk_55, xk_56, xk_57, xk_58, xk_59, xk_60, xk_61, xk_62, xk_63, xk_64, xk_65, xk_66, xk_67, xk_68, xk_69, xk_70, xk_71, xk_72, xk_73, xk_74, xk_75, xk_76, xk_77, xk_78, xk_79, xk_80, xk_81, xk_82, xk_83, xk_84, xk_85, xk_86, xk_87, xk_88, xk_89, xk_90, xk_91, xk_92, xk_93, xk_94, xk_95, xk_96, xk_97, xk_98, xk_st0 hb, xk_st1 hb, xk_st10 hb, xk_st11 hb, xk_st12 hb, xk_st13 hb, xk_st14 hb, xk_st15 hb, xk_st16 hb, xk_st17 hb, xk_st18 hb, xk_st2 hb, xk_st3 hb, xk_st4 hb, xk_st5 hb, xk_st6 hb, xk_st7 hb, xk_st8 hb, xk_st9 hb, xm_0_0 hx, xm_0_10 hx, xm_0_11 hx, xm_0_12 hx, xm_0_13 hx, xm_0_14 hx, xm_0_15 hx, xm_0_2 hx, xm_0_9 hx, xm_40_0 hx, xm_40_1 hx, xm_41_0 hx, xm_44_0 hx, xm_44_1 hx, xm_73_4 hx, xm_73_5 hx, xm_73_6 hx, xm_77_1 hx, xm_77_2 hx, xm_77_3 hx, xm_77_4 hx, xm_77_5 hx, xm_77_6 hx, xm_77_7 hx, xm_77_8 hx, xm_77_9 hx, xm_87_2 hx, xm_87_3 hx, xm_87_4 hx, xm_87_5 hx, xm_87_6 hx, xm_87_7 hx, xm_87_8 hx, xm_lw2 hx hb, xm_lw3 hx hb, xm_lw4 hx hb, xm_lw5 hx hb, xm_st1 hx hb, xm_st10 hx hb, xm_st11 hx hb, xm_st13 hx hb, xm_st14 hx hb, xm_st15 hx hb, xm_st16 hx hb, xm_st17 hx hb, xm_st2 hx hb, xm_st4 hx hb, xm_st5 hx hb, xm_st6 hx hb, xm_st7 hx hb, xm_st9 hx hb, ite_self, Bool.false_eq_true, eq_self, isk_t, i20_t, w20_t, l23_t, b21_t, b22_t, w_t, bif_t, bif_f, bif_d, if_pos, if_neg, if_true, if_false, not_true_eq_false, not_false_eq_true, Option.bind_some, Option.toList_some, Option.toList_none, List.cons_append, List.nil_append, Int.toNat_natCast, Int.reduceToNat, up_eq, up_p, up_k, sN,  X_isMan hx hb hgs hX, X_isThing hx hb hgs hX ]
end QB
