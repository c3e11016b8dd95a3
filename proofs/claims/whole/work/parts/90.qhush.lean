/-! QUERIES: hush, spread -/
def hC (C : MC) (s : Nat) : MC := (C.1, C.2.1, C.2.2.1, fun p => s.testBit p.toNat, fun p => s.testBit p.toNat, C.2.2.2.2.2)
def hushH (S : MS) (C : MC) (W : MW) (t : Int) (s : Nat) : Bool := decide (daysW S (hC C s) 60 W 4 0 t = -2)
/-- the fewest, of several the least -/
def hbest (H : Nat → Bool) : Nat → Int
  | 0 => -1
  | n + 1 => if (hbest H n = -1 ∨ popN n 10 < popN (hbest H n).toNat 10) ∧ H n = true then (n : Int) else hbest H n
def isBest (H : Nat → Bool) (N r : Nat) : Prop := r < N ∧ H r = true ∧ ∀ s, s < N → H s = true → popN r 10 < popN s 10 ∨ (popN r 10 = popN s 10 ∧ r ≤ s)
theorem best_one {H : Nat → Bool} {N r r' : Nat} (h : isBest H N r) (h' : isBest H N r') : r = r' := by
  have h1 := h.2.2 r' h'.1 h'.2.1
  have h2 := h'.2.2 r h.1 h.2.1
  omega
theorem hbest_is {H : Nat → Bool} : ∀ N, (hbest H N = -1 ∧ ∀ s, s < N → H s = false) ∨ (∃ r : Nat, hbest H N = (r : Int) ∧ isBest H N r)
  | 0 => Or.inl ⟨rfl, fun s hs => by omega⟩
  | n + 1 => by
    have e : hbest H (n + 1) = if (hbest H n = -1 ∨ popN n 10 < popN (hbest H n).toNat 10) ∧ H n = true then (n : Int) else hbest H n := rfl
    rw [e]
    by_cases hn : H n = true
    · rcases hbest_is (H := H) n with ⟨h1, h2⟩ | ⟨r, h1, h2⟩
      · rw [if_pos ⟨Or.inl h1, hn⟩]
        refine Or.inr ⟨n, rfl, by omega, hn, fun s hs hh => ?_⟩
        by_cases c : s = n
        · subst c; right; exact ⟨rfl, Nat.le_refl _⟩
        · rw [h2 s (by omega)] at hh; cases hh
      · by_cases c : popN n 10 < popN r 10
        · rw [if_pos ⟨Or.inr (by rw [h1, Int.toNat_natCast]; exact c), hn⟩]
          refine Or.inr ⟨n, rfl, by omega, hn, fun s hs hh => ?_⟩
          by_cases c2 : s = n
          · subst c2; right; exact ⟨rfl, Nat.le_refl _⟩
          · have := h2.2.2 s (by omega) hh
            omega
        · rw [if_neg (by rw [h1, Int.toNat_natCast]; omega)]
          refine Or.inr ⟨r, h1, by have := h2.1; omega, h2.2.1, fun s hs hh => ?_⟩
          by_cases c2 : s = n
          · subst c2
            have := h2.1
            omega
          · exact h2.2.2 s (by omega) hh
    · have hn' : H n = false := by simpa using hn
      rw [if_neg (fun g => hn g.2)]
      rcases hbest_is (H := H) n with ⟨h1, h2⟩ | ⟨r, h1, h2⟩
      · refine Or.inl ⟨h1, fun s hs => ?_⟩
        by_cases c : s = n
        · subst c; exact hn'
        · exact h2 s (by omega)
      · refine Or.inr ⟨r, h1, by have := h2.1; omega, h2.2.1, fun s hs hh => ?_⟩
        by_cases c : s = n
        · subst c; rw [hn'] at hh; cases hh
        · exact h2.2.2 s (by omega) hh
theorem best_eq {H : Nat → Bool} {N r : Nat} (h : isBest H N r) : hbest H N = (r : Int) := by
  rcases hbest_is (H := H) N with ⟨h1, h2⟩ | ⟨r', h1, h2⟩
  · have := h2 r h.1
    rw [h.2.1] at this
    cases this
  · rw [h1, best_one h h2]
theorem pop_all (m : Nat) (hm : m ≤ 7) : popN (2 ^ m - 1) 10 = m ∧ popN (2 ^ m - 1) 7 = m := by
  rcases (show m = 0 ∨ m = 1 ∨ m = 2 ∨ m = 3 ∨ m = 4 ∨ m = 5 ∨ m = 6 ∨ m = 7 by omega) with rfl | rfl | rfl | rfl | rfl | rfl | rfl | rfl <;> decide
theorem pop_prop {m s : Nat} (h : s < 2 ^ m - 1) (hm : m ≤ 7) : popN s 7 < m ∧ popN s 10 = popN s 7 := by
  have h0 : s < 2 ^ m := by omega
  have h1 := pop_lt (s := s) (n := m) 7 h0 hm
  have h2 := pop_lt (s := s) (n := m) 10 h0 (by omega)
  have h3 := popN_le s m
  refine ⟨?_, by omega⟩
  by_cases c : popN s m = m
  · exfalso
    have hb := pop_full m c
    have e : s = 2 ^ m - 1 := by
      apply Nat.eq_of_testBit_eq
      intro i
      rw [Nat.testBit_two_pow_sub_one]
      by_cases ci : i < m
      · rw [hb i ci, decide_eq_true ci]
      · rw [decide_eq_false ci]
        exact Nat.testBit_lt_two_pow (Nat.lt_of_lt_of_le h0 (Nat.pow_le_pow_right (by decide) (by omega)))
    omega
  · omega
/-- all hushed: nothing is told -/
theorem telA_hush {S : MS} {C : MC} : ∀ (n : Nat) (l : Int) (W : MW), (∀ k, l ≤ k → k < l + n → C.2.2.2.2.1 (S 11 k) = true) → telA S C n l W = W
  | 0, _, _, _ => rfl
  | n + 1, l, W, h => by
    have e : telT S C l W = W := by
      unfold telT
      rw [if_neg (fun g => by rw [h l (by omega) (by omega)] at g; cases g.2.1)]
    show telA S C n (l + 1) (telT S C l W) = W
    rw [e]
    exact telA_hush n (l + 1) W (fun k h0 h1 => h k (by omega) (by omega))
theorem hush_all {S : MS} {C : MC} (hS : SI S) {t : Int} : ∀ (n : Nat) (W : MW), W 4 0 t = -2 → daysW S (hC C (2 ^ men S - 1)) n W 4 0 t = -2
  | 0, _, h => h
  | n + 1, W, h => by
    have b4 := hS.2.2.2.2.1
    refine hush_all hS n _ ?_
    unfold dayW
    rw [wp_o (by omega), telA_hush _ 0 _ (fun k h0 h1 => by
      have bk := hS.2.2.2.2.2.2.2.2.2.2.2.2.2.2.1 k h0 (by omega)
      show (2 ^ men S - 1).testBit (S 11 k).toNat = true
      rw [Nat.testBit_two_pow_sub_one]
      exact decide_eq_true (by unfold men; omega)), wayA_4, seeW_Q, seeQ_00 (by omega)]
    exact h
section QV
variable {ρ : Nat → Nat → Nat} {μ : Nat → Nat → Int} {cs : Nat × Nat × Nat} {d b w u : Nat} {S : MS} {W V : MW} {C : MC}
theorem two_men (hS : SI S) : 2 ^ men S ≤ 128 ∧ am_shl 1 (S 0 0) = ((2 ^ men S : Nat) : Int) := by
  have b0 := hS.1
  exact ⟨Nat.le_trans (Nat.pow_le_pow_right (by decide) (show men S ≤ 7 by unfold men; omega)) (by decide), ib_one b0.1 (by omega)⟩
theorem R_doesHush (h : RLq ρ μ b w u S W) {t : Int} {s : Nat} (hs : s < 128) (t0 : 0 ≤ t) (t1 : t < S 0 1) : ∃ μ', FrQ μ μ' ∧ CR μ' 0 = CR μ 0 ∧ am_E (d + 9) 228 0 [some (.inr (.inr 99)), some (.inl (s : Int)), some (.inl t)] [] (SH, ρ, μ, cs) = some (some (.inl (if hushH S (CR μ 0) W t s = true then 1 else 0)), (SH, ρ, μ', cs)) := by
  have hG := (cr_gc h).1
  have h0 := h
  obtain ⟨μ1, f1, f2, f3⟩ := R_copyNow (cs := cs) (d := d + 8) (y := 0) h
  obtain ⟨hx, hρ, hb, hgs, hw46, hu64, hSR, hS, hX, hWR, hWI, hW, hday, h49, h51, h53⟩ := h; have hw : w = 46 ∨ w = 55 ∨ w = 64 := Or.inl hw46; have hu : u = 46 ∨ u = 55 ∨ u = 64 := Or.inr (Or.inr hu64); have hn5 := (xm_0_5 hx).trans hw46.symm; have hn7 := (xm_0_7 hx).trans hu64.symm; have b0 := hS.1; have b1 := hS.2.1
  obtain ⟨r1, r2, r3⟩ := f2
  obtain ⟨_, _, _, _, _, _, s1, _, _, _, _, _, _, z49, z51, z53⟩ := r1
  have fr : ∀ q k, ¬ (q = 99 ∧ k = 53) → am_up μ1 99 53 (s : Int) q k = μ1 q k := fun q k hq => am_up_no hq
  have sa : SR (am_up μ1 99 53 (s : Int)) = S := by rw [sr_up (by omega)]; exact s1
  have wa : WR (am_up μ1 99 53 (s : Int)) 1 = W := by rw [wr_up_o (by omega)]; exact r2
  have ca : CR (am_up μ1 99 53 (s : Int)) 0 = hC (CR μ 0) s := by
    rw [← r3]
    have eb : bendR (am_up μ1 99 53 (s : Int)) = bendR μ1 := by
      funext p
      unfold bendR
      rw [sr_up (by omega), up_k (by omega), up_k (by omega), up_k (by omega)]
    unfold CR hC
    rw [eb, sr_up (by omega), up_k (by omega), up_k (k := 53) (j := 50) (by omega), up_eq, Int.toNat_natCast]
    have ez : (fun p : Int => s.testBit p.toNat || decide (μ1 99 49 = 2 ∧ p = μ1 99 50)) = fun p => s.testBit p.toNat := by
      funext p
      rw [z49]
      simp
    rw [ez]
  have hci : CI S (hC (CR μ 0) s) := (show CI S (CR μ 0) from gc_ci hS hG)
  obtain ⟨μ2, k1, k2, k3⟩ := R_goesOn (ρ := ρ) (cs := cs) (d := d) (n := 60) (D := 10000) hρ hS hci (fun _ => rfl) (by omega) hWI (by omega) sa ca wa (by rw [up_eq]; omega) (by rw [up_eq]; omega)
  have e60 : ((60 : Nat) : Int) = 60 := rfl
  rw [e60] at k3
  have wb : WR (am_up μ2 99 53 0) 1 = daysW S (hC (CR μ 0) s) 60 W := by rw [wr_up_o (by omega)]; exact k2
  have fq : FrQ μ (am_up μ2 99 53 0) := fun q' k hq => by
    by_cases c : q' = 99 ∧ k = 53
    · obtain ⟨rfl, rfl⟩ := c
      rw [up_eq, h53]
    · rw [am_up_no c, k1 q' k (by omega) (by omega), am_up_no c, f1 q' k (by omega) (by omega)]
  have cq : CR (am_up μ2 99 53 0) 0 = CR μ 0 := CR_ext (frq_SR fq) (fun k h0 h1 => by
    by_cases c : k = 53
    · subst c; rw [up_eq, h53]
    · rw [up_k c, k1 99 k (by omega) (by omega), up_k c, f1 99 k (by omega) (by omega)]) 0
  refine ⟨_, fq, cq, ?_⟩
  unfold hushH
  by_cases c : daysW S (hC (CR μ 0) s) 60 W 4 0 t = -2
  · rw [if_pos (decide_eq_true c)]
    simp (disch := (first | omega | (simp (disch := omega) only [sr_up, wr_up_o]; omega))) only [e228_0, e228_6, e228_17, e228_28, ks_99, ite_self, Bool.false_eq_true, eq_self, isk_t, i20_t, w20_t, l23_t, b21_t, b22_t, w_t, bif_t, bif_f, bif_d, if_pos, if_neg, if_true, if_false, not_true_eq_false, not_false_eq_true, Option.bind_some, Option.toList_some, Option.toList_none, List.cons_append, List.nil_append, Int.toNat_natCast, Int.reduceToNat, up_eq, up_p, up_k, sN,  f3, k3, R_isNews hρ, wb, c ]
  · rw [if_neg (by simp [c])]
    simp (disch := (first | omega | (simp (disch := omega) only [sr_up, wr_up_o]; omega))) only [e228_0, e228_6, e228_17, e228_28, ks_99, ite_self, Bool.false_eq_true, eq_self, isk_t, i20_t, w20_t, l23_t, b21_t, b22_t, w_t, bif_t, bif_f, bif_d, if_pos, if_neg, if_true, if_false, not_true_eq_false, not_false_eq_true, Option.bind_some, Option.toList_some, Option.toList_none, List.cons_append, List.nil_append, Int.toNat_natCast, Int.reduceToNat, up_eq, up_p, up_k, sN,  f3, k3, R_isNews hρ, wb, c ]
theorem R_hush_loop {t : Int} (t0 : 0 ≤ t) (t1 : t < S 0 1) : ∀ (n k : Nat) (μ : Nat → Nat → Int), RLq ρ μ b w u S W → CR μ 0 = C → k + n = 2 ^ men S → ∃ μ', FrQ μ μ' ∧ am_E (d + 10) 229 31 [some (.inr (.inr 99)), some (.inl t), some (.inl (hbest (hushH S C W t) k)), some (.inl (k : Int))] [] (SH, ρ, μ, cs) = some (some (.inl (hbest (hushH S C W t) (2 ^ men S))), (SH, ρ, μ', cs)) := by
  intro n
  induction n with
  | zero =>
    intro k μ h hCe hk
    obtain ⟨hx, hρ, hb, hgs, hw46, hu64, hSR, hS, hX, hWR, hWI, hW, hday, h49, h51, h53⟩ := h; have hw : w = 46 ∨ w = 55 ∨ w = 64 := Or.inl hw46; have hu : u = 46 ∨ u = 55 ∨ u = 64 := Or.inr (Or.inr hu64); have hn5 := (xm_0_5 hx).trans hw46.symm; have hn7 := (xm_0_7 hx).trans hu64.symm; have b0 := hS.1; have b1 := hS.2.1
    have h2 := two_men hS
    have hN : μ 101 0 = S 0 0 := by rw [← hSR]; rfl
    refine ⟨μ, frq_rf μ, ?_⟩
    have e : 2 ^ men S = k := by omega
    rw [e] at h2 ⊢
    rw [e229_31]; simp (disch := (first | omega | (simp (disch := omega) only [sr_up, wr_up_o]; omega))) only [ks_101, ks_99, rm_number hρ, ite_self, Bool.false_eq_true, eq_self, isk_t, i20_t, w20_t, l23_t, b21_t, b22_t, w_t, bif_t, bif_f, bif_d, if_pos, if_neg, if_true, if_false, not_true_eq_false, not_false_eq_true, Option.bind_some, Option.toList_some, Option.toList_none, List.cons_append, List.nil_append, Int.toNat_natCast, Int.reduceToNat, up_eq, up_p, up_k, sN,  hN, h2.2 ]
  | succ n ih =>
    intro k μ h hCe hk
    have h0 := h
    obtain ⟨hx, hρ, hb, hgs, hw46, hu64, hSR, hS, hX, hWR, hWI, hW, hday, h49, h51, h53⟩ := h; have hw : w = 46 ∨ w = 55 ∨ w = 64 := Or.inl hw46; have hu : u = 46 ∨ u = 55 ∨ u = 64 := Or.inr (Or.inr hu64); have hn5 := (xm_0_5 hx).trans hw46.symm; have hn7 := (xm_0_7 hx).trans hu64.symm; have b0 := hS.1; have b1 := hS.2.1
    have h2 := two_men hS
    have hN : μ 101 0 = S 0 0 := by rw [← hSR]; rfl
    generalize hM : 2 ^ men S = M at h2 hk ⊢
    rw [hM] at ih
    obtain ⟨μ1, g1, g2, g3⟩ := R_doesHush (cs := cs) (d := d) (s := k) (t := t) h0 (by omega) t0 t1
    rw [hCe] at g3 g2
    have h1 := rl_q h0 (frr_rf ρ) g1
    have e2 : ((k + 1 : Nat) : Int) = (k : Int) + 1 := by omega
    have eb : hbest (hushH S C W t) (k + 1) = if (hbest (hushH S C W t) k = -1 ∨ popN k 10 < popN (hbest (hushH S C W t) k).toNat 10) ∧ hushH S C W t k = true then (k : Int) else hbest (hushH S C W t) k := rfl
    have hbk := fun d => R_bitsOf (ρ := ρ) (μ := μ) (cs := cs) (d := d) (sh := SH) (a := k) (by omega)
    have hcase : ∀ β : Int, hbest (hushH S C W t) k = β → (β = -1 ∨ (∃ r : Nat, β = (r : Int) ∧ r < k)) := fun β hβ => by
      rcases hbest_is (H := hushH S C W t) k with ⟨a, _⟩ | ⟨r, a, c⟩
      · left; rw [← hβ]; exact a
      · right; exact ⟨r, by rw [← hβ]; exact a, c.1⟩
    generalize hβ : hbest (hushH S C W t) k = β at eb ⊢
    rcases hcase β hβ with hm | ⟨r, hr, hrk⟩
    · obtain ⟨μ2, l1, l2⟩ := ih (k + 1) μ1 h1 g2 (by omega)
      rw [eb, e2] at l2
      refine ⟨μ2, frq_tr g1 l1, ?_⟩
      rw [← l2]
      by_cases cH : hushH S C W t k = true
      · rw [if_pos cH] at g3
        rw [if_pos ⟨Or.inl hm, cH⟩]
        rw [e229_31]; simp (disch := (first | omega | (simp (disch := omega) only [sr_up, wr_up_o]; omega))) only [e229_65, ks_101, ks_99, rm_number hρ, ite_self, Bool.false_eq_true, eq_self, isk_t, i20_t, w20_t, l23_t, b21_t, b22_t, w_t, bif_t, bif_f, bif_d, if_pos, if_neg, if_true, if_false, not_true_eq_false, not_false_eq_true, Option.bind_some, Option.toList_some, Option.toList_none, List.cons_append, List.nil_append, Int.toNat_natCast, Int.reduceToNat, up_eq, up_p, up_k, sN,  hN, h2.2, g3 ]
      · rw [if_neg cH] at g3
        rw [if_neg (fun g => cH g.2)]
        rw [e229_31]; simp (disch := (first | omega | (simp (disch := omega) only [sr_up, wr_up_o]; omega))) only [e229_65, ks_101, ks_99, rm_number hρ, ite_self, Bool.false_eq_true, eq_self, isk_t, i20_t, w20_t, l23_t, b21_t, b22_t, w_t, bif_t, bif_f, bif_d, if_pos, if_neg, if_true, if_false, not_true_eq_false, not_false_eq_true, Option.bind_some, Option.toList_some, Option.toList_none, List.cons_append, List.nil_append, Int.toNat_natCast, Int.reduceToNat, up_eq, up_p, up_k, sN,  hN, h2.2, g3 ]
    · have hbr := fun d => R_bitsOf (ρ := ρ) (μ := μ) (cs := cs) (d := d) (sh := SH) (a := r) (by omega)
      rw [← hr] at hbr
      have hrn : β.toNat = r := by omega
      rw [hrn] at eb
      by_cases cP : popN k 10 < popN r 10
      · obtain ⟨μ2, l1, l2⟩ := ih (k + 1) μ1 h1 g2 (by omega)
        rw [eb, e2] at l2
        refine ⟨μ2, frq_tr g1 l1, ?_⟩
        rw [← l2]
        by_cases cH : hushH S C W t k = true
        · rw [if_pos cH] at g3
          rw [if_pos ⟨Or.inr cP, cH⟩]
          rw [e229_31]; simp (disch := (first | omega | (simp (disch := omega) only [sr_up, wr_up_o]; omega))) only [e229_52, e229_56, e229_65, ks_101, ks_99, rm_number hρ, ite_self, Bool.false_eq_true, eq_self, isk_t, i20_t, w20_t, l23_t, b21_t, b22_t, w_t, bif_t, bif_f, bif_d, if_pos, if_neg, if_true, if_false, not_true_eq_false, not_false_eq_true, Option.bind_some, Option.toList_some, Option.toList_none, List.cons_append, List.nil_append, Int.toNat_natCast, Int.reduceToNat, up_eq, up_p, up_k, sN,  hN, h2.2, hbk, hbr, g3 ]
        · rw [if_neg cH] at g3
          rw [if_neg (fun g => cH g.2)]
          rw [e229_31]; simp (disch := (first | omega | (simp (disch := omega) only [sr_up, wr_up_o]; omega))) only [e229_52, e229_56, e229_65, ks_101, ks_99, rm_number hρ, ite_self, Bool.false_eq_true, eq_self, isk_t, i20_t, w20_t, l23_t, b21_t, b22_t, w_t, bif_t, bif_f, bif_d, if_pos, if_neg, if_true, if_false, not_true_eq_false, not_false_eq_true, Option.bind_some, Option.toList_some, Option.toList_none, List.cons_append, List.nil_append, Int.toNat_natCast, Int.reduceToNat, up_eq, up_p, up_k, sN,  hN, h2.2, hbk, hbr, g3 ]
      · obtain ⟨μ2, l1, l2⟩ := ih (k + 1) μ h0 hCe (by omega)
        rw [eb, e2, if_neg (by omega)] at l2
        refine ⟨μ2, l1, ?_⟩
        rw [← l2]
        rw [e229_31]; simp (disch := (first | omega | (simp (disch := omega) only [sr_up, wr_up_o]; omega))) only [e229_52, e229_56, ks_101, ks_99, rm_number hρ, ite_self, Bool.false_eq_true, eq_self, isk_t, i20_t, w20_t, l23_t, b21_t, b22_t, w_t, bif_t, bif_f, bif_d, if_pos, if_neg, if_true, if_false, not_true_eq_false, not_false_eq_true, Option.bind_some, Option.toList_some, Option.toList_none, List.cons_append, List.nil_append, Int.toNat_natCast, Int.reduceToNat, up_eq, up_p, up_k, sN,  hN, h2.2, hbk, hbr ]
def hushA (S : MS) (C : MC) (W : MW) (t : Int) : Int := if 0 ≤ t ∧ t < S 0 1 then (if W 4 0 t = -2 then hbest (hushH S C W t) (2 ^ men S) else -2) else -1
theorem R_hush (h : RLq ρ μ b w u S W) {t : Int} : ∃ μ', FrQ μ μ' ∧ am_E (d + 10) 229 0 [some (.inr (.inr 99)), some (.inl t), none, none] [] (SH, ρ, μ, cs) = some (some (.inl (hushA S (CR μ 0) W t)), (SH, ρ, μ', cs)) := by
  have h1 := rl_q h (frr_rf ρ) (frq_t0 μ 0)
  obtain ⟨hx, hρ, hb, hgs, hw46, hu64, hSR, hS, hX, hWR, hWI, hW, hday, h49, h51, h53⟩ := h; have hw : w = 46 ∨ w = 55 ∨ w = 64 := Or.inl hw46; have hu : u = 46 ∨ u = 55 ∨ u = 64 := Or.inr (Or.inr hu64); have hn5 := (xm_0_5 hx).trans hw46.symm; have hn7 := (xm_0_7 hx).trans hu64.symm; have b0 := hS.1; have b1 := hS.2.1
  unfold hushA
  by_cases c : 0 ≤ t ∧ t < S 0 1
  · rw [if_pos c]
    by_cases c2 : W 4 0 t = -2
    · rw [if_pos c2]
      obtain ⟨μ1, g1, g2⟩ := R_hush_loop (ρ := ρ) (cs := cs) (d := d) (b := b) (w := w) (u := u) (W := W) (C := CR μ 0) c.1 c.2 (2 ^ men S) 0 (am_up μ 99 0 0) h1 thr_CR (by omega)
      refine ⟨μ1, frq_tr (frq_t0 μ 0) g1, ?_⟩
      rw [← g2]
      simp (disch := (first | omega | (simp (disch := omega) only [sr_up, wr_up_o]; omega))) only [e229_0, e229_10, e229_21, ks_99, ite_self, Bool.false_eq_true, eq_self, isk_t, i20_t, w20_t, l23_t, b21_t, b22_t, w_t, bif_t, bif_f, bif_d, if_pos, if_neg, if_true, if_false, not_true_eq_false, not_false_eq_true, Option.bind_some, Option.toList_some, Option.toList_none, List.cons_append, List.nil_append, Int.toNat_natCast, Int.reduceToNat, up_eq, up_p, up_k, sN,  R_isMan hρ, R_isThing hρ, sr_up, hSR, wr_up_o, hWR, R_isNews hρ, c2 ]
      all_goals rfl
    · rw [if_neg c2]
      refine ⟨am_up μ 99 0 0, frq_t0 μ 0, ?_⟩
      simp (disch := (first | omega | (simp (disch := omega) only [sr_up, wr_up_o]; omega))) only [e229_0, e229_10, e229_21, ks_99, ite_self, Bool.false_eq_true, eq_self, isk_t, i20_t, w20_t, l23_t, b21_t, b22_t, w_t, bif_t, bif_f, bif_d, if_pos, if_neg, if_true, if_false, not_true_eq_false, not_false_eq_true, Option.bind_some, Option.toList_some, Option.toList_none, List.cons_append, List.nil_append, Int.toNat_natCast, Int.reduceToNat, up_eq, up_p, up_k, sN,  R_isMan hρ, R_isThing hρ, sr_up, hSR, wr_up_o, hWR, R_isNews hρ, c2 ]
  · rw [if_neg c]
    refine ⟨am_up μ 99 0 0, frq_t0 μ 0, ?_⟩
    simp (disch := (first | omega | (simp (disch := omega) only [sr_up, wr_up_o]; omega))) only [e229_0, e229_10, ks_99, ite_self, Bool.false_eq_true, eq_self, isk_t, i20_t, w20_t, l23_t, b21_t, b22_t, w_t, bif_t, bif_f, bif_d, if_pos, if_neg, if_true, if_false, not_true_eq_false, not_false_eq_true, Option.bind_some, Option.toList_some, Option.toList_none, List.cons_append, List.nil_append, Int.toNat_natCast, Int.reduceToNat, up_eq, up_p, up_k, sN,  R_isMan hρ, R_isThing hρ, sr_up, hSR, wr_up_o, hWR ]
theorem X_lastTell_loop (hx : XM ρ) (hb : b = 2 ∨ b = 21) (hX : XS μ b S) (hS : SI S) {t : Int} : ∀ (n : Nat) (k L : Int), -1 ≤ L → L ≤ 99 → (∀ i, 0 ≤ i → i < k → S 12 i = t → S 13 i ≤ L) → 0 ≤ k → k + n = S 0 4 → ∃ L', -1 ≤ L' ∧ L' ≤ 99 ∧ (∀ i, 0 ≤ i → i < S 0 4 → S 12 i = t → S 13 i ≤ L') ∧ am_E d 59 4 [some (.inr (.inr b)), some (.inl t), some (.inl L), some (.inl k)] [] (SH, ρ, μ, cs) = some (some (.inl L'), (SH, ρ, μ, cs)) := by
  intro n
  have b4 := hS.2.2.2.2.1
  have hN := hX.1.2.2.2
  induction n with
  | zero =>
    intro k L l0 l1 hl k0 hk
    refine ⟨L, l0, l1, fun i h0 h1 => hl i h0 (by omega), ?_⟩
    rw [e59_4]; simp (disch := omega) only [xk_st0 hb, xk_st1 hb, xk_st10 hb, xk_st11 hb, xk_st12 hb, xk_st13 hb, xk_st14 hb, xk_st15 hb, xk_st16 hb, xk_st17 hb, xk_st18 hb, xk_st2 hb, xk_st3 hb, xk_st4 hb, xk_st5 hb, xk_st6 hb, xk_st7 hb, xk_st8 hb, xk_st9 hb, xm_lw2 hx hb, xm_lw3 hx hb, xm_lw4 hx hb, xm_lw5 hx hb, xm_st1 hx hb, xm_st10 hx hb, xm_st11 hx hb, xm_st13 hx hb, xm_st14 hx hb, xm_st15 hx hb, xm_st16 hx hb, xm_st17 hx hb, xm_st2 hx hb, xm_st4 hx hb, xm_st5 hx hb, xm_st6 hx hb, xm_st7 hx hb, xm_st9 hx hb, ite_self, Bool.false_eq_true, eq_self, isk_t, i20_t, w20_t, l23_t, b21_t, b22_t, w_t, bif_t, bif_f, bif_d, if_pos, if_neg, if_true, if_false, not_true_eq_false, not_false_eq_true, Option.bind_some, Option.toList_some, Option.toList_none, List.cons_append, List.nil_append, Int.toNat_natCast, Int.reduceToNat, up_eq, up_p, up_k, sN,  hN ]
  | succ n ih =>
    intro k L l0 l1 hl k0 hk
    have bk := hS.2.2.2.2.2.2.2.2.2.2.2.2.2.2.1 k k0 (by omega)
    have xk := hX.2.2.2.2.2.1 k k0 (by omega)
    by_cases c1 : S 12 k = t
    · by_cases c2 : S 13 k ≤ L
      · obtain ⟨L', a1, a2, a3, a4⟩ := ih (k + 1) L l0 l1 (fun i h0 h1 hi => by
          by_cases e : i = k
          · subst e; exact c2
          · exact hl i h0 (by omega) hi) (by omega) (by omega)
        refine ⟨L', a1, a2, a3, ?_⟩
        rw [← a4]
        rw [e59_4]; simp (disch := omega) only [xk_st0 hb, xk_st1 hb, xk_st10 hb, xk_st11 hb, xk_st12 hb, xk_st13 hb, xk_st14 hb, xk_st15 hb, xk_st16 hb, xk_st17 hb, xk_st18 hb, xk_st2 hb, xk_st3 hb, xk_st4 hb, xk_st5 hb, xk_st6 hb, xk_st7 hb, xk_st8 hb, xk_st9 hb, xm_lw2 hx hb, xm_lw3 hx hb, xm_lw4 hx hb, xm_lw5 hx hb, xm_st1 hx hb, xm_st10 hx hb, xm_st11 hx hb, xm_st13 hx hb, xm_st14 hx hb, xm_st15 hx hb, xm_st16 hx hb, xm_st17 hx hb, xm_st2 hx hb, xm_st4 hx hb, xm_st5 hx hb, xm_st6 hx hb, xm_st7 hx hb, xm_st9 hx hb, ite_self, Bool.false_eq_true, eq_self, isk_t, i20_t, w20_t, l23_t, b21_t, b22_t, w_t, bif_t, bif_f, bif_d, if_pos, if_neg, if_true, if_false, not_true_eq_false, not_false_eq_true, Option.bind_some, Option.toList_some, Option.toList_none, List.cons_append, List.nil_append, Int.toNat_natCast, Int.reduceToNat, up_eq, up_p, up_k, sN,  hN, xk.2.1, xk.2.2 ]
      · obtain ⟨L', a1, a2, a3, a4⟩ := ih (k + 1) (S 13 k) (by omega) (by omega) (fun i h0 h1 hi => by
          by_cases e : i = k
          · subst e; exact Int.le_refl _
          · have := hl i h0 (by omega) hi; omega) (by omega) (by omega)
        refine ⟨L', a1, a2, a3, ?_⟩
        rw [← a4]
        rw [e59_4]; simp (disch := omega) only [xk_st0 hb, xk_st1 hb, xk_st10 hb, xk_st11 hb, xk_st12 hb, xk_st13 hb, xk_st14 hb, xk_st15 hb, xk_st16 hb, xk_st17 hb, xk_st18 hb, xk_st2 hb, xk_st3 hb, xk_st4 hb, xk_st5 hb, xk_st6 hb, xk_st7 hb, xk_st8 hb, xk_st9 hb, xm_lw2 hx hb, xm_lw3 hx hb, xm_lw4 hx hb, xm_lw5 hx hb, xm_st1 hx hb, xm_st10 hx hb, xm_st11 hx hb, xm_st13 hx hb, xm_st14 hx hb, xm_st15 hx hb, xm_st16 hx hb, xm_st17 hx hb, xm_st2 hx hb, xm_st4 hx hb, xm_st5 hx hb, xm_st6 hx hb, xm_st7 hx hb, xm_st9 hx hb, ite_self, Bool.false_eq_true, eq_self, isk_t, i20_t, w20_t, l23_t, b21_t, b22_t, w_t, bif_t, bif_f, bif_d, if_pos, if_neg, if_true, if_false, not_true_eq_false, not_false_eq_true, Option.bind_some, Option.toList_some, Option.toList_none, List.cons_append, List.nil_append, Int.toNat_natCast, Int.reduceToNat, up_eq, up_p, up_k, sN,  hN, xk.2.1, xk.2.2 ]
    · obtain ⟨L', a1, a2, a3, a4⟩ := ih (k + 1) L l0 l1 (fun i h0 h1 hi => by
        by_cases e : i = k
        · subst e; exact absurd hi c1
        · exact hl i h0 (by omega) hi) (by omega) (by omega)
      refine ⟨L', a1, a2, a3, ?_⟩
      rw [← a4]
      rw [e59_4]; simp (disch := omega) only [xk_st0 hb, xk_st1 hb, xk_st10 hb, xk_st11 hb, xk_st12 hb, xk_st13 hb, xk_st14 hb, xk_st15 hb, xk_st16 hb, xk_st17 hb, xk_st18 hb, xk_st2 hb, xk_st3 hb, xk_st4 hb, xk_st5 hb, xk_st6 hb, xk_st7 hb, xk_st8 hb, xk_st9 hb, xm_lw2 hx hb, xm_lw3 hx hb, xm_lw4 hx hb, xm_lw5 hx hb, xm_st1 hx hb, xm_st10 hx hb, xm_st11 hx hb, xm_st13 hx hb, xm_st14 hx hb, xm_st15 hx hb, xm_st16 hx hb, xm_st17 hx hb, xm_st2 hx hb, xm_st4 hx hb, xm_st5 hx hb, xm_st6 hx hb, xm_st7 hx hb, xm_st9 hx hb, ite_self, Bool.false_eq_true, eq_self, isk_t, i20_t, w20_t, l23_t, b21_t, b22_t, w_t, bif_t, bif_f, bif_d, if_pos, if_neg, if_true, if_false, not_true_eq_false, not_false_eq_true, Option.bind_some, Option.toList_some, Option.toList_none, List.cons_append, List.nil_append, Int.toNat_natCast, Int.reduceToNat, up_eq, up_p, up_k, sN,  hN, xk.2.1 ]
theorem X_stay_loop {t L x2 : Int} (hC : CI S C) (h3 : C.2.2.1 < 3) (t0 : 0 ≤ t) (t1 : t < S 0 1) (hL : ∀ i, 0 ≤ i → i < S 0 4 → S 12 i = t → S 13 i ≤ L) : ∀ (n : Nat) (k D : Int) (V : MW) (μ : Nat → Nat → Int), XT ρ μ b w u S W V C → WI S D V → D + n < 20000 → 0 ≤ k → k + n = 60 → ∃ μ', FrA μ μ' ∧ am_E (d + 7) 105 42 [some (.inr (.inr 0)), some (.inl t), some (.inl x2), some (.inl L), some (.inl k)] [] (SH, ρ, μ, cs) = some (some (.inl (if daysW S C n V 4 0 t = -2 then 1 else 0)), (SH, ρ, μ', cs)) := by
  intro n
  induction n with
  | zero =>
    intro k D V μ hT hV2 hD k0 hk
    obtain ⟨h, hst, hwd, hV, hK⟩ := hT
    obtain ⟨hx, hρ, hb, hgs, hw46, hu64, hSR, hS, hX, hWR, hWI, hW, hday, h49, h51, h53⟩ := h; have hw : w = 46 ∨ w = 55 ∨ w = 64 := Or.inl hw46; have hu : u = 46 ∨ u = 55 ∨ u = 64 := Or.inr (Or.inr hu64); have hn5 := (xm_0_5 hx).trans hw46.symm; have hn7 := (xm_0_7 hx).trans hu64.symm; have b0 := hS.1; have b1 := hS.2.1
    have en := xw_news hV (t := t) t0 (by omega)
    have bn := (hV2.2.2.2.2.1 t t0 (by omega)).1
    refine ⟨μ, fra_rf μ, ?_⟩
    have ez : daysW S C 0 V = V := rfl
    rw [ez]
    by_cases c : V 4 0 t = -2
    · rw [e105_42]; simp (disch := omega) only [hgs, hn5, hn7, xk_0, xk_1, xk_40, xk_41, xk_42, xk_43, xk_44, xk_45, xk_46, xk_47, xk_48, xk_49, xk_50, xk_51, xk_52, xk_53, xk_54, xk_55, xk_56, xk_57, xk_58, xk_59, xk_60, xk_61, xk_62, xk_63, xk_64, xk_65, xk_66, xk_67, xk_68, xk_69, xk_70, xk_71, xk_72, xk_73, xk_74, xk_75, xk_76, xk_77, xk_78, xk_79, xk_80, xk_81, xk_82, xk_83, xk_84, xk_85, xk_86, xk_87, xk_88, xk_89, xk_90, xk_91, xk_92, xk_93, xk_94, xk_95, xk_96, xk_97, xk_98, xk_st0 hb, xk_st1 hb, xk_st10 hb, xk_st11 hb, xk_st12 hb, xk_st13 hb, xk_st14 hb, xk_st15 hb, xk_st16 hb, xk_st17 hb, xk_st18 hb, xk_st2 hb, xk_st3 hb, xk_st4 hb, xk_st5 hb, xk_st6 hb, xk_st7 hb, xk_st8 hb, xk_st9 hb, xk_wd0 hu, xk_wd0 hw, xk_wd1 hu, xk_wd1 hw, xk_wd2 hu, xk_wd2 hw, xk_wd3 hu, xk_wd3 hw, xk_wd4 hu, xk_wd4 hw, xk_wd5 hu, xk_wd5 hw, xk_wd6 hu, xk_wd6 hw, xk_wd7 hu, xk_wd7 hw, xk_wd8 hu, xk_wd8 hw, xm_0_0 hx, xm_0_10 hx, xm_0_11 hx, xm_0_12 hx, xm_0_13 hx, xm_0_14 hx, xm_0_15 hx, xm_0_2 hx, xm_0_9 hx, xm_40_0 hx, xm_40_1 hx, xm_41_0 hx, xm_44_0 hx, xm_44_1 hx, xm_73_4 hx, xm_73_5 hx, xm_73_6 hx, xm_77_1 hx, xm_77_2 hx, xm_77_3 hx, xm_77_4 hx, xm_77_5 hx, xm_77_6 hx, xm_77_7 hx, xm_77_8 hx, xm_77_9 hx, xm_87_2 hx, xm_87_3 hx, xm_87_4 hx, xm_87_5 hx, xm_87_6 hx, xm_87_7 hx, xm_87_8 hx, xm_lw2 hx hb, xm_lw3 hx hb, xm_lw4 hx hb, xm_lw5 hx hb, xm_st1 hx hb, xm_st10 hx hb, xm_st11 hx hb, xm_st13 hx hb, xm_st14 hx hb, xm_st15 hx hb, xm_st16 hx hb, xm_st17 hx hb, xm_st2 hx hb, xm_st4 hx hb, xm_st5 hx hb, xm_st6 hx hb, xm_st7 hx hb, xm_st9 hx hb, xm_wd10 hx hu, xm_wd10 hx hw, xm_wd11 hx hu, xm_wd11 hx hw, xm_wd4 hx hu, xm_wd4 hx hw, xm_wd5 hx hu, xm_wd5 hx hw, xm_wd6 hx hu, xm_wd6 hx hw, xm_wd7 hx hu, xm_wd7 hx hw, xm_wd8 hx hu, xm_wd8 hx hw, xm_wd9 hx hu, xm_wd9 hx hw, ite_self, Bool.false_eq_true, eq_self, isk_t, i20_t, w20_t, l23_t, b21_t, b22_t, w_t, bif_t, bif_f, bif_d, if_pos, if_neg, if_true, if_false, not_true_eq_false, not_false_eq_true, Option.bind_some, Option.toList_some, Option.toList_none, List.cons_append, List.nil_append, Int.toNat_natCast, Int.reduceToNat, up_eq, up_p, up_k, sN,  en ]
    · rw [e105_42]; simp (disch := omega) only [hgs, hn5, hn7, xk_0, xk_1, xk_40, xk_41, xk_42, xk_43, xk_44, xk_45, xk_46, xk_47, xk_48, xk_49, xk_50, xk_51, xk_52, xk_53, xk_54, xk_55, xk_56, xk_57, xk_58, xk_59, xk_60, xk_61, xk_62, xk_63, xk_64, xk_65, xk_66, xk_67, xk_68, xk_69, xk_70, xk_71, xk_72, xk_73, xk_74, xk_75, xk_76, xk_77, xk_78, xk_79, xk_80, xk_81, xk_82, xk_83, xk_84, xk_85, xk_86, xk_87, xk_88, xk_89, xk_90, xk_91, xk_92, xk_93, xk_94, xk_95, xk_96, xk_97, xk_98, xk_st0 hb, xk_st1 hb, xk_st10 hb, xk_st11 hb, xk_st12 hb, xk_st13 hb, xk_st14 hb, xk_st15 hb, xk_st16 hb, xk_st17 hb, xk_st18 hb, xk_st2 hb, xk_st3 hb, xk_st4 hb, xk_st5 hb, xk_st6 hb, xk_st7 hb, xk_st8 hb, xk_st9 hb, xk_wd0 hu, xk_wd0 hw, xk_wd1 hu, xk_wd1 hw, xk_wd2 hu, xk_wd2 hw, xk_wd3 hu, xk_wd3 hw, xk_wd4 hu, xk_wd4 hw, xk_wd5 hu, xk_wd5 hw, xk_wd6 hu, xk_wd6 hw, xk_wd7 hu, xk_wd7 hw, xk_wd8 hu, xk_wd8 hw, xm_0_0 hx, xm_0_10 hx, xm_0_11 hx, xm_0_12 hx, xm_0_13 hx, xm_0_14 hx, xm_0_15 hx, xm_0_2 hx, xm_0_9 hx, xm_40_0 hx, xm_40_1 hx, xm_41_0 hx, xm_44_0 hx, xm_44_1 hx, xm_73_4 hx, xm_73_5 hx, xm_73_6 hx, xm_77_1 hx, xm_77_2 hx, xm_77_3 hx, xm_77_4 hx, xm_77_5 hx, xm_77_6 hx, xm_77_7 hx, xm_77_8 hx, xm_77_9 hx, xm_87_2 hx, xm_87_3 hx, xm_87_4 hx, xm_87_5 hx, xm_87_6 hx, xm_87_7 hx, xm_87_8 hx, xm_lw2 hx hb, xm_lw3 hx hb, xm_lw4 hx hb, xm_lw5 hx hb, xm_st1 hx hb, xm_st10 hx hb, xm_st11 hx hb, xm_st13 hx hb, xm_st14 hx hb, xm_st15 hx hb, xm_st16 hx hb, xm_st17 hx hb, xm_st2 hx hb, xm_st4 hx hb, xm_st5 hx hb, xm_st6 hx hb, xm_st7 hx hb, xm_st9 hx hb, xm_wd10 hx hu, xm_wd10 hx hw, xm_wd11 hx hu, xm_wd11 hx hw, xm_wd4 hx hu, xm_wd4 hx hw, xm_wd5 hx hu, xm_wd5 hx hw, xm_wd6 hx hu, xm_wd6 hx hw, xm_wd7 hx hu, xm_wd7 hx hw, xm_wd8 hx hu, xm_wd8 hx hw, xm_wd9 hx hu, xm_wd9 hx hw, ite_self, Bool.false_eq_true, eq_self, isk_t, i20_t, w20_t, l23_t, b21_t, b22_t, w_t, bif_t, bif_f, bif_d, if_pos, if_neg, if_true, if_false, not_true_eq_false, not_false_eq_true, Option.bind_some, Option.toList_some, Option.toList_none, List.cons_append, List.nil_append, Int.toNat_natCast, Int.reduceToNat, up_eq, up_p, up_k, sN,  en ]
  | succ n ih =>
    intro k D V μ hT hV2 hD k0 hk
    obtain ⟨μ1, g1, g2, g3⟩ := XT_step (cs := cs) (d := d) hT (show D < 20000 by omega) hV2 hC h3
    obtain ⟨h, hst, hwd, hV, hK⟩ := hT
    obtain ⟨hx, hρ, hb, hgs, hw46, hu64, hSR, hS, hX, hWR, hWI, hW, hday, h49, h51, h53⟩ := h; have hw : w = 46 ∨ w = 55 ∨ w = 64 := Or.inl hw46; have hu : u = 46 ∨ u = 55 ∨ u = 64 := Or.inr (Or.inr hu64); have hn5 := (xm_0_5 hx).trans hw46.symm; have hn7 := (xm_0_7 hx).trans hu64.symm; have b0 := hS.1; have b1 := hS.2.1
    have en := xw_news hV (t := t) t0 (by omega)
    have ed := xw_day hV
    have bn := (hV2.2.2.2.2.1 t t0 (by omega)).1
    by_cases c : V 4 0 t = -2
    · by_cases c2 : L < V 0 0 0
      · have e := days_news (S := S) (C := C) (t0 := t) (n + 1) V (Or.inr (fun i h0 h1 hi => by have := hL i h0 h1 hi; omega))
        refine ⟨μ, fra_rf μ, ?_⟩
        rw [e, if_pos c]
        rw [e105_42]; simp (disch := omega) only [hgs, hn5, hn7, xk_0, xk_1, xk_40, xk_41, xk_42, xk_43, xk_44, xk_45, xk_46, xk_47, xk_48, xk_49, xk_50, xk_51, xk_52, xk_53, xk_54, xk_55, xk_56, xk_57, xk_58, xk_59, xk_60, xk_61, xk_62, xk_63, xk_64, xk_65, xk_66, xk_67, xk_68, xk_69, xk_70, xk_71, xk_72, xk_73, xk_74, xk_75, xk_76, xk_77, xk_78, xk_79, xk_80, xk_81, xk_82, xk_83, xk_84, xk_85, xk_86, xk_87, xk_88, xk_89, xk_90, xk_91, xk_92, xk_93, xk_94, xk_95, xk_96, xk_97, xk_98, xk_st0 hb, xk_st1 hb, xk_st10 hb, xk_st11 hb, xk_st12 hb, xk_st13 hb, xk_st14 hb, xk_st15 hb, xk_st16 hb, xk_st17 hb, xk_st18 hb, xk_st2 hb, xk_st3 hb, xk_st4 hb, xk_st5 hb, xk_st6 hb, xk_st7 hb, xk_st8 hb, xk_st9 hb, xk_wd0 hu, xk_wd0 hw, xk_wd1 hu, xk_wd1 hw, xk_wd2 hu, xk_wd2 hw, xk_wd3 hu, xk_wd3 hw, xk_wd4 hu, xk_wd4 hw, xk_wd5 hu, xk_wd5 hw, xk_wd6 hu, xk_wd6 hw, xk_wd7 hu, xk_wd7 hw, xk_wd8 hu, xk_wd8 hw, xm_0_0 hx, xm_0_10 hx, xm_0_11 hx, xm_0_12 hx, xm_0_13 hx, xm_0_14 hx, xm_0_15 hx, xm_0_2 hx, xm_0_9 hx, xm_40_0 hx, xm_40_1 hx, xm_41_0 hx, xm_44_0 hx, xm_44_1 hx, xm_73_4 hx, xm_73_5 hx, xm_73_6 hx, xm_77_1 hx, xm_77_2 hx, xm_77_3 hx, xm_77_4 hx, xm_77_5 hx, xm_77_6 hx, xm_77_7 hx, xm_77_8 hx, xm_77_9 hx, xm_87_2 hx, xm_87_3 hx, xm_87_4 hx, xm_87_5 hx, xm_87_6 hx, xm_87_7 hx, xm_87_8 hx, xm_lw2 hx hb, xm_lw3 hx hb, xm_lw4 hx hb, xm_lw5 hx hb, xm_st1 hx hb, xm_st10 hx hb, xm_st11 hx hb, xm_st13 hx hb, xm_st14 hx hb, xm_st15 hx hb, xm_st16 hx hb, xm_st17 hx hb, xm_st2 hx hb, xm_st4 hx hb, xm_st5 hx hb, xm_st6 hx hb, xm_st7 hx hb, xm_st9 hx hb, xm_wd10 hx hu, xm_wd10 hx hw, xm_wd11 hx hu, xm_wd11 hx hw, xm_wd4 hx hu, xm_wd4 hx hw, xm_wd5 hx hu, xm_wd5 hx hw, xm_wd6 hx hu, xm_wd6 hx hw, xm_wd7 hx hu, xm_wd7 hx hw, xm_wd8 hx hu, xm_wd8 hx hw, xm_wd9 hx hu, xm_wd9 hx hw, ite_self, Bool.false_eq_true, eq_self, isk_t, i20_t, w20_t, l23_t, b21_t, b22_t, w_t, bif_t, bif_f, bif_d, if_pos, if_neg, if_true, if_false, not_true_eq_false, not_false_eq_true, Option.bind_some, Option.toList_some, Option.toList_none, List.cons_append, List.nil_append, Int.toNat_natCast, Int.reduceToNat, up_eq, up_p, up_k, sN,  en, ed ]
      · obtain ⟨μ2, k1, k2⟩ := ih (k + 1) (D + 1) _ μ1 g2 (wi_dayW hS hC hV2) (by omega) (by omega) (by omega)
        refine ⟨μ2, fra_tr g1 k1, ?_⟩
        have ez : daysW S C (n + 1) V = daysW S C n (dayW S C V) := rfl
        rw [ez]
        rw [← k2]
        rw [e105_42]; simp (disch := omega) only [e105_79, hgs, hn5, hn7, xk_0, xk_1, xk_40, xk_41, xk_42, xk_43, xk_44, xk_45, xk_46, xk_47, xk_48, xk_49, xk_50, xk_51, xk_52, xk_53, xk_54, xk_55, xk_56, xk_57, xk_58, xk_59, xk_60, xk_61, xk_62, xk_63, xk_64, xk_65, xk_66, xk_67, xk_68, xk_69, xk_70, xk_71, xk_72, xk_73, xk_74, xk_75, xk_76, xk_77, xk_78, xk_79, xk_80, xk_81, xk_82, xk_83, xk_84, xk_85, xk_86, xk_87, xk_88, xk_89, xk_90, xk_91, xk_92, xk_93, xk_94, xk_95, xk_96, xk_97, xk_98, xk_st0 hb, xk_st1 hb, xk_st10 hb, xk_st11 hb, xk_st12 hb, xk_st13 hb, xk_st14 hb, xk_st15 hb, xk_st16 hb, xk_st17 hb, xk_st18 hb, xk_st2 hb, xk_st3 hb, xk_st4 hb, xk_st5 hb, xk_st6 hb, xk_st7 hb, xk_st8 hb, xk_st9 hb, xk_wd0 hu, xk_wd0 hw, xk_wd1 hu, xk_wd1 hw, xk_wd2 hu, xk_wd2 hw, xk_wd3 hu, xk_wd3 hw, xk_wd4 hu, xk_wd4 hw, xk_wd5 hu, xk_wd5 hw, xk_wd6 hu, xk_wd6 hw, xk_wd7 hu, xk_wd7 hw, xk_wd8 hu, xk_wd8 hw, xm_0_0 hx, xm_0_10 hx, xm_0_11 hx, xm_0_12 hx, xm_0_13 hx, xm_0_14 hx, xm_0_15 hx, xm_0_2 hx, xm_0_9 hx, xm_40_0 hx, xm_40_1 hx, xm_41_0 hx, xm_44_0 hx, xm_44_1 hx, xm_73_4 hx, xm_73_5 hx, xm_73_6 hx, xm_77_1 hx, xm_77_2 hx, xm_77_3 hx, xm_77_4 hx, xm_77_5 hx, xm_77_6 hx, xm_77_7 hx, xm_77_8 hx, xm_77_9 hx, xm_87_2 hx, xm_87_3 hx, xm_87_4 hx, xm_87_5 hx, xm_87_6 hx, xm_87_7 hx, xm_87_8 hx, xm_lw2 hx hb, xm_lw3 hx hb, xm_lw4 hx hb, xm_lw5 hx hb, xm_st1 hx hb, xm_st10 hx hb, xm_st11 hx hb, xm_st13 hx hb, xm_st14 hx hb, xm_st15 hx hb, xm_st16 hx hb, xm_st17 hx hb, xm_st2 hx hb, xm_st4 hx hb, xm_st5 hx hb, xm_st6 hx hb, xm_st7 hx hb, xm_st9 hx hb, xm_wd10 hx hu, xm_wd10 hx hw, xm_wd11 hx hu, xm_wd11 hx hw, xm_wd4 hx hu, xm_wd4 hx hw, xm_wd5 hx hu, xm_wd5 hx hw, xm_wd6 hx hu, xm_wd6 hx hw, xm_wd7 hx hu, xm_wd7 hx hw, xm_wd8 hx hu, xm_wd8 hx hw, xm_wd9 hx hu, xm_wd9 hx hw, ite_self, Bool.false_eq_true, eq_self, isk_t, i20_t, w20_t, l23_t, b21_t, b22_t, w_t, bif_t, bif_f, bif_d, if_pos, if_neg, if_true, if_false, not_true_eq_false, not_false_eq_true, Option.bind_some, Option.toList_some, Option.toList_none, List.cons_append, List.nil_append, Int.toNat_natCast, Int.reduceToNat, up_eq, up_p, up_k, sN,  en, ed, g3 ]
    · have e := days_news (S := S) (C := C) (t0 := t) (n + 1) V (Or.inl c)
      refine ⟨μ, fra_rf μ, ?_⟩
      rw [e, if_neg c]
      by_cases c2 : L < V 0 0 0
      · rw [e105_42]; simp (disch := omega) only [hgs, hn5, hn7, xk_0, xk_1, xk_40, xk_41, xk_42, xk_43, xk_44, xk_45, xk_46, xk_47, xk_48, xk_49, xk_50, xk_51, xk_52, xk_53, xk_54, xk_55, xk_56, xk_57, xk_58, xk_59, xk_60, xk_61, xk_62, xk_63, xk_64, xk_65, xk_66, xk_67, xk_68, xk_69, xk_70, xk_71, xk_72, xk_73, xk_74, xk_75, xk_76, xk_77, xk_78, xk_79, xk_80, xk_81, xk_82, xk_83, xk_84, xk_85, xk_86, xk_87, xk_88, xk_89, xk_90, xk_91, xk_92, xk_93, xk_94, xk_95, xk_96, xk_97, xk_98, xk_st0 hb, xk_st1 hb, xk_st10 hb, xk_st11 hb, xk_st12 hb, xk_st13 hb, xk_st14 hb, xk_st15 hb, xk_st16 hb, xk_st17 hb, xk_st18 hb, xk_st2 hb, xk_st3 hb, xk_st4 hb, xk_st5 hb, xk_st6 hb, xk_st7 hb, xk_st8 hb, xk_st9 hb, xk_wd0 hu, xk_wd0 hw, xk_wd1 hu, xk_wd1 hw, xk_wd2 hu, xk_wd2 hw, xk_wd3 hu, xk_wd3 hw, xk_wd4 hu, xk_wd4 hw, xk_wd5 hu, xk_wd5 hw, xk_wd6 hu, xk_wd6 hw, xk_wd7 hu, xk_wd7 hw, xk_wd8 hu, xk_wd8 hw, xm_0_0 hx, xm_0_10 hx, xm_0_11 hx, xm_0_12 hx, xm_0_13 hx, xm_0_14 hx, xm_0_15 hx, xm_0_2 hx, xm_0_9 hx, xm_40_0 hx, xm_40_1 hx, xm_41_0 hx, xm_44_0 hx, xm_44_1 hx, xm_73_4 hx, xm_73_5 hx, xm_73_6 hx, xm_77_1 hx, xm_77_2 hx, xm_77_3 hx, xm_77_4 hx, xm_77_5 hx, xm_77_6 hx, xm_77_7 hx, xm_77_8 hx, xm_77_9 hx, xm_87_2 hx, xm_87_3 hx, xm_87_4 hx, xm_87_5 hx, xm_87_6 hx, xm_87_7 hx, xm_87_8 hx, xm_lw2 hx hb, xm_lw3 hx hb, xm_lw4 hx hb, xm_lw5 hx hb, xm_st1 hx hb, xm_st10 hx hb, xm_st11 hx hb, xm_st13 hx hb, xm_st14 hx hb, xm_st15 hx hb, xm_st16 hx hb, xm_st17 hx hb, xm_st2 hx hb, xm_st4 hx hb, xm_st5 hx hb, xm_st6 hx hb, xm_st7 hx hb, xm_st9 hx hb, xm_wd10 hx hu, xm_wd10 hx hw, xm_wd11 hx hu, xm_wd11 hx hw, xm_wd4 hx hu, xm_wd4 hx hw, xm_wd5 hx hu, xm_wd5 hx hw, xm_wd6 hx hu, xm_wd6 hx hw, xm_wd7 hx hu, xm_wd7 hx hw, xm_wd8 hx hu, xm_wd8 hx hw, xm_wd9 hx hu, xm_wd9 hx hw, ite_self, Bool.false_eq_true, eq_self, isk_t, i20_t, w20_t, l23_t, b21_t, b22_t, w_t, bif_t, bif_f, bif_d, if_pos, if_neg, if_true, if_false, not_true_eq_false, not_false_eq_true, Option.bind_some, Option.toList_some, Option.toList_none, List.cons_append, List.nil_append, Int.toNat_natCast, Int.reduceToNat, up_eq, up_p, up_k, sN,  en, ed ]
      · rw [e105_42]; simp (disch := omega) only [hgs, hn5, hn7, xk_0, xk_1, xk_40, xk_41, xk_42, xk_43, xk_44, xk_45, xk_46, xk_47, xk_48, xk_49, xk_50, xk_51, xk_52, xk_53, xk_54, xk_55, xk_56, xk_57, xk_58, xk_59, xk_60, xk_61, xk_62, xk_63, xk_64, xk_65, xk_66, xk_67, xk_68, xk_69, xk_70, xk_71, xk_72, xk_73, xk_74, xk_75, xk_76, xk_77, xk_78, xk_79, xk_80, xk_81, xk_82, xk_83, xk_84, xk_85, xk_86, xk_87, xk_88, xk_89, xk_90, xk_91, xk_92, xk_93, xk_94, xk_95, xk_96, xk_97, xk_98, xk_st0 hb, xk_st1 hb, xk_st10 hb, xk_st11 hb, xk_st12 hb, xk_st13 hb, xk_st14 hb, xk_st15 hb, xk_st16 hb, xk_st17 hb, xk_st18 hb, xk_st2 hb, xk_st3 hb, xk_st4 hb, xk_st5 hb, xk_st6 hb, xk_st7 hb, xk_st8 hb, xk_st9 hb, xk_wd0 hu, xk_wd0 hw, xk_wd1 hu, xk_wd1 hw, xk_wd2 hu, xk_wd2 hw, xk_wd3 hu, xk_wd3 hw, xk_wd4 hu, xk_wd4 hw, xk_wd5 hu, xk_wd5 hw, xk_wd6 hu, xk_wd6 hw, xk_wd7 hu, xk_wd7 hw, xk_wd8 hu, xk_wd8 hw, xm_0_0 hx, xm_0_10 hx, xm_0_11 hx, xm_0_12 hx, xm_0_13 hx, xm_0_14 hx, xm_0_15 hx, xm_0_2 hx, xm_0_9 hx, xm_40_0 hx, xm_40_1 hx, xm_41_0 hx, xm_44_0 hx, xm_44_1 hx, xm_73_4 hx, xm_73_5 hx, xm_73_6 hx, xm_77_1 hx, xm_77_2 hx, xm_77_3 hx, xm_77_4 hx, xm_77_5 hx, xm_77_6 hx, xm_77_7 hx, xm_77_8 hx, xm_77_9 hx, xm_87_2 hx, xm_87_3 hx, xm_87_4 hx, xm_87_5 hx, xm_87_6 hx, xm_87_7 hx, xm_87_8 hx, xm_lw2 hx hb, xm_lw3 hx hb, xm_lw4 hx hb, xm_lw5 hx hb, xm_st1 hx hb, xm_st10 hx hb, xm_st11 hx hb, xm_st13 hx hb, xm_st14 hx hb, xm_st15 hx hb, xm_st16 hx hb, xm_st17 hx hb, xm_st2 hx hb, xm_st4 hx hb, xm_st5 hx hb, xm_st6 hx hb, xm_st7 hx hb, xm_st9 hx hb, xm_wd10 hx hu, xm_wd10 hx hw, xm_wd11 hx hu, xm_wd11 hx hw, xm_wd4 hx hu, xm_wd4 hx hw, xm_wd5 hx hu, xm_wd5 hx hw, xm_wd6 hx hu, xm_wd6 hx hw, xm_wd7 hx hu, xm_wd7 hx hw, xm_wd8 hx hu, xm_wd8 hx hw, xm_wd9 hx hu, xm_wd9 hx hw, ite_self, Bool.false_eq_true, eq_self, isk_t, i20_t, w20_t, l23_t, b21_t, b22_t, w_t, bif_t, bif_f, bif_d, if_pos, if_neg, if_true, if_false, not_true_eq_false, not_false_eq_true, Option.bind_some, Option.toList_some, Option.toList_none, List.cons_append, List.nil_append, Int.toNat_natCast, Int.reduceToNat, up_eq, up_p, up_k, sN,  en, ed ]
theorem X_stays (h : RLq ρ μ b w u S W) {t : Int} {s : Nat} (hG : GC S C (kG S)) (hs : s < 128) (t0 : 0 ≤ t) (t1 : t < S 0 1) : ∃ ρ' μ', FrR ρ ρ' ∧ FrA μ μ' ∧ am_E (d + 7) 105 0 [some (.inr (.inr 0)), some (.inl t), some (.inl (s : Int)), none, none] [] (SH, ρ, μ, cs) = some (some (.inl (if hushH S C W t s = true then 1 else 0)), (SH, ρ', μ', cs)) := by
  obtain ⟨ρ1, μ1, f1, f2, f3, f4⟩ := X_tryFromNow (cs := cs) (d := d + 4) h
  have hT := f3 _ hG
  obtain ⟨hx, hρ, hb, hgs, hw46, hu64, hSR, hS, hX, hWR, hWI, hW, hday, h49, h51, h53⟩ := h; have hw : w = 46 ∨ w = 55 ∨ w = 64 := Or.inl hw46; have hu : u = 46 ∨ u = 55 ∨ u = 64 := Or.inr (Or.inr hu64); have hn5 := (xm_0_5 hx).trans hw46.symm; have hn7 := (xm_0_7 hx).trans hu64.symm; have b0 := hS.1; have b1 := hS.2.1
  have hT1 := XT_one hT t0 (show t < 6 by omega)
  have e1 : am_E (d + 7) 105 0 [some (.inr (.inr 0)), some (.inl t), some (.inl (s : Int)), none, none] [] (SH, ρ, μ, cs) = am_E (d + 7) 105 4 [some (.inr (.inr 0)), some (.inl t), some (.inl (s : Int)), none, none] [] (SH, ρ1, μ1, cs) := by
    simp (disch := omega) only [e105_0, hgs, hn5, hn7, xk_0, xk_1, xk_40, xk_41, xk_42, xk_43, xk_44, xk_45, xk_46, xk_47, xk_48, xk_49, xk_50, xk_51, xk_52, xk_53, xk_54, xk_55, xk_56, xk_57, xk_58, xk_59, xk_60, xk_61, xk_62, xk_63, xk_64, xk_65, xk_66, xk_67, xk_68, xk_69, xk_70, xk_71, xk_72, xk_73, xk_74, xk_75, xk_76, xk_77, xk_78, xk_79, xk_80, xk_81, xk_82, xk_83, xk_84, xk_85, xk_86, xk_87, xk_88, xk_89, xk_90, xk_91, xk_92, xk_93, xk_94, xk_95, xk_96, xk_97, xk_98, xk_st0 hb, xk_st1 hb, xk_st10 hb, xk_st11 hb, xk_st12 hb, xk_st13 hb, xk_st14 hb, xk_st15 hb, xk_st16 hb, xk_st17 hb, xk_st18 hb, xk_st2 hb, xk_st3 hb, xk_st4 hb, xk_st5 hb, xk_st6 hb, xk_st7 hb, xk_st8 hb, xk_st9 hb, xk_wd0 hu, xk_wd0 hw, xk_wd1 hu, xk_wd1 hw, xk_wd2 hu, xk_wd2 hw, xk_wd3 hu, xk_wd3 hw, xk_wd4 hu, xk_wd4 hw, xk_wd5 hu, xk_wd5 hw, xk_wd6 hu, xk_wd6 hw, xk_wd7 hu, xk_wd7 hw, xk_wd8 hu, xk_wd8 hw, xm_0_0 hx, xm_0_10 hx, xm_0_11 hx, xm_0_12 hx, xm_0_13 hx, xm_0_14 hx, xm_0_15 hx, xm_0_2 hx, xm_0_9 hx, xm_40_0 hx, xm_40_1 hx, xm_41_0 hx, xm_44_0 hx, xm_44_1 hx, xm_73_4 hx, xm_73_5 hx, xm_73_6 hx, xm_77_1 hx, xm_77_2 hx, xm_77_3 hx, xm_77_4 hx, xm_77_5 hx, xm_77_6 hx, xm_77_7 hx, xm_77_8 hx, xm_77_9 hx, xm_87_2 hx, xm_87_3 hx, xm_87_4 hx, xm_87_5 hx, xm_87_6 hx, xm_87_7 hx, xm_87_8 hx, xm_lw2 hx hb, xm_lw3 hx hb, xm_lw4 hx hb, xm_lw5 hx hb, xm_st1 hx hb, xm_st10 hx hb, xm_st11 hx hb, xm_st13 hx hb, xm_st14 hx hb, xm_st15 hx hb, xm_st16 hx hb, xm_st17 hx hb, xm_st2 hx hb, xm_st4 hx hb, xm_st5 hx hb, xm_st6 hx hb, xm_st7 hx hb, xm_st9 hx hb, xm_wd10 hx hu, xm_wd10 hx hw, xm_wd11 hx hu, xm_wd11 hx hw, xm_wd4 hx hu, xm_wd4 hx hw, xm_wd5 hx hu, xm_wd5 hx hw, xm_wd6 hx hu, xm_wd6 hx hw, xm_wd7 hx hu, xm_wd7 hx hw, xm_wd8 hx hu, xm_wd8 hx hw, xm_wd9 hx hu, xm_wd9 hx hw, ite_self, Bool.false_eq_true, eq_self, isk_t, i20_t, w20_t, l23_t, b21_t, b22_t, w_t, bif_t, bif_f, bif_d, if_pos, if_neg, if_true, if_false, not_true_eq_false, not_false_eq_true, Option.bind_some, Option.toList_some, Option.toList_none, List.cons_append, List.nil_append, Int.toNat_natCast, Int.reduceToNat, up_eq, up_p, up_k, sN,  f4 ]
  rw [e1]
  clear hx hρ hb hgs hX hW hn5 hn7 hw hu hSR hWR hWI hday h49 h51 h53 hw46 hu64 hS b0 b1
  obtain ⟨h, hst, hwd, hV, hK⟩ := hT1
  generalize hμa : am_up μ1 73 7 (am_shl 1 t) = μa at h hV hK
  have aA : FrA μ1 μa := fun q k hq => by rw [← hμa]; exact up_p (by omega)
  generalize hμb : am_up (am_up μa 73 8 (s : Int)) 73 9 (s : Int) = μb
  have aB : FrA μa μb := fun q k hq => by rw [← hμb, up_p (by omega), up_p (by omega)]
  have hT2 : XT ρ1 μb b w u S W W (oneT (hC C s) t) := by
    have h00 := h
    obtain ⟨hx, hρ, hb, hgs, hw46, hu64, hSR, hS, hX, hWR, hWI, hW, hday, h49, h51, h53⟩ := h; have hw : w = 46 ∨ w = 55 ∨ w = 64 := Or.inl hw46; have hu : u = 46 ∨ u = 55 ∨ u = 64 := Or.inr (Or.inr hu64); have hn5 := (xm_0_5 hx).trans hw46.symm; have hn7 := (xm_0_7 hx).trans hu64.symm; have b0 := hS.1; have b1 := hS.2.1
    refine ⟨rl_q h00 (frr_rf ρ1) (frq_a aB), hst, hwd, xw_fr hV (fun q k h0 h1 => by rw [← hμb, up_p (by omega), up_p (by omega)]), ?_⟩
    obtain ⟨a1, a2, a3, a4, a5, a6⟩ := hK
    unfold XC
    rw [← hμb, up_eq, up_k (k := 9) (j := 8) (by omega), up_eq, up_k (k := 9) (by omega), up_k (k := 8) (by omega), up_k (k := 9) (by omega), up_k (k := 8) (by omega), up_k (k := 9) (by omega), up_k (k := 8) (by omega)]
    exact ⟨a1, a2, fun p h0 h1 => by rw [up_p (by omega), up_p (by omega)]; exact a3 p h0 h1, a4, ⟨by omega, by omega, fun p h0 h1 => by rw [Int.toNat_natCast]; rfl⟩, ⟨by omega, by omega, fun p h0 h1 => by rw [Int.toNat_natCast]; rfl⟩⟩
  have hT3 := hT2
  obtain ⟨h, hst, hwd, hV, hK⟩ := hT2
  have h00 := h
  obtain ⟨hx, hρ, hb, hgs, hw46, hu64, hSR, hS, hX, hWR, hWI, hW, hday, h49, h51, h53⟩ := h; have hw : w = 46 ∨ w = 55 ∨ w = 64 := Or.inl hw46; have hu : u = 46 ∨ u = 55 ∨ u = 64 := Or.inr (Or.inr hu64); have hn5 := (xm_0_5 hx).trans hw46.symm; have hn7 := (xm_0_7 hx).trans hu64.symm; have b0 := hS.1; have b1 := hS.2.1
  have hci : CI S (oneT (hC C s) t) := (show CI S C from gc_ci hS hG)
  have hk3 : (oneT (hC C s) t).2.2.1 < 3 := by show C.2.2.1 < 3; rw [hG.1]; exact kG_3 S
  obtain ⟨L, l1, l2, l3, l4⟩ := X_lastTell_loop (ρ := ρ1) (μ := μb) (cs := cs) (d := d + 6) (t := t) hx hb hX hS (S 0 4).toNat 0 (-1) (by omega) (by omega) (fun i h0 h1 => by omega) (by omega) (by have := hS.2.2.2.2.1; omega)
  obtain ⟨μ2, k1, k2⟩ := X_stay_loop (ρ := ρ1) (cs := cs) (d := d) (t := t) (L := L) (x2 := (s : Int)) hci hk3 t0 t1 l3 60 0 10000 W μb hT3 hWI (by omega) (by omega) (by omega)
  have hce : CE t (hC C s) (oneT (hC C s) t) := one_ce (hG.2.2.2.1 t t0 (by omega)) (by show C.2.2.1 = 1 ∨ C.2.2.1 = 2; rw [hG.1]; exact kG_12 S)
  have hag := (days_ag (S := S) hce 60 (ag_rf t W)).2.1
  rw [hag] at k2
  refine ⟨ρ1, μ2, f1, fra_tr f2 (fra_tr aA (fra_tr aB k1)), ?_⟩
  have ed : (if hushH S C W t s = true then (1 : Int) else 0) = if daysW S (hC C s) 60 W 4 0 t = -2 then 1 else 0 := by
    unfold hushH
    by_cases c : daysW S (hC C s) 60 W 4 0 t = -2 <;> simp [c]
  rw [ed, ← k2]
  simp (disch := omega) only [e105_4, e105_38, e59_0, hgs, hn5, hn7, xk_0, xk_1, xk_40, xk_41, xk_42, xk_43, xk_44, xk_45, xk_46, xk_47, xk_48, xk_49, xk_50, xk_51, xk_52, xk_53, xk_54, xk_55, xk_56, xk_57, xk_58, xk_59, xk_60, xk_61, xk_62, xk_63, xk_64, xk_65, xk_66, xk_67, xk_68, xk_69, xk_70, xk_71, xk_72, xk_73, xk_74, xk_75, xk_76, xk_77, xk_78, xk_79, xk_80, xk_81, xk_82, xk_83, xk_84, xk_85, xk_86, xk_87, xk_88, xk_89, xk_90, xk_91, xk_92, xk_93, xk_94, xk_95, xk_96, xk_97, xk_98, xk_st0 hb, xk_st1 hb, xk_st10 hb, xk_st11 hb, xk_st12 hb, xk_st13 hb, xk_st14 hb, xk_st15 hb, xk_st16 hb, xk_st17 hb, xk_st18 hb, xk_st2 hb, xk_st3 hb, xk_st4 hb, xk_st5 hb, xk_st6 hb, xk_st7 hb, xk_st8 hb, xk_st9 hb, xk_wd0 hu, xk_wd0 hw, xk_wd1 hu, xk_wd1 hw, xk_wd2 hu, xk_wd2 hw, xk_wd3 hu, xk_wd3 hw, xk_wd4 hu, xk_wd4 hw, xk_wd5 hu, xk_wd5 hw, xk_wd6 hu, xk_wd6 hw, xk_wd7 hu, xk_wd7 hw, xk_wd8 hu, xk_wd8 hw, xm_0_0 hx, xm_0_10 hx, xm_0_11 hx, xm_0_12 hx, xm_0_13 hx, xm_0_14 hx, xm_0_15 hx, xm_0_2 hx, xm_0_9 hx, xm_40_0 hx, xm_40_1 hx, xm_41_0 hx, xm_44_0 hx, xm_44_1 hx, xm_73_4 hx, xm_73_5 hx, xm_73_6 hx, xm_77_1 hx, xm_77_2 hx, xm_77_3 hx, xm_77_4 hx, xm_77_5 hx, xm_77_6 hx, xm_77_7 hx, xm_77_8 hx, xm_77_9 hx, xm_87_2 hx, xm_87_3 hx, xm_87_4 hx, xm_87_5 hx, xm_87_6 hx, xm_87_7 hx, xm_87_8 hx, xm_lw2 hx hb, xm_lw3 hx hb, xm_lw4 hx hb, xm_lw5 hx hb, xm_st1 hx hb, xm_st10 hx hb, xm_st11 hx hb, xm_st13 hx hb, xm_st14 hx hb, xm_st15 hx hb, xm_st16 hx hb, xm_st17 hx hb, xm_st2 hx hb, xm_st4 hx hb, xm_st5 hx hb, xm_st6 hx hb, xm_st7 hx hb, xm_st9 hx hb, xm_wd10 hx hu, xm_wd10 hx hw, xm_wd11 hx hu, xm_wd11 hx hw, xm_wd4 hx hu, xm_wd4 hx hw, xm_wd5 hx hu, xm_wd5 hx hw, xm_wd6 hx hu, xm_wd6 hx hw, xm_wd7 hx hu, xm_wd7 hx hw, xm_wd8 hx hu, xm_wd8 hx hw, xm_wd9 hx hu, xm_wd9 hx hw, ite_self, Bool.false_eq_true, eq_self, isk_t, i20_t, w20_t, l23_t, b21_t, b22_t, w_t, bif_t, bif_f, bif_d, if_pos, if_neg, if_true, if_false, not_true_eq_false, not_false_eq_true, Option.bind_some, Option.toList_some, Option.toList_none, List.cons_append, List.nil_append, Int.toNat_natCast, Int.reduceToNat, up_eq, up_p, up_k, sN,  hμa, hμb, l4 ]
theorem X_hush_in {t f : Int} {M : Nat} (hM : M < 128) (hG : GC S C (kG S)) (t0 : 0 ≤ t) (t1 : t < S 0 1) : ∀ (n k : Nat) (ρ : Nat → Nat → Nat) (μ : Nat → Nat → Int), RLq ρ μ b w u S W → k + n = M → ∃ ρ' μ', FrR ρ ρ' ∧ FrA μ μ' ∧ ((∃ s : Nat, k ≤ s ∧ s < M ∧ popN s 7 = f ∧ hushH S C W t s = true ∧ (∀ s', k ≤ s' → s' < s → ¬ (popN s' 7 = f ∧ hushH S C W t s' = true)) ∧ am_E (d + 8) 104 53 [some (.inr (.inr 0)), some (.inl t), some (.inl (M : Int)), some (.inl f), some (.inl (k : Int))] [] (SH, ρ, μ, cs) = some (some (.inl (s : Int)), (SH, ρ', μ', cs))) ∨ ((∀ s', k ≤ s' → s' < M → ¬ (popN s' 7 = f ∧ hushH S C W t s' = true)) ∧ am_E (d + 8) 104 53 [some (.inr (.inr 0)), some (.inl t), some (.inl (M : Int)), some (.inl f), some (.inl (k : Int))] [] (SH, ρ, μ, cs) = am_E (d + 8) 104 39 [some (.inr (.inr 0)), some (.inl t), some (.inl (M : Int)), some (.inl (am_w (f + 1))), some (.inl (M : Int))] [] (SH, ρ', μ', cs))) := by
  intro n
  induction n with
  | zero =>
    intro k ρ μ h hk
    refine ⟨ρ, μ, frr_rf ρ, fra_rf μ, Or.inr ⟨fun s' h0 h1 => by omega, ?_⟩⟩
    have e : k = M := by omega
    rw [e, e104_53]
    simp (disch := omega) only [bif_d, if_pos]
  | succ n ih =>
    intro k ρ μ h hk
    have hbk := fun d => X_bits (ρ := ρ) (μ := μ) (cs := cs) (d := d) (sh := SH) (z := (k : Int)) (by omega) (by omega)
    rw [Int.toNat_natCast] at hbk
    have e2 : ((k + 1 : Nat) : Int) = (k : Int) + 1 := by omega
    by_cases c1 : popN k 7 = f
    · obtain ⟨ρ1, μ1, g0, g1, g2⟩ := X_stays (cs := cs) (d := d) (s := k) (t := t) h hG (by omega) t0 t1
      have h1 := rl_q h g0 (frq_a g1)
      obtain ⟨hx, hρ, hb, hgs, hw46, hu64, hSR, hS, hX, hWR, hWI, hW, hday, h49, h51, h53⟩ := h; have hw : w = 46 ∨ w = 55 ∨ w = 64 := Or.inl hw46; have hu : u = 46 ∨ u = 55 ∨ u = 64 := Or.inr (Or.inr hu64); have hn5 := (xm_0_5 hx).trans hw46.symm; have hn7 := (xm_0_7 hx).trans hu64.symm; have b0 := hS.1; have b1 := hS.2.1
      by_cases c2 : hushH S C W t k = true
      · rw [if_pos c2] at g2
        refine ⟨ρ1, μ1, g0, g1, Or.inl ⟨k, Nat.le_refl _, by omega, c1, c2, fun s' h0 h1 => by omega, ?_⟩⟩
        rw [e104_53]; simp (disch := omega) only [e104_64, e104_75, hgs, hn5, hn7, xk_0, xk_1, xk_40, xk_41, xk_42, xk_43, xk_44, xk_45, xk_46, xk_47, xk_48, xk_49, xk_50, xk_51, xk_52, xk_53, xk_54, xk_55, xk_56, xk_57, xk_58, xk_59, xk_60, xk_61, xk_62, xk_63, xk_64, xk_65, xk_66, xk_67, xk_68, xk_69, xk_70, xk_71, xk_72, xk_73, xk_74, xk_75, xk_76, xk_77, xk_78, xk_79, xk_80, xk_81, xk_82, xk_83, xk_84, xk_85, xk_86, xk_87, xk_88, xk_89, xk_90, xk_91, xk_92, xk_93, xk_94, xk_95, xk_96, xk_97, xk_98, xk_st0 hb, xk_st1 hb, xk_st10 hb, xk_st11 hb, xk_st12 hb, xk_st13 hb, xk_st14 hb, xk_st15 hb, xk_st16 hb, xk_st17 hb, xk_st18 hb, xk_st2 hb, xk_st3 hb, xk_st4 hb, xk_st5 hb, xk_st6 hb, xk_st7 hb, xk_st8 hb, xk_st9 hb, xk_wd0 hu, xk_wd0 hw, xk_wd1 hu, xk_wd1 hw, xk_wd2 hu, xk_wd2 hw, xk_wd3 hu, xk_wd3 hw, xk_wd4 hu, xk_wd4 hw, xk_wd5 hu, xk_wd5 hw, xk_wd6 hu, xk_wd6 hw, xk_wd7 hu, xk_wd7 hw, xk_wd8 hu, xk_wd8 hw, xm_0_0 hx, xm_0_10 hx, xm_0_11 hx, xm_0_12 hx, xm_0_13 hx, xm_0_14 hx, xm_0_15 hx, xm_0_2 hx, xm_0_9 hx, xm_40_0 hx, xm_40_1 hx, xm_41_0 hx, xm_44_0 hx, xm_44_1 hx, xm_73_4 hx, xm_73_5 hx, xm_73_6 hx, xm_77_1 hx, xm_77_2 hx, xm_77_3 hx, xm_77_4 hx, xm_77_5 hx, xm_77_6 hx, xm_77_7 hx, xm_77_8 hx, xm_77_9 hx, xm_87_2 hx, xm_87_3 hx, xm_87_4 hx, xm_87_5 hx, xm_87_6 hx, xm_87_7 hx, xm_87_8 hx, xm_lw2 hx hb, xm_lw3 hx hb, xm_lw4 hx hb, xm_lw5 hx hb, xm_st1 hx hb, xm_st10 hx hb, xm_st11 hx hb, xm_st13 hx hb, xm_st14 hx hb, xm_st15 hx hb, xm_st16 hx hb, xm_st17 hx hb, xm_st2 hx hb, xm_st4 hx hb, xm_st5 hx hb, xm_st6 hx hb, xm_st7 hx hb, xm_st9 hx hb, xm_wd10 hx hu, xm_wd10 hx hw, xm_wd11 hx hu, xm_wd11 hx hw, xm_wd4 hx hu, xm_wd4 hx hw, xm_wd5 hx hu, xm_wd5 hx hw, xm_wd6 hx hu, xm_wd6 hx hw, xm_wd7 hx hu, xm_wd7 hx hw, xm_wd8 hx hu, xm_wd8 hx hw, xm_wd9 hx hu, xm_wd9 hx hw, ite_self, Bool.false_eq_true, eq_self, isk_t, i20_t, w20_t, l23_t, b21_t, b22_t, w_t, bif_t, bif_f, bif_d, if_pos, if_neg, if_true, if_false, not_true_eq_false, not_false_eq_true, Option.bind_some, Option.toList_some, Option.toList_none, List.cons_append, List.nil_append, Int.toNat_natCast, Int.reduceToNat, up_eq, up_p, up_k, sN,  hbk, c1, g2 ]
      · rw [if_neg c2] at g2
        obtain ⟨ρ2, μ2, k0, k1, k2⟩ := ih (k + 1) ρ1 μ1 h1 (by omega)
        have e3 : am_E (d + 8) 104 53 [some (.inr (.inr 0)), some (.inl t), some (.inl (M : Int)), some (.inl f), some (.inl (k : Int))] [] (SH, ρ, μ, cs) = am_E (d + 8) 104 53 [some (.inr (.inr 0)), some (.inl t), some (.inl (M : Int)), some (.inl f), some (.inl ((k + 1 : Nat) : Int))] [] (SH, ρ1, μ1, cs) := by
          rw [e2]
          rw [e104_53]; simp (disch := omega) only [e104_64, e104_75, hgs, hn5, hn7, xk_0, xk_1, xk_40, xk_41, xk_42, xk_43, xk_44, xk_45, xk_46, xk_47, xk_48, xk_49, xk_50, xk_51, xk_52, xk_53, xk_54, xk_55, xk_56, xk_57, xk_58, xk_59, xk_60, xk_61, xk_62, xk_63, xk_64, xk_65, xk_66, xk_67, xk_68, xk_69, xk_70, xk_71, xk_72, xk_73, xk_74, xk_75, xk_76, xk_77, xk_78, xk_79, xk_80, xk_81, xk_82, xk_83, xk_84, xk_85, xk_86, xk_87, xk_88, xk_89, xk_90, xk_91, xk_92, xk_93, xk_94, xk_95, xk_96, xk_97, xk_98, xk_st0 hb, xk_st1 hb, xk_st10 hb, xk_st11 hb, xk_st12 hb, xk_st13 hb, xk_st14 hb, xk_st15 hb, xk_st16 hb, xk_st17 hb, xk_st18 hb, xk_st2 hb, xk_st3 hb, xk_st4 hb, xk_st5 hb, xk_st6 hb, xk_st7 hb, xk_st8 hb, xk_st9 hb, xk_wd0 hu, xk_wd0 hw, xk_wd1 hu, xk_wd1 hw, xk_wd2 hu, xk_wd2 hw, xk_wd3 hu, xk_wd3 hw, xk_wd4 hu, xk_wd4 hw, xk_wd5 hu, xk_wd5 hw, xk_wd6 hu, xk_wd6 hw, xk_wd7 hu, xk_wd7 hw, xk_wd8 hu, xk_wd8 hw, xm_0_0 hx, xm_0_10 hx, xm_0_11 hx, xm_0_12 hx, xm_0_13 hx, xm_0_14 hx, xm_0_15 hx, xm_0_2 hx, xm_0_9 hx, xm_40_0 hx, xm_40_1 hx, xm_41_0 hx, xm_44_0 hx, xm_44_1 hx, xm_73_4 hx, xm_73_5 hx, xm_73_6 hx, xm_77_1 hx, xm_77_2 hx, xm_77_3 hx, xm_77_4 hx, xm_77_5 hx, xm_77_6 hx, xm_77_7 hx, xm_77_8 hx, xm_77_9 hx, xm_87_2 hx, xm_87_3 hx, xm_87_4 hx, xm_87_5 hx, xm_87_6 hx, xm_87_7 hx, xm_87_8 hx, xm_lw2 hx hb, xm_lw3 hx hb, xm_lw4 hx hb, xm_lw5 hx hb, xm_st1 hx hb, xm_st10 hx hb, xm_st11 hx hb, xm_st13 hx hb, xm_st14 hx hb, xm_st15 hx hb, xm_st16 hx hb, xm_st17 hx hb, xm_st2 hx hb, xm_st4 hx hb, xm_st5 hx hb, xm_st6 hx hb, xm_st7 hx hb, xm_st9 hx hb, xm_wd10 hx hu, xm_wd10 hx hw, xm_wd11 hx hu, xm_wd11 hx hw, xm_wd4 hx hu, xm_wd4 hx hw, xm_wd5 hx hu, xm_wd5 hx hw, xm_wd6 hx hu, xm_wd6 hx hw, xm_wd7 hx hu, xm_wd7 hx hw, xm_wd8 hx hu, xm_wd8 hx hw, xm_wd9 hx hu, xm_wd9 hx hw, ite_self, Bool.false_eq_true, eq_self, isk_t, i20_t, w20_t, l23_t, b21_t, b22_t, w_t, bif_t, bif_f, bif_d, if_pos, if_neg, if_true, if_false, not_true_eq_false, not_false_eq_true, Option.bind_some, Option.toList_some, Option.toList_none, List.cons_append, List.nil_append, Int.toNat_natCast, Int.reduceToNat, up_eq, up_p, up_k, sN,  hbk, c1, g2 ]
        refine ⟨ρ2, μ2, frr_tr g0 k0, fra_tr g1 k1, ?_⟩
        rw [e3]
        rcases k2 with ⟨s, a1, a2, a3, a4, a5, a6⟩ | ⟨a1, a2⟩
        · exact Or.inl ⟨s, by omega, a2, a3, a4, fun s' h0 h1 => by
            by_cases e : s' = k
            · subst e; exact fun g => c2 g.2
            · exact a5 s' (by omega) h1, a6⟩
        · exact Or.inr ⟨fun s' h0 h1 => by
            by_cases e : s' = k
            · subst e; exact fun g => c2 g.2
            · exact a1 s' (by omega) h1, a2⟩
    · obtain ⟨ρ2, μ2, k0, k1, k2⟩ := ih (k + 1) ρ μ h (by omega)
      obtain ⟨hx, hρ, hb, hgs, hw46, hu64, hSR, hS, hX, hWR, hWI, hW, hday, h49, h51, h53⟩ := h; have hw : w = 46 ∨ w = 55 ∨ w = 64 := Or.inl hw46; have hu : u = 46 ∨ u = 55 ∨ u = 64 := Or.inr (Or.inr hu64); have hn5 := (xm_0_5 hx).trans hw46.symm; have hn7 := (xm_0_7 hx).trans hu64.symm; have b0 := hS.1; have b1 := hS.2.1
      have e3 : am_E (d + 8) 104 53 [some (.inr (.inr 0)), some (.inl t), some (.inl (M : Int)), some (.inl f), some (.inl (k : Int))] [] (SH, ρ, μ, cs) = am_E (d + 8) 104 53 [some (.inr (.inr 0)), some (.inl t), some (.inl (M : Int)), some (.inl f), some (.inl ((k + 1 : Nat) : Int))] [] (SH, ρ, μ, cs) := by
        rw [e2]
        rw [e104_53]; simp (disch := omega) only [e104_64, hgs, hn5, hn7, xk_0, xk_1, xk_40, xk_41, xk_42, xk_43, xk_44, xk_45, xk_46, xk_47, xk_48, xk_49, xk_50, xk_51, xk_52, xk_53, xk_54, xk_55, xk_56, xk_57, xk_58, xk_59, xk_60, xk_61, xk_62, xk_63, xk_64, xk_65, xk_66, xk_67, xk_68, xk_69, xk_70, xk_71, xk_72, xk_73, xk_74, xk_75, xk_76, xk_77, xk_78, xk_79, xk_80, xk_81, xk_82, xk_83, xk_84, xk_85, xk_86, xk_87, xk_88, xk_89, xk_90, xk_91, xk_92, xk_93, xk_94, xk_95, xk_96, xk_97, xk_98, xk_st0 hb, xk_st1 hb, xk_st10 hb, xk_st11 hb, xk_st12 hb, xk_st13 hb, xk_st14 hb, xk_st15 hb, xk_st16 hb, xk_st17 hb, xk_st18 hb, xk_st2 hb, xk_st3 hb, xk_st4 hb, xk_st5 hb, xk_st6 hb, xk_st7 hb, xk_st8 hb, xk_st9 hb, xk_wd0 hu, xk_wd0 hw, xk_wd1 hu, xk_wd1 hw, xk_wd2 hu, xk_wd2 hw, xk_wd3 hu, xk_wd3 hw, xk_wd4 hu, xk_wd4 hw, xk_wd5 hu, xk_wd5 hw, xk_wd6 hu, xk_wd6 hw, xk_wd7 hu, xk_wd7 hw, xk_wd8 hu, xk_wd8 hw, xm_0_0 hx, xm_0_10 hx, xm_0_11 hx, xm_0_12 hx, xm_0_13 hx, xm_0_14 hx, xm_0_15 hx, xm_0_2 hx, xm_0_9 hx, xm_40_0 hx, xm_40_1 hx, xm_41_0 hx, xm_44_0 hx, xm_44_1 hx, xm_73_4 hx, xm_73_5 hx, xm_73_6 hx, xm_77_1 hx, xm_77_2 hx, xm_77_3 hx, xm_77_4 hx, xm_77_5 hx, xm_77_6 hx, xm_77_7 hx, xm_77_8 hx, xm_77_9 hx, xm_87_2 hx, xm_87_3 hx, xm_87_4 hx, xm_87_5 hx, xm_87_6 hx, xm_87_7 hx, xm_87_8 hx, xm_lw2 hx hb, xm_lw3 hx hb, xm_lw4 hx hb, xm_lw5 hx hb, xm_st1 hx hb, xm_st10 hx hb, xm_st11 hx hb, xm_st13 hx hb, xm_st14 hx hb, xm_st15 hx hb, xm_st16 hx hb, xm_st17 hx hb, xm_st2 hx hb, xm_st4 hx hb, xm_st5 hx hb, xm_st6 hx hb, xm_st7 hx hb, xm_st9 hx hb, xm_wd10 hx hu, xm_wd10 hx hw, xm_wd11 hx hu, xm_wd11 hx hw, xm_wd4 hx hu, xm_wd4 hx hw, xm_wd5 hx hu, xm_wd5 hx hw, xm_wd6 hx hu, xm_wd6 hx hw, xm_wd7 hx hu, xm_wd7 hx hw, xm_wd8 hx hu, xm_wd8 hx hw, xm_wd9 hx hu, xm_wd9 hx hw, ite_self, Bool.false_eq_true, eq_self, isk_t, i20_t, w20_t, l23_t, b21_t, b22_t, w_t, bif_t, bif_f, bif_d, if_pos, if_neg, if_true, if_false, not_true_eq_false, not_false_eq_true, Option.bind_some, Option.toList_some, Option.toList_none, List.cons_append, List.nil_append, Int.toNat_natCast, Int.reduceToNat, up_eq, up_p, up_k, sN,  hbk, c1 ]
      refine ⟨ρ2, μ2, k0, k1, ?_⟩
      rw [e3]
      rcases k2 with ⟨s, a1, a2, a3, a4, a5, a6⟩ | ⟨a1, a2⟩
      · exact Or.inl ⟨s, by omega, a2, a3, a4, fun s' h0 h1 => by
          by_cases e : s' = k
          · subst e; exact fun g => c1 g.1
          · exact a5 s' (by omega) h1, a6⟩
      · exact Or.inr ⟨fun s' h0 h1 => by
          by_cases e : s' = k
          · subst e; exact fun g => c1 g.1
          · exact a1 s' (by omega) h1, a2⟩
theorem X_hush_out {t : Int} (hG : GC S C (kG S)) (t0 : 0 ≤ t) (t1 : t < S 0 1) (hn : W 4 0 t = -2) : ∀ (n : Nat) (f : Int) (ρ : Nat → Nat → Nat) (μ : Nat → Nat → Int), RLq ρ μ b w u S W → 0 ≤ f → f + n = S 0 0 → (∀ s, s < 2 ^ men S - 1 → popN s 7 < f → hushH S C W t s = false) → ∃ ρ' μ' r, FrR ρ ρ' ∧ FrA μ μ' ∧ isBest (hushH S C W t) (2 ^ men S) r ∧ am_E (d + 8) 104 39 [some (.inr (.inr 0)), some (.inl t), some (.inl ((2 ^ men S - 1 : Nat) : Int)), some (.inl f), none] [] (SH, ρ, μ, cs) = some (some (.inl (r : Int)), (SH, ρ', μ', cs)) := by
  intro n
  induction n with
  | zero =>
    intro f ρ μ h f0 hf hp
    obtain ⟨hx, hρ, hb, hgs, hw46, hu64, hSR, hS, hX, hWR, hWI, hW, hday, h49, h51, h53⟩ := h; have hw : w = 46 ∨ w = 55 ∨ w = 64 := Or.inl hw46; have hu : u = 46 ∨ u = 55 ∨ u = 64 := Or.inr (Or.inr hu64); have hn5 := (xm_0_5 hx).trans hw46.symm; have hn7 := (xm_0_7 hx).trans hu64.symm; have b0 := hS.1; have b1 := hS.2.1
    have h2 := two_men hS
    have hN := hX.1.1
    have hm7 : men S ≤ 7 := by unfold men; omega
    have hmf : (men S : Int) = f := by unfold men; omega
    have hpa := pop_all (men S) hm7
    have hpos : 0 < 2 ^ men S := Nat.pow_pos (by decide)
    refine ⟨ρ, μ, 2 ^ men S - 1, frr_rf ρ, fra_rf μ, ⟨by omega, decide_eq_true (hush_all hS 60 W hn), fun s hs hh => ?_⟩, ?_⟩
    · by_cases e : s = 2 ^ men S - 1
      · right; rw [e]; exact ⟨rfl, Nat.le_refl _⟩
      · have hlt := pop_prop (m := men S) (s := s) (by omega) hm7
        have := hp s (by omega) (by omega)
        rw [this] at hh
        cases hh
    · rw [e104_39]; simp (disch := omega) only [hgs, hn5, hn7, xk_0, xk_1, xk_40, xk_41, xk_42, xk_43, xk_44, xk_45, xk_46, xk_47, xk_48, xk_49, xk_50, xk_51, xk_52, xk_53, xk_54, xk_55, xk_56, xk_57, xk_58, xk_59, xk_60, xk_61, xk_62, xk_63, xk_64, xk_65, xk_66, xk_67, xk_68, xk_69, xk_70, xk_71, xk_72, xk_73, xk_74, xk_75, xk_76, xk_77, xk_78, xk_79, xk_80, xk_81, xk_82, xk_83, xk_84, xk_85, xk_86, xk_87, xk_88, xk_89, xk_90, xk_91, xk_92, xk_93, xk_94, xk_95, xk_96, xk_97, xk_98, xk_st0 hb, xk_st1 hb, xk_st10 hb, xk_st11 hb, xk_st12 hb, xk_st13 hb, xk_st14 hb, xk_st15 hb, xk_st16 hb, xk_st17 hb, xk_st18 hb, xk_st2 hb, xk_st3 hb, xk_st4 hb, xk_st5 hb, xk_st6 hb, xk_st7 hb, xk_st8 hb, xk_st9 hb, xk_wd0 hu, xk_wd0 hw, xk_wd1 hu, xk_wd1 hw, xk_wd2 hu, xk_wd2 hw, xk_wd3 hu, xk_wd3 hw, xk_wd4 hu, xk_wd4 hw, xk_wd5 hu, xk_wd5 hw, xk_wd6 hu, xk_wd6 hw, xk_wd7 hu, xk_wd7 hw, xk_wd8 hu, xk_wd8 hw, xm_0_0 hx, xm_0_10 hx, xm_0_11 hx, xm_0_12 hx, xm_0_13 hx, xm_0_14 hx, xm_0_15 hx, xm_0_2 hx, xm_0_9 hx, xm_40_0 hx, xm_40_1 hx, xm_41_0 hx, xm_44_0 hx, xm_44_1 hx, xm_73_4 hx, xm_73_5 hx, xm_73_6 hx, xm_77_1 hx, xm_77_2 hx, xm_77_3 hx, xm_77_4 hx, xm_77_5 hx, xm_77_6 hx, xm_77_7 hx, xm_77_8 hx, xm_77_9 hx, xm_87_2 hx, xm_87_3 hx, xm_87_4 hx, xm_87_5 hx, xm_87_6 hx, xm_87_7 hx, xm_87_8 hx, xm_lw2 hx hb, xm_lw3 hx hb, xm_lw4 hx hb, xm_lw5 hx hb, xm_st1 hx hb, xm_st10 hx hb, xm_st11 hx hb, xm_st13 hx hb, xm_st14 hx hb, xm_st15 hx hb, xm_st16 hx hb, xm_st17 hx hb, xm_st2 hx hb, xm_st4 hx hb, xm_st5 hx hb, xm_st6 hx hb, xm_st7 hx hb, xm_st9 hx hb, xm_wd10 hx hu, xm_wd10 hx hw, xm_wd11 hx hu, xm_wd11 hx hw, xm_wd4 hx hu, xm_wd4 hx hw, xm_wd5 hx hu, xm_wd5 hx hw, xm_wd6 hx hu, xm_wd6 hx hw, xm_wd7 hx hu, xm_wd7 hx hw, xm_wd8 hx hu, xm_wd8 hx hw, xm_wd9 hx hu, xm_wd9 hx hw, ite_self, Bool.false_eq_true, eq_self, isk_t, i20_t, w20_t, l23_t, b21_t, b22_t, w_t, bif_t, bif_f, bif_d, if_pos, if_neg, if_true, if_false, not_true_eq_false, not_false_eq_true, Option.bind_some, Option.toList_some, Option.toList_none, List.cons_append, List.nil_append, Int.toNat_natCast, Int.reduceToNat, up_eq, up_p, up_k, sN,  hN ]
  | succ n ih =>
    intro f ρ μ h f0 hf hp
    have h0 := h
    obtain ⟨hx, hρ, hb, hgs, hw46, hu64, hSR, hS, hX, hWR, hWI, hW, hday, h49, h51, h53⟩ := h; have hw : w = 46 ∨ w = 55 ∨ w = 64 := Or.inl hw46; have hu : u = 46 ∨ u = 55 ∨ u = 64 := Or.inr (Or.inr hu64); have hn5 := (xm_0_5 hx).trans hw46.symm; have hn7 := (xm_0_7 hx).trans hu64.symm; have b0 := hS.1; have b1 := hS.2.1
    have h2 := two_men hS
    have hN := hX.1.1
    have hm7 : men S ≤ 7 := by unfold men; omega
    have hpa := pop_all (men S) hm7
    have hpos : 0 < 2 ^ men S := Nat.pow_pos (by decide)
    obtain ⟨ρ1, μ1, g0, g1, g2⟩ := X_hush_in (cs := cs) (d := d) (b := b) (w := w) (u := u) (W := W) (t := t) (f := f) (M := 2 ^ men S - 1) (by omega) hG t0 t1 (2 ^ men S - 1) 0 ρ μ h0 (by omega)
    have ez : ((0 : Nat) : Int) = 0 := rfl
    rw [ez] at g2
    have e1 : am_E (d + 8) 104 39 [some (.inr (.inr 0)), some (.inl t), some (.inl ((2 ^ men S - 1 : Nat) : Int)), some (.inl f), none] [] (SH, ρ, μ, cs) = am_E (d + 8) 104 53 [some (.inr (.inr 0)), some (.inl t), some (.inl ((2 ^ men S - 1 : Nat) : Int)), some (.inl f), some (.inl 0)] [] (SH, ρ, μ, cs) := by
      rw [e104_39]; simp (disch := omega) only [hgs, hn5, hn7, xk_0, xk_1, xk_40, xk_41, xk_42, xk_43, xk_44, xk_45, xk_46, xk_47, xk_48, xk_49, xk_50, xk_51, xk_52, xk_53, xk_54, xk_55, xk_56, xk_57, xk_58, xk_59, xk_60, xk_61, xk_62, xk_63, xk_64, xk_65, xk_66, xk_67, xk_68, xk_69, xk_70, xk_71, xk_72, xk_73, xk_74, xk_75, xk_76, xk_77, xk_78, xk_79, xk_80, xk_81, xk_82, xk_83, xk_84, xk_85, xk_86, xk_87, xk_88, xk_89, xk_90, xk_91, xk_92, xk_93, xk_94, xk_95, xk_96, xk_97, xk_98, xk_st0 hb, xk_st1 hb, xk_st10 hb, xk_st11 hb, xk_st12 hb, xk_st13 hb, xk_st14 hb, xk_st15 hb, xk_st16 hb, xk_st17 hb, xk_st18 hb, xk_st2 hb, xk_st3 hb, xk_st4 hb, xk_st5 hb, xk_st6 hb, xk_st7 hb, xk_st8 hb, xk_st9 hb, xk_wd0 hu, xk_wd0 hw, xk_wd1 hu, xk_wd1 hw, xk_wd2 hu, xk_wd2 hw, xk_wd3 hu, xk_wd3 hw, xk_wd4 hu, xk_wd4 hw, xk_wd5 hu, xk_wd5 hw, xk_wd6 hu, xk_wd6 hw, xk_wd7 hu, xk_wd7 hw, xk_wd8 hu, xk_wd8 hw, xm_0_0 hx, xm_0_10 hx, xm_0_11 hx, xm_0_12 hx, xm_0_13 hx, xm_0_14 hx, xm_0_15 hx, xm_0_2 hx, xm_0_9 hx, xm_40_0 hx, xm_40_1 hx, xm_41_0 hx, xm_44_0 hx, xm_44_1 hx, xm_73_4 hx, xm_73_5 hx, xm_73_6 hx, xm_77_1 hx, xm_77_2 hx, xm_77_3 hx, xm_77_4 hx, xm_77_5 hx, xm_77_6 hx, xm_77_7 hx, xm_77_8 hx, xm_77_9 hx, xm_87_2 hx, xm_87_3 hx, xm_87_4 hx, xm_87_5 hx, xm_87_6 hx, xm_87_7 hx, xm_87_8 hx, xm_lw2 hx hb, xm_lw3 hx hb, xm_lw4 hx hb, xm_lw5 hx hb, xm_st1 hx hb, xm_st10 hx hb, xm_st11 hx hb, xm_st13 hx hb, xm_st14 hx hb, xm_st15 hx hb, xm_st16 hx hb, xm_st17 hx hb, xm_st2 hx hb, xm_st4 hx hb, xm_st5 hx hb, xm_st6 hx hb, xm_st7 hx hb, xm_st9 hx hb, xm_wd10 hx hu, xm_wd10 hx hw, xm_wd11 hx hu, xm_wd11 hx hw, xm_wd4 hx hu, xm_wd4 hx hw, xm_wd5 hx hu, xm_wd5 hx hw, xm_wd6 hx hu, xm_wd6 hx hw, xm_wd7 hx hu, xm_wd7 hx hw, xm_wd8 hx hu, xm_wd8 hx hw, xm_wd9 hx hu, xm_wd9 hx hw, ite_self, Bool.false_eq_true, eq_self, isk_t, i20_t, w20_t, l23_t, b21_t, b22_t, w_t, bif_t, bif_f, bif_d, if_pos, if_neg, if_true, if_false, not_true_eq_false, not_false_eq_true, Option.bind_some, Option.toList_some, Option.toList_none, List.cons_append, List.nil_append, Int.toNat_natCast, Int.reduceToNat, up_eq, up_p, up_k, sN,  hN ]
    rcases g2 with ⟨s, a1, a2, a3, a4, a5, a6⟩ | ⟨a1, a2⟩
    · refine ⟨ρ1, μ1, s, g0, g1, ⟨by omega, a4, fun s' hs hh => ?_⟩, ?_⟩
      · have hs1 := pop_prop (m := men S) (s := s) a2 hm7
        by_cases e : s' = 2 ^ men S - 1
        · left; rw [e, hpa.1]; omega
        · have hs2 := pop_prop (m := men S) (s := s') (by omega) hm7
          by_cases c : popN s' 7 < f
          · have := hp s' (by omega) c
            rw [this] at hh
            cases hh
          · by_cases c2 : popN s' 7 = f
            · right
              refine ⟨by omega, ?_⟩
              by_cases c3 : s' < s
              · exact absurd ⟨c2, hh⟩ (a5 s' (by omega) c3)
              · omega
            · left; omega
      · rw [e1, a6]
    · obtain ⟨ρ2, μ2, r, k0, k1, k2, k3⟩ := ih (f + 1) ρ1 μ1 (rl_q h0 g0 (frq_a g1)) (by omega) (by omega) (fun s hs hf2 => by
        by_cases c : popN s 7 < f
        · exact hp s hs c
        · by_cases cH : hushH S C W t s = true
          · exact absurd ⟨by omega, cH⟩ (a1 s (by omega) hs)
          · simpa using cH)
      refine ⟨ρ2, μ2, r, frr_tr g0 k0, fra_tr g1 k1, k2, ?_⟩
      rw [e1, a2, w_t (by omega) (by omega)]
      exact am_E_le (am_lq_of _ _ (by simp [am_leb])) k3
theorem X_hush (h : RLq ρ μ b w u S W) {t : Int} : ∃ ρ' μ', FrR ρ ρ' ∧ FrY μ μ' ∧ am_E (d + 8) 104 0 [some (.inr (.inr 0)), some (.inl t), none, none, none] [] (SH, ρ, μ, cs) = some (some (.inl (hushA S (CR μ 0) W t)), (SH, ρ', μ', cs)) := by
  have hG := (cr_gc h).1
  have h0 := h
  obtain ⟨hx, hρ, hb, hgs, hw46, hu64, hSR, hS, hX, hWR, hWI, hW, hday, h49, h51, h53⟩ := h; have hw : w = 46 ∨ w = 55 ∨ w = 64 := Or.inl hw46; have hu : u = 46 ∨ u = 55 ∨ u = 64 := Or.inr (Or.inr hu64); have hn5 := (xm_0_5 hx).trans hw46.symm; have hn7 := (xm_0_7 hx).trans hu64.symm; have b0 := hS.1; have b1 := hS.2.1
  have hN := hX.1.1
  have h2 := two_men hS
  have hpos : 0 < 2 ^ men S := Nat.pow_pos (by decide)
  unfold hushA
  by_cases c : 0 ≤ t ∧ t < S 0 1
  · rw [if_pos c]
    have en := xw_news hW (t := t) c.1 (by omega)
    have bn := (hWI.2.2.2.2.1 t c.1 (by omega)).1
    by_cases c2 : W 4 0 t = -2
    · rw [if_pos c2]
      obtain ⟨ρ1, μ1, r, g0, g1, g2, g3⟩ := X_hush_out (cs := cs) (d := d) (b := b) (w := w) (u := u) (W := W) (C := CR μ 0) (t := t) hG c.1 c.2 c2 (men S) 0 ρ μ h0 (by omega) (by unfold men; omega) (fun s hs hp => by have := popN_le s 7; omega)
      refine ⟨ρ1, μ1, g0, fry_a g1, ?_⟩
      rw [best_eq g2, ← g3]
      have ec : ((2 ^ men S : Nat) : Int) - 1 = ((2 ^ men S - 1 : Nat) : Int) := by omega
      generalize 2 ^ men S - 1 = M at ec ⊢
      generalize 2 ^ men S = N at ec h2 hpos
      simp (disch := omega) only [e104_0, e104_5, hgs, hn5, hn7, xk_0, xk_1, xk_40, xk_41, xk_42, xk_43, xk_44, xk_45, xk_46, xk_47, xk_48, xk_49, xk_50, xk_51, xk_52, xk_53, xk_54, xk_55, xk_56, xk_57, xk_58, xk_59, xk_60, xk_61, xk_62, xk_63, xk_64, xk_65, xk_66, xk_67, xk_68, xk_69, xk_70, xk_71, xk_72, xk_73, xk_74, xk_75, xk_76, xk_77, xk_78, xk_79, xk_80, xk_81, xk_82, xk_83, xk_84, xk_85, xk_86, xk_87, xk_88, xk_89, xk_90, xk_91, xk_92, xk_93, xk_94, xk_95, xk_96, xk_97, xk_98, xk_st0 hb, xk_st1 hb, xk_st10 hb, xk_st11 hb, xk_st12 hb, xk_st13 hb, xk_st14 hb, xk_st15 hb, xk_st16 hb, xk_st17 hb, xk_st18 hb, xk_st2 hb, xk_st3 hb, xk_st4 hb, xk_st5 hb, xk_st6 hb, xk_st7 hb, xk_st8 hb, xk_st9 hb, xk_wd0 hu, xk_wd0 hw, xk_wd1 hu, xk_wd1 hw, xk_wd2 hu, xk_wd2 hw, xk_wd3 hu, xk_wd3 hw, xk_wd4 hu, xk_wd4 hw, xk_wd5 hu, xk_wd5 hw, xk_wd6 hu, xk_wd6 hw, xk_wd7 hu, xk_wd7 hw, xk_wd8 hu, xk_wd8 hw, xm_0_0 hx, xm_0_10 hx, xm_0_11 hx, xm_0_12 hx, xm_0_13 hx, xm_0_14 hx, xm_0_15 hx, xm_0_2 hx, xm_0_9 hx, xm_40_0 hx, xm_40_1 hx, xm_41_0 hx, xm_44_0 hx, xm_44_1 hx, xm_73_4 hx, xm_73_5 hx, xm_73_6 hx, xm_77_1 hx, xm_77_2 hx, xm_77_3 hx, xm_77_4 hx, xm_77_5 hx, xm_77_6 hx, xm_77_7 hx, xm_77_8 hx, xm_77_9 hx, xm_87_2 hx, xm_87_3 hx, xm_87_4 hx, xm_87_5 hx, xm_87_6 hx, xm_87_7 hx, xm_87_8 hx, xm_lw2 hx hb, xm_lw3 hx hb, xm_lw4 hx hb, xm_lw5 hx hb, xm_st1 hx hb, xm_st10 hx hb, xm_st11 hx hb, xm_st13 hx hb, xm_st14 hx hb, xm_st15 hx hb, xm_st16 hx hb, xm_st17 hx hb, xm_st2 hx hb, xm_st4 hx hb, xm_st5 hx hb, xm_st6 hx hb, xm_st7 hx hb, xm_st9 hx hb, xm_wd10 hx hu, xm_wd10 hx hw, xm_wd11 hx hu, xm_wd11 hx hw, xm_wd4 hx hu, xm_wd4 hx hw, xm_wd5 hx hu, xm_wd5 hx hw, xm_wd6 hx hu, xm_wd6 hx hw, xm_wd7 hx hu, xm_wd7 hx hw, xm_wd8 hx hu, xm_wd8 hx hw, xm_wd9 hx hu, xm_wd9 hx hw, ite_self, Bool.false_eq_true, eq_self, isk_t, i20_t, w20_t, l23_t, b21_t, b22_t, w_t, bif_t, bif_f, bif_d, if_pos, if_neg, if_true, if_false, not_true_eq_false, not_false_eq_true, Option.bind_some, Option.toList_some, Option.toList_none, List.cons_append, List.nil_append, Int.toNat_natCast, Int.reduceToNat, up_eq, up_p, up_k, sN,  X_isMan hx hb hgs hX, X_isThing hx hb hgs hX, en, hN, h2.2, ec ]
    · rw [if_neg c2]
      refine ⟨ρ, μ, frr_rf ρ, fry_rf μ, ?_⟩
      simp (disch := omega) only [e104_0, e104_5, hgs, hn5, hn7, xk_0, xk_1, xk_40, xk_41, xk_42, xk_43, xk_44, xk_45, xk_46, xk_47, xk_48, xk_49, xk_50, xk_51, xk_52, xk_53, xk_54, xk_55, xk_56, xk_57, xk_58, xk_59, xk_60, xk_61, xk_62, xk_63, xk_64, xk_65, xk_66, xk_67, xk_68, xk_69, xk_70, xk_71, xk_72, xk_73, xk_74, xk_75, xk_76, xk_77, xk_78, xk_79, xk_80, xk_81, xk_82, xk_83, xk_84, xk_85, xk_86, xk_87, xk_88, xk_89, xk_90, xk_91, xk_92, xk_93, xk_94, xk_95, xk_96, xk_97, xk_98, xk_st0 hb, xk_st1 hb, xk_st10 hb, xk_st11 hb, xk_st12 hb, xk_st13 hb, xk_st14 hb, xk_st15 hb, xk_st16 hb, xk_st17 hb, xk_st18 hb, xk_st2 hb, xk_st3 hb, xk_st4 hb, xk_st5 hb, xk_st6 hb, xk_st7 hb, xk_st8 hb, xk_st9 hb, xk_wd0 hu, xk_wd0 hw, xk_wd1 hu, xk_wd1 hw, xk_wd2 hu, xk_wd2 hw, xk_wd3 hu, xk_wd3 hw, xk_wd4 hu, xk_wd4 hw, xk_wd5 hu, xk_wd5 hw, xk_wd6 hu, xk_wd6 hw, xk_wd7 hu, xk_wd7 hw, xk_wd8 hu, xk_wd8 hw, xm_0_0 hx, xm_0_10 hx, xm_0_11 hx, xm_0_12 hx, xm_0_13 hx, xm_0_14 hx, xm_0_15 hx, xm_0_2 hx, xm_0_9 hx, xm_40_0 hx, xm_40_1 hx, xm_41_0 hx, xm_44_0 hx, xm_44_1 hx, xm_73_4 hx, xm_73_5 hx, xm_73_6 hx, xm_77_1 hx, xm_77_2 hx, xm_77_3 hx, xm_77_4 hx, xm_77_5 hx, xm_77_6 hx, xm_77_7 hx, xm_77_8 hx, xm_77_9 hx, xm_87_2 hx, xm_87_3 hx, xm_87_4 hx, xm_87_5 hx, xm_87_6 hx, xm_87_7 hx, xm_87_8 hx, xm_lw2 hx hb, xm_lw3 hx hb, xm_lw4 hx hb, xm_lw5 hx hb, xm_st1 hx hb, xm_st10 hx hb, xm_st11 hx hb, xm_st13 hx hb, xm_st14 hx hb, xm_st15 hx hb, xm_st16 hx hb, xm_st17 hx hb, xm_st2 hx hb, xm_st4 hx hb, xm_st5 hx hb, xm_st6 hx hb, xm_st7 hx hb, xm_st9 hx hb, xm_wd10 hx hu, xm_wd10 hx hw, xm_wd11 hx hu, xm_wd11 hx hw, xm_wd4 hx hu, xm_wd4 hx hw, xm_wd5 hx hu, xm_wd5 hx hw, xm_wd6 hx hu, xm_wd6 hx hw, xm_wd7 hx hu, xm_wd7 hx hw, xm_wd8 hx hu, xm_wd8 hx hw, xm_wd9 hx hu, xm_wd9 hx hw, ite_self, Bool.false_eq_true, eq_self, isk_t, i20_t, w20_t, l23_t, b21_t, b22_t, w_t, bif_t, bif_f, bif_d, if_pos, if_neg, if_true, if_false, not_true_eq_false, not_false_eq_true, Option.bind_some, Option.toList_some, Option.toList_none, List.cons_append, List.nil_append, Int.toNat_natCast, Int.reduceToNat, up_eq, up_p, up_k, sN,  X_isMan hx hb hgs hX, X_isThing hx hb hgs hX, en ]
  · rw [if_neg c]
    refine ⟨ρ, μ, frr_rf ρ, fry_rf μ, ?_⟩
    simp (disch := omega) only [e104_0, e104_5, hgs, hn5, hn7, xk_0, xk_1, xk_40, xk_41, xk_42, xk_43, xk_44, xk_45, xk_46, xk_47, xk_48, xk_49, xk_50, xk_51, xk_52, xk_53, xk_54, xk_55, xk_56, xk_57, xk_58, xk_59, xk_60, xk_61, xk_62, xk_63, xk_64, xk_65, xk_66, xk_67, xk_68, xk_69, xk_70, xk_71, xk_72, xk_73, xk_74, xk_75, xk_76, xk_77, xk_78, xk_79, xk_80, xk_81, xk_82, xk_83, xk_84, xk_85, xk_86, xk_87, xk_88, xk_89, xk_90, xk_91, xk_92, xk_93, xk_94, xk_95, xk_96, xk_97, xk_98, xk_st0 hb, xk_st1 hb, xk_st10 hb, xk_st11 hb, xk_st12 hb, xk_st13 hb, xk_st14 hb, xk_st15 hb, xk_st16 hb, xk_st17 hb, xk_st18 hb, xk_st2 hb, xk_st3 hb, xk_st4 hb, xk_st5 hb, xk_st6 hb, xk_st7 hb, xk_st8 hb, xk_st9 hb, xk_wd0 hu, xk_wd0 hw, xk_wd1 hu, xk_wd1 hw, xk_wd2 hu, xk_wd2 hw, xk_wd3 hu, xk_wd3 hw, xk_wd4 hu, xk_wd4 hw, xk_wd5 hu, xk_wd5 hw, xk_wd6 hu, xk_wd6 hw, xk_wd7 hu, xk_wd7 hw, xk_wd8 hu, xk_wd8 hw, xm_0_0 hx, xm_0_10 hx, xm_0_11 hx, xm_0_12 hx, xm_0_13 hx, xm_0_14 hx, xm_0_15 hx, xm_0_2 hx, xm_0_9 hx, xm_40_0 hx, xm_40_1 hx, xm_41_0 hx, xm_44_0 hx, xm_44_1 hx, xm_73_4 hx, xm_73_5 hx, xm_73_6 hx, xm_77_1 hx, xm_77_2 hx, xm_77_3 hx, xm_77_4 hx, xm_77_5 hx, xm_77_6 hx, xm_77_7 hx, xm_77_8 hx, xm_77_9 hx, xm_87_2 hx, xm_87_3 hx, xm_87_4 hx, xm_87_5 hx, xm_87_6 hx, xm_87_7 hx, xm_87_8 hx, xm_lw2 hx hb, xm_lw3 hx hb, xm_lw4 hx hb, xm_lw5 hx hb, xm_st1 hx hb, xm_st10 hx hb, xm_st11 hx hb, xm_st13 hx hb, xm_st14 hx hb, xm_st15 hx hb, xm_st16 hx hb, xm_st17 hx hb, xm_st2 hx hb, xm_st4 hx hb, xm_st5 hx hb, xm_st6 hx hb, xm_st7 hx hb, xm_st9 hx hb, xm_wd10 hx hu, xm_wd10 hx hw, xm_wd11 hx hu, xm_wd11 hx hw, xm_wd4 hx hu, xm_wd4 hx hw, xm_wd5 hx hu, xm_wd5 hx hw, xm_wd6 hx hu, xm_wd6 hx hw, xm_wd7 hx hu, xm_wd7 hx hw, xm_wd8 hx hu, xm_wd8 hx hw, xm_wd9 hx hu, xm_wd9 hx hw, ite_self, Bool.false_eq_true, eq_self, isk_t, i20_t, w20_t, l23_t, b21_t, b22_t, w_t, bif_t, bif_f, bif_d, if_pos, if_neg, if_true, if_false, not_true_eq_false, not_false_eq_true, Option.bind_some, Option.toList_some, Option.toList_none, List.cons_append, List.nil_append, Int.toNat_natCast, Int.reduceToNat, up_eq, up_p, up_k, sN,  X_isMan hx hb hgs hX, X_isThing hx hb hgs hX ]
end QV
