/-! MATCH: who would be whose; the reference's whole -/
def suit (S : MS) (C : MC) (W : MW) (t m : Nat) : Bool := decide ((t : Int) < S 0 1 ∧ W 4 0 t = -2 ∧ W 5 m t ≠ -1 ∧ W 8 m t = -2 ∧ ffit S C W m t (men S) 0 ≠ -1)
def wbF (S : MS) (C : MC) (W : MW) (t : Nat) : Nat := bnt (suit S C W t) (men S)
def matV (S : MS) (C : MC) (W : MW) (q : Int) : Int := if 0 ≤ q ∧ q ≤ 6 then (if q = 6 then ((gM (wbF S C W) (S 0 1).toNat 0 0 : Nat) : Int) else if q < S 0 1 then chM (wbF S C W) (S 0 1).toNat 0 0 q.toNat else -2) else -1
theorem wbF_M {S : MS} {C : MC} {W : MW} (t x : Nat) (h : men S ≤ x) : (wbF S C W t).testBit x = false := by
  unfold wbF
  rw [bnt_bit]
  simp [Nat.not_lt.mpr h]
theorem bnt_l7 {F : Nat → Bool} : ∀ n, n ≤ 7 → bnt F n < 128
  | 0, _ => by show 0 < 128; omega
  | n + 1, h => by
    show (if F n = true then bnt F n ||| 2 ^ n else bnt F n) < 128
    split
    · exact Nat.or_lt_two_pow (n := 7) (bnt_l7 n (by omega)) (Nat.pow_lt_pow_right (by decide) (by omega))
    · exact bnt_l7 n (by omega)
section MU
variable {ρ : Nat → Nat → Nat} {μ : Nat → Nat → Int} {cs : Nat × Nat × Nat} {d b w u : Nat} {S : MS} {W V : MW} {C : MC}
theorem men_le (hS : SI S) : men S ≤ 7 ∧ ((men S : Nat) : Int) = S 0 0 := by
  have := hS.1
  unfold men
  omega
theorem R_suit_in {x1 : Int} {t : Nat} (ht : (t : Int) < S 0 1) (hC : CI S C) : ∀ (n m : Nat) (μ : Nat → Nat → Int), RLq ρ μ b w u S W → CR μ 0 = C → m + n = men S → μ 131 t = ((bnt (suit S C W t) m : Nat) : Int) → ∃ μ1, (∀ q k, ¬ FrS q k → ¬ (q = 131 ∧ k = t) → μ1 q k = μ q k) ∧ CR μ1 0 = C ∧ μ1 131 t = ((wbF S C W t : Nat) : Int) ∧ ∀ res, am_E (d + 6) 233 19 [some (.inr (.inr 99)), some (.inl x1), some (.inl ((t : Int) + 1)), none, none] [] (SH, ρ, μ1, cs) = some res → am_E (d + 6) 233 38 [some (.inr (.inr 99)), some (.inl x1), some (.inl (t : Int)), some (.inl (m : Int)), none] [] (SH, ρ, μ, cs) = some res := by
  intro n
  induction n with
  | zero =>
    intro m μ h hCR hm hv
    obtain ⟨hx, hρ, hb, hgs, hw46, hu64, hSR, hS, hX, hWR, hWI, hW, hday, h49, h51, h53⟩ := h; have hw : w = 46 ∨ w = 55 ∨ w = 64 := Or.inl hw46; have hu : u = 46 ∨ u = 55 ∨ u = 64 := Or.inr (Or.inr hu64); have hn5 := (xm_0_5 hx).trans hw46.symm; have hn7 := (xm_0_7 hx).trans hu64.symm; have b0 := hS.1; have b1 := hS.2.1
    have hm' : m = men S := by omega
    subst hm'
    have hn : μ 101 0 = ((men S : Nat) : Int) := by rw [show μ 101 0 = SR μ 0 0 from rfl, hSR]; exact (men_le hS).2.symm
    refine ⟨μ, fun _ _ _ _ => rfl, hCR, hv, fun res hr => ?_⟩
    rw [e233_38]; simp (disch := (first | omega | (simp (disch := omega) only [sr_up, wr_up_o]; omega))) only [ks_101, ks_99, rm_number hρ, ite_self, Bool.false_eq_true, eq_self, isk_t, i20_t, w20_t, l23_t, b21_t, b22_t, w_t, bif_t, bif_f, bif_d, if_pos, if_neg, if_true, if_false, not_true_eq_false, not_false_eq_true, Option.bind_some, Option.toList_some, Option.toList_none, List.cons_append, List.nil_append, Int.toNat_natCast, Int.reduceToNat, up_eq, up_p, up_k, sN,  hn ]
    exact am_E_le (am_lq_of _ _ (by simp [am_leb])) hr
  | succ n ih =>
    intro m μ h hCR hm hv
    have h0 := h
    obtain ⟨hx, hρ, hb, hgs, hw46, hu64, hSR, hS, hX, hWR, hWI, hW, hday, h49, h51, h53⟩ := h; have hw : w = 46 ∨ w = 55 ∨ w = 64 := Or.inl hw46; have hu : u = 46 ∨ u = 55 ∨ u = 64 := Or.inr (Or.inr hu64); have hn5 := (xm_0_5 hx).trans hw46.symm; have hn7 := (xm_0_7 hx).trans hu64.symm; have b0 := hS.1; have b1 := hS.2.1
    have s1 := hS.2.1
    have hml := men_le hS
    have hn : μ 101 0 = S 0 0 := by rw [show μ 101 0 = SR μ 0 0 from rfl, hSR]
    have e1 : ((m + 1 : Nat) : Int) = (m : Int) + 1 := by omega
    have eB : bnt (suit S C W t) (m + 1) = if suit S C W t m = true then bnt (suit S C W t) m ||| 2 ^ m else bnt (suit S C W t) m := rfl
    by_cases c0 : W 4 0 t = -2 ∧ W 5 m t ≠ -1 ∧ W 8 m t = -2
    · obtain ⟨μ1, g1, g2⟩ := R_firstFit (ρ := ρ) (cs := cs) (d := d) (b := 0) (s := 0) (p := (m : Int)) (t := (t : Int)) (D := 10000) hρ (by omega) (by omega) (by omega) (by omega) (by omega) (by omega) hS hC (by omega) hWI hSR hCR hWR
      have hR1 : RLq ρ μ1 b w u S W := rl_q h0 (frr_rf ρ) (frq_n g1)
      have hCR1 : CR μ1 0 = C := by rw [← hCR]; exact CR_ext (hR1.2.2.2.2.2.2.1.trans hSR.symm) (fun k a0 a1 => g1 99 k (by omega)) 0
      have hv1 : μ1 131 t = ((bnt (suit S C W t) m : Nat) : Int) := by rw [g1 _ _ (by omega)]; exact hv
      by_cases c1 : ffit S C W m t (men S) 0 = -1
      · have es : suit S C W t m = false := decide_eq_false (fun g => g.2.2.2.2 c1)
        rw [es, if_neg (by simp)] at eB
        obtain ⟨μ2, k1, k2, k3, k4⟩ := ih (m + 1) μ1 hR1 hCR1 (by omega) (by rw [eB]; exact hv1)
        refine ⟨μ2, fun q k a0 a1 => by rw [k1 q k a0 a1, g1 q k a0], k2, k3, fun res hr => ?_⟩
        have j := k4 res hr
        rw [e1] at j
        rw [c1] at g2
        clear k4 ih hr
        rw [e233_38]; simp (disch := (first | omega | (simp (disch := omega) only [sr_up, wr_up_o]; omega))) only [e233_54, e233_64, e233_74, e233_96, ks_101, ks_131, ks_99, rm_number hρ, rm_wouldBe hρ, ite_self, Bool.false_eq_true, eq_self, isk_t, i20_t, w20_t, l23_t, b21_t, b22_t, w_t, bif_t, bif_f, bif_d, if_pos, if_neg, if_true, if_false, not_true_eq_false, not_false_eq_true, Option.bind_some, Option.toList_some, Option.toList_none, List.cons_append, List.nil_append, Int.toNat_natCast, Int.reduceToNat, up_eq, up_p, up_k, sN,  hn, R_isNews hρ, R_doesHave hρ, R_isPrinted hρ, hWR, c0.1, c0.2.1, c0.2.2, g2 ]
        exact am_E_le (am_lq_of _ _ (by simp [am_leb])) j
      · have es : suit S C W t m = true := decide_eq_true ⟨ht, c0.1, c0.2.1, c0.2.2, c1⟩
        rw [if_pos es] at eB
        have hz := bnt_l7 (F := suit S C W t) m (by omega)
        have e4 : am_or ((bnt (suit S C W t) m : Nat) : Int) (am_shl 1 (m : Int)) = ((bnt (suit S C W t) m ||| 2 ^ m : Nat) : Int) := by
          have := ib_or1 (a := bnt (suit S C W t) m) (k := (m : Int)) (by omega) (by omega) (by omega)
          rw [Int.toNat_natCast] at this
          exact this
        have hR2 : RLq ρ (am_up μ1 131 t ((bnt (suit S C W t) (m + 1) : Nat) : Int)) b w u S W := rl_q hR1 (frr_rf ρ) (frq_up (frq_rf μ1) (by omega))
        obtain ⟨μ2, k1, k2, k3, k4⟩ := ih (m + 1) (am_up μ1 131 t ((bnt (suit S C W t) (m + 1) : Nat) : Int)) hR2 (by rw [← hCR1]; exact CR_ext (hR2.2.2.2.2.2.2.1.trans hR1.2.2.2.2.2.2.1.symm) (fun k a0 a1 => up_p (by omega)) 0) (by omega) (up_eq ..)
        refine ⟨μ2, fun q k a0 a1 => by rw [k1 q k a0 a1, am_up_no a1, g1 q k a0], k2, k3, fun res hr => ?_⟩
        have j := k4 res hr
        rw [e1, eB] at j
        clear k4 ih hr eB
        have hf : ¬ ffit S C W m t (men S) 0 = -1 := c1
        generalize ffit S C W m t (men S) 0 = y at g2 hf
        generalize bnt (suit S C W t) m = z at hv1 e4 j
        rw [e233_38]; simp (disch := (first | omega | (simp (disch := omega) only [sr_up, wr_up_o]; omega))) only [e233_54, e233_64, e233_74, e233_96, ks_101, ks_131, ks_99, rm_number hρ, rm_wouldBe hρ, ite_self, Bool.false_eq_true, eq_self, isk_t, i20_t, w20_t, l23_t, b21_t, b22_t, w_t, bif_t, bif_f, bif_d, if_pos, if_neg, if_true, if_false, not_true_eq_false, not_false_eq_true, Option.bind_some, Option.toList_some, Option.toList_none, List.cons_append, List.nil_append, Int.toNat_natCast, Int.reduceToNat, up_eq, up_p, up_k, sN,  hn, R_isNews hρ, R_doesHave hρ, R_isPrinted hρ, hWR, c0.1, c0.2.1, c0.2.2, g2, hv1, e4 ]
        exact am_E_le (am_lq_of _ _ (by simp [am_leb])) j
    · have es : suit S C W t m = false := decide_eq_false (fun g => c0 ⟨g.2.1, g.2.2.1, g.2.2.2.1⟩)
      rw [es, if_neg (by simp)] at eB
      obtain ⟨μ2, k1, k2, k3, k4⟩ := ih (m + 1) μ h0 hCR (by omega) (by rw [eB]; exact hv)
      refine ⟨μ2, k1, k2, k3, fun res hr => ?_⟩
      have j := k4 res hr
      rw [e1] at j
      clear k4 ih hr
      by_cases c1 : W 4 0 t = -2
      · by_cases c2 : W 5 m t = -1
        · rw [e233_38]; simp (disch := (first | omega | (simp (disch := omega) only [sr_up, wr_up_o]; omega))) only [e233_54, e233_64, ks_101, ks_99, rm_number hρ, ite_self, Bool.false_eq_true, eq_self, isk_t, i20_t, w20_t, l23_t, b21_t, b22_t, w_t, bif_t, bif_f, bif_d, if_pos, if_neg, if_true, if_false, not_true_eq_false, not_false_eq_true, Option.bind_some, Option.toList_some, Option.toList_none, List.cons_append, List.nil_append, Int.toNat_natCast, Int.reduceToNat, up_eq, up_p, up_k, sN,  hn, R_isNews hρ, R_doesHave hρ, hWR, c1, c2 ]
          exact am_E_le (am_lq_of _ _ (by simp [am_leb])) j
        · have c3 : ¬ W 8 m t = -2 := fun g => c0 ⟨c1, c2, g⟩
          rw [e233_38]; simp (disch := (first | omega | (simp (disch := omega) only [sr_up, wr_up_o]; omega))) only [e233_54, e233_64, e233_74, ks_101, ks_99, rm_number hρ, ite_self, Bool.false_eq_true, eq_self, isk_t, i20_t, w20_t, l23_t, b21_t, b22_t, w_t, bif_t, bif_f, bif_d, if_pos, if_neg, if_true, if_false, not_true_eq_false, not_false_eq_true, Option.bind_some, Option.toList_some, Option.toList_none, List.cons_append, List.nil_append, Int.toNat_natCast, Int.reduceToNat, up_eq, up_p, up_k, sN,  hn, R_isNews hρ, R_doesHave hρ, R_isPrinted hρ, hWR, c1, c2, c3 ]
          exact am_E_le (am_lq_of _ _ (by simp [am_leb])) j
      · rw [e233_38]; simp (disch := (first | omega | (simp (disch := omega) only [sr_up, wr_up_o]; omega))) only [e233_54, ks_101, ks_99, rm_number hρ, ite_self, Bool.false_eq_true, eq_self, isk_t, i20_t, w20_t, l23_t, b21_t, b22_t, w_t, bif_t, bif_f, bif_d, if_pos, if_neg, if_true, if_false, not_true_eq_false, not_false_eq_true, Option.bind_some, Option.toList_some, Option.toList_none, List.cons_append, List.nil_append, Int.toNat_natCast, Int.reduceToNat, up_eq, up_p, up_k, sN,  hn, R_isNews hρ, hWR, c1 ]
        exact am_E_le (am_lq_of _ _ (by simp [am_leb])) j
end MU
