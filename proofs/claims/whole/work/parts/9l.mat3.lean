/-! MATCH: the reference's whole -/
section MV
variable {ρ : Nat → Nat → Nat} {μ : Nat → Nat → Int} {cs : Nat × Nat × Nat} {d b w u : Nat} {S : MS} {W V : MW} {C : MC}
theorem R_suit_out {x1 : Int} {T : Nat} (hT : (T : Int) = S 0 1) (hC : CI S C) : ∀ (n t : Nat) (μ : Nat → Nat → Int), RLq ρ μ b w u S W → CR μ 0 = C → t + n = T → (∀ i, i < t → μ 131 i = ((wbF S C W i : Nat) : Int)) → ∃ μ1, (∀ q k, ¬ FrS q k → ¬ (q = 131) → μ1 q k = μ q k) ∧ (∀ i, i < T → μ1 131 i = ((wbF S C W i : Nat) : Int)) ∧ ∀ res, am_E (d + 6) 233 19 [some (.inr (.inr 99)), some (.inl x1), some (.inl (T : Int)), none, none] [] (SH, ρ, μ1, cs) = some res → am_E (d + 6) 233 19 [some (.inr (.inr 99)), some (.inl x1), some (.inl (t : Int)), none, none] [] (SH, ρ, μ, cs) = some res := by
  intro n
  induction n with
  | zero =>
    intro t μ h hCR ht hv
    have ht' : t = T := by omega
    subst ht'
    exact ⟨μ, fun _ _ _ _ => rfl, hv, fun res hr => hr⟩
  | succ n ih =>
    intro t μ h hCR ht hv
    have hR1 : RLq ρ (am_up μ 131 t 0) b w u S W := rl_q h (frr_rf ρ) (frq_up (frq_rf μ) (by omega))
    obtain ⟨μ1, f1, f2, f3, f4⟩ := R_suit_in (cs := cs) (d := d) (x1 := x1) (t := t) (by omega) hC (men S) 0 (am_up μ 131 t 0) hR1 (by rw [← hCR]; exact CR_ext (hR1.2.2.2.2.2.2.1.trans h.2.2.2.2.2.2.1.symm) (fun k a0 a1 => up_p (by omega)) 0) (by omega) (up_eq ..)
    have fr : ∀ q k, ¬ FrS q k → ¬ (q = 131 ∧ k = t) → μ1 q k = μ q k := fun q k a0 a1 => by rw [f1 q k a0 a1, am_up_no a1]
    have hR2 : RLq ρ μ1 b w u S W := rl_q h (frr_rf ρ) (fun q k hq => fr q k (by omega) (by omega))
    obtain ⟨μ2, k1, k2, k3⟩ := ih (t + 1) μ1 hR2 f2 (by omega) (fun i hi => by
      by_cases e : i = t
      · subst e; exact f3
      · rw [fr _ _ (by omega) (by omega)]; exact hv i (by omega))
    refine ⟨μ2, fun q k a0 a1 => by rw [k1 q k a0 a1, fr q k a0 (by omega)], k2, fun res hr => ?_⟩
    have e1 : ((t + 1 : Nat) : Int) = (t : Int) + 1 := by omega
    have j := k3 res hr
    rw [e1] at j
    have j2 := f4 res j
    have e0 : ((0 : Nat) : Int) = 0 := rfl
    rw [e0] at j2
    rw [← j2]
    clear j j2 k3 f4 ih hr
    obtain ⟨hx, hρ, hb, hgs, hw46, hu64, hSR, hS, hX, hWR, hWI, hW, hday, h49, h51, h53⟩ := h; have hw : w = 46 ∨ w = 55 ∨ w = 64 := Or.inl hw46; have hu : u = 46 ∨ u = 55 ∨ u = 64 := Or.inr (Or.inr hu64); have hn5 := (xm_0_5 hx).trans hw46.symm; have hn7 := (xm_0_7 hx).trans hu64.symm; have b0 := hS.1; have b1 := hS.2.1
    have s1 := hS.2.1
    have hn : μ 101 1 = (T : Int) := by rw [show μ 101 1 = SR μ 0 1 from rfl, hSR]; exact hT.symm
    rw [e233_19]; simp (disch := (first | omega | (simp (disch := omega) only [sr_up, wr_up_o]; omega))) only [ks_101, ks_131, ks_99, rm_number hρ, rm_wouldBe hρ, ite_self, Bool.false_eq_true, eq_self, isk_t, i20_t, w20_t, l23_t, b21_t, b22_t, w_t, bif_t, bif_f, bif_d, if_pos, if_neg, if_true, if_false, not_true_eq_false, not_false_eq_true, Option.bind_some, Option.toList_some, Option.toList_none, List.cons_append, List.nil_append, Int.toNat_natCast, Int.reduceToNat, up_eq, up_p, up_k, sN,  hn ]
theorem R_match (h : RLq ρ μ b w u S W) {q : Int} : ∃ μ', FrQ μ μ' ∧ am_E (d + 20) 233 0 [some (.inr (.inr 99)), some (.inl q), none, none, none] [] (SH, ρ, μ, cs) = some (some (.inl (matV S (CR μ 0) W q)), (SH, ρ, μ', cs)) := by
  have h0 := h
  have hG := (cr_gc h).1
  unfold matV
  by_cases c : 0 ≤ q ∧ q ≤ 6
  rotate_left
  · rw [if_neg c]
    obtain ⟨hx, hρ, hb, hgs, hw46, hu64, hSR, hS, hX, hWR, hWI, hW, hday, h49, h51, h53⟩ := h; have hw : w = 46 ∨ w = 55 ∨ w = 64 := Or.inl hw46; have hu : u = 46 ∨ u = 55 ∨ u = 64 := Or.inr (Or.inr hu64); have hn5 := (xm_0_5 hx).trans hw46.symm; have hn7 := (xm_0_7 hx).trans hu64.symm; have b0 := hS.1; have b1 := hS.2.1
    refine ⟨am_up μ 99 0 0, frq_t0 μ 0, ?_⟩
    by_cases c1 : q < 0
    · simp (disch := (first | omega | (simp (disch := omega) only [sr_up, wr_up_o]; omega))) only [e233_0, ks_99, ite_self, Bool.false_eq_true, eq_self, isk_t, i20_t, w20_t, l23_t, b21_t, b22_t, w_t, bif_t, bif_f, bif_d, if_pos, if_neg, if_true, if_false, not_true_eq_false, not_false_eq_true, Option.bind_some, Option.toList_some, Option.toList_none, List.cons_append, List.nil_append, Int.toNat_natCast, Int.reduceToNat, up_eq, up_p, up_k, sN]
    · simp (disch := (first | omega | (simp (disch := omega) only [sr_up, wr_up_o]; omega))) only [e233_0, ks_99, ite_self, Bool.false_eq_true, eq_self, isk_t, i20_t, w20_t, l23_t, b21_t, b22_t, w_t, bif_t, bif_f, bif_d, if_pos, if_neg, if_true, if_false, not_true_eq_false, not_false_eq_true, Option.bind_some, Option.toList_some, Option.toList_none, List.cons_append, List.nil_append, Int.toNat_natCast, Int.reduceToNat, up_eq, up_p, up_k, sN]
  rw [if_pos c]
  have hR1 : RLq ρ (am_up μ 99 0 0) b w u S W := rl_q h (frr_rf ρ) (frq_t0 μ 0)
  obtain ⟨hx, hρ, hb, hgs, hw46, hu64, hSR, hS, hX, hWR, hWI, hW, hday, h49, h51, h53⟩ := h; have hw : w = 46 ∨ w = 55 ∨ w = 64 := Or.inl hw46; have hu : u = 46 ∨ u = 55 ∨ u = 64 := Or.inr (Or.inr hu64); have hn5 := (xm_0_5 hx).trans hw46.symm; have hn7 := (xm_0_7 hx).trans hu64.symm; have b0 := hS.1; have b1 := hS.2.1
  have s1 := hS.2.1
  have hml := men_le hS
  have hC : CI S (CR μ 0) := gc_ci hS hG
  obtain ⟨T, hT⟩ : ∃ T : Nat, S 0 1 = (T : Int) := ⟨(S 0 1).toNat, by omega⟩
  have eT : (S 0 1).toNat = T := by omega
  rw [eT]
  obtain ⟨μ1, f1, f2, f3⟩ := R_suit_out (cs := cs) (d := d + 14) (x1 := q) (C := CR μ 0) (T := T) hT.symm hC T 0 (am_up μ 99 0 0) hR1 (CR_ext (hR1.2.2.2.2.2.2.1.trans hSR.symm) (fun k a0 a1 => up_k (by omega)) 0) (by omega) (fun i hi => by omega)
  have z0 : μ1 101 0 = ((men S : Nat) : Int) := by rw [f1 _ _ (by omega) (by omega), up_p (by omega), show μ 101 0 = SR μ 0 0 from rfl, hSR]; exact hml.2.symm
  have z1 : μ1 101 1 = (T : Int) := by rw [f1 _ _ (by omega) (by omega), up_p (by omega), show μ 101 1 = SR μ 0 1 from rfl, hSR]; exact hT
  generalize hwb : wbF S (CR μ 0) W = wb at f2 ⊢
  have hw7 : ∀ t, wb t < 128 := fun t => by rw [← hwb]; exact bnt_l7 _ hml.1
  have hwM : ∀ t x, men S ≤ x → (wb t).testBit x = false := fun t x hx => by rw [← hwb]; exact wbF_M t x hx
  obtain ⟨μ2, ⟨g1, g2⟩, g3⟩ := R_matches (cs := cs) (d := d + (18 - T)) (T := T) (M := men S) hρ (by omega) hml.1 hwM hw7 T 0 (by omega) 0 0 (-1) (am_up μ1 99 57 (-1)) (by omega) (by omega) (by omega) (by rw [up_p (by omega)]; exact z0) (by rw [up_p (by omega)]; exact z1) (fun i hi => by rw [up_p (by omega), f2 i hi]) (up_eq ..)
  rw [show d + (18 - T) + 1 + T = d + 19 by omega] at g3
  rcases g2 with ⟨k1, k2, k3⟩ | ⟨k1, k2, k3⟩
  rotate_left
  · exfalso; omega
  have y1 : μ2 101 1 = (T : Int) := by rw [g1 _ _ (by omega) (by omega) (by omega), up_p (by omega)]; exact z1
  have e0 : ((0 : Nat) : Int) = 0 := rfl
  rw [e0] at g3 f3
  have j : am_E (d + 20) 233 19 [some (.inr (.inr 99)), some (.inl q), some (.inl (T : Int)), none, none] [] (SH, ρ, μ1, cs) = some (some (.inl (if q = 6 then ((gM wb T 0 0 : Nat) : Int) else if q < S 0 1 then chM wb T 0 0 q.toNat else -2)), (SH, ρ, μ2, cs)) := by
    clear f3 f2 hwb hwM hw7
    rw [hT]
    by_cases c6 : q = 6
    · subst c6
      rw [if_pos rfl]
      rw [Int.zero_add] at k2
      rw [e233_19]; simp (disch := (first | omega | (simp (disch := omega) only [sr_up, wr_up_o]; omega))) only [e233_136, ks_101, ks_131, ks_133, ks_99, rm_matchBest hρ, rm_number hρ, rm_wouldBe hρ, ite_self, Bool.false_eq_true, eq_self, isk_t, i20_t, w20_t, l23_t, b21_t, b22_t, w_t, bif_t, bif_f, bif_d, if_pos, if_neg, if_true, if_false, not_true_eq_false, not_false_eq_true, Option.bind_some, Option.toList_some, Option.toList_none, List.cons_append, List.nil_append, Int.toNat_natCast, Int.reduceToNat, up_eq, up_p, up_k, sN,  z1, g3, k2 ]
    · rw [if_neg c6]
      by_cases c7 : q < (T : Int)
      · rw [if_pos c7]
        have k4 := k3 q.toNat (by omega)
        rw [if_neg (by omega)] at k4
        rw [e233_19]; simp (disch := (first | omega | (simp (disch := omega) only [sr_up, wr_up_o]; omega))) only [e233_136, ks_101, ks_131, ks_133, ks_99, rm_matchBest hρ, rm_number hρ, rm_wouldBe hρ, ite_self, Bool.false_eq_true, eq_self, isk_t, i20_t, w20_t, l23_t, b21_t, b22_t, w_t, bif_t, bif_f, bif_d, if_pos, if_neg, if_true, if_false, not_true_eq_false, not_false_eq_true, Option.bind_some, Option.toList_some, Option.toList_none, List.cons_append, List.nil_append, Int.toNat_natCast, Int.reduceToNat, up_eq, up_p, up_k, sN,  z1, g3, y1, k4 ]
      · rw [if_neg c7]
        rw [e233_19]; simp (disch := (first | omega | (simp (disch := omega) only [sr_up, wr_up_o]; omega))) only [e233_136, ks_101, ks_131, ks_133, ks_99, rm_matchBest hρ, rm_number hρ, rm_wouldBe hρ, ite_self, Bool.false_eq_true, eq_self, isk_t, i20_t, w20_t, l23_t, b21_t, b22_t, w_t, bif_t, bif_f, bif_d, if_pos, if_neg, if_true, if_false, not_true_eq_false, not_false_eq_true, Option.bind_some, Option.toList_some, Option.toList_none, List.cons_append, List.nil_append, Int.toNat_natCast, Int.reduceToNat, up_eq, up_p, up_k, sN,  z1, g3, y1 ]
  refine ⟨μ2, fun q' k hq => ?_, ?_⟩
  · rw [g1 q' k (by omega) (by omega) (by omega), am_up_no (by omega), f1 q' k (by omega) (by omega), am_up_no (by omega)]
  · rw [← f3 _ j]
    rw [e233_0]; simp (disch := (first | omega | (simp (disch := omega) only [sr_up, wr_up_o]; omega))) only [ks_99, ite_self, Bool.false_eq_true, eq_self, isk_t, i20_t, w20_t, l23_t, b21_t, b22_t, w_t, bif_t, bif_f, bif_d, if_pos, if_neg, if_true, if_false, not_true_eq_false, not_false_eq_true, Option.bind_some, Option.toList_some, Option.toList_none, List.cons_append, List.nil_append, Int.toNat_natCast, Int.reduceToNat, up_eq, up_p, up_k, sN]
end MV
