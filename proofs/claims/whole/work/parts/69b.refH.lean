/-! THE REFERENCE: a day goes by -/
theorem seeK_0 {S : MS} {t : Int} : ∀ (n : Nat) (k : Int) (W : MW), seeK S t n k W 0 0 0 = W 0 0 0
  | 0, _, _ => rfl
  | n + 1, k, W => by
    show seeK S t n (k + 1) (if S 7 k = t then seeStep S W (S 6 k) t else W) 0 0 0 = _
    rw [seeK_0 n (k + 1)]
    split
    · unfold seeStep
      split
      · rw [gain_o (by omega)]
      · rfl
    · rfl
section REF
variable {ρ : Nat → Nat → Nat} {cs : Nat × Nat × Nat} {d : Nat}
theorem R_see_in (hρ : RM ρ) {s t b : Int} {S : MS} (hs0 : 0 ≤ s) (hs : s < 23) (ht0 : 0 ≤ t) (ht : t < S 0 1) (hS : SI S) : ∀ (j : Nat) (k : Int) (W : MW) (μ : Nat → Nat → Int), SR μ = S → WR μ s = W → 0 ≤ k → k + j = S 0 2 → ∃ μ1, FrW s μ μ1 ∧ WR μ1 s = seeK S t j k W ∧ am_E (d + 7) 206 15 [some (.inr (.inr 99)), some (.inl s), some (.inl b), some (.inl t), some (.inl k)] [] (SH, ρ, μ, cs) = am_E (d + 7) 206 2 [some (.inr (.inr 99)), some (.inl s), some (.inl b), some (.inl (t + 1)), some (.inl (S 0 2))] [] (SH, ρ, μ1, cs) := by
  intro j
  have b1 := hS.2.1
  induction j with
  | zero =>
    intro k W μ h1 h3 hk0 hk
    have hN : μ 101 2 = S 0 2 := by rw [← h1]; rfl
    have e : k = S 0 2 := by omega
    refine ⟨μ, frw_rf s μ, h3, ?_⟩
    rw [e206_15]; simp (disch := (first | omega | (simp (disch := omega) only [sr_up, wr_up_o]; omega))) only [ks_101, ks_105, ks_107, ks_108, ks_121, ks_99, rm_day hρ, rm_number hρ, rm_seesWhat hρ, rm_seesWho hρ, rm_thingDay hρ, Bool.false_eq_true, eq_self, isk_t, i20_t, w20_t, l23_t, b21_t, b22_t, w_t, bif_t, bif_f, bif_d, if_pos, if_neg, if_true, if_false, not_true_eq_false, not_false_eq_true, Option.bind_some, Option.toList_some, Option.toList_none, List.cons_append, List.nil_append, Int.toNat_natCast, Int.reduceToNat, up_eq, up_p, up_k, sN,  hN ]
    rw [e]
  | succ j ih =>
    intro k W μ h1 h3 hk0 hk
    have hN : μ 101 2 = S 0 2 := by rw [← h1]; rfl
    have bk := hS.2.2.2.2.2.2.2.2.2.2.2.2.1 k hk0 (by omega)
    have b0 := hS.1
    have b2 := hS.2.2.1
    have e4 : μ 105 t.toNat = S 4 t := by rw [← h1]; rfl
    have e5 : μ 106 t.toNat = S 5 t := by rw [← h1]; rfl
    have e6 : μ 107 k.toNat = S 6 k := by rw [← h1]; rfl
    have e7 : μ 108 k.toNat = S 7 k := by rw [← h1]; rfl
    have e0 : μ 121 s.toNat = W 0 0 0 := by rw [wr_day μ s, h3]
    have el : seeK S t (j + 1) k W = seeK S t j (k + 1) (if S 7 k = t then seeStep S W (S 6 k) t else W) := rfl
    rw [el]
    by_cases q1 : S 4 t = W 0 0 0
    · by_cases q2 : S 7 k = t
      · by_cases q3 : W 5 (S 6 k) t = -1
        · have es : (if S 7 k = t then seeStep S W (S 6 k) t else W) = gain W (S 6 k) t (S 5 t) (-2) := by
            rw [if_pos q2]; unfold seeStep; rw [if_pos ⟨q1, q3⟩]
          rw [es]
          obtain ⟨μ1, g1, g2, g3⟩ := ih (k + 1) (gain W (S 6 k) t (S 5 t) (-2)) (am_up (am_up (am_up μ 125 (sI s (S 6 k) t) (S 5 t)) 126 (sI s (S 6 k) t) (W 0 0 0)) 127 (sI s (S 6 k) t) (-2)) (by rw [sr_up (by omega), sr_up (by omega), sr_up (by omega)]; exact h1) (by
            rw [wr_up_from hs0 ht0 (by omega) bk.1.1 (by omega), wr_up_since hs0 ht0 (by omega) bk.1.1 (by omega), wr_up_hats hs0 ht0 (by omega) bk.1.1 (by omega), h3]
            rfl) (by omega) (by omega)
          refine ⟨μ1, frw_tr ?_ g1, g2, ?_⟩
          · refine frw_up (frw_up (frw_up (frw_rf s μ) ?_) ?_) ?_ <;> (left; right; right; unfold sI; omega)
          · rw [← g3]
            rw [e206_15]; simp (disch := (first | omega | (simp (disch := omega) only [sr_up, wr_up_o]; omega))) only [e206_65, e206_87, e206_110, e206_133, ks_101, ks_105, ks_106, ks_107, ks_108, ks_121, ks_125, ks_126, ks_127, ks_99, rm_day hρ, rm_fromOf hρ, rm_hatsOf hρ, rm_number hρ, rm_seesWhat hρ, rm_seesWho hρ, rm_sinceOf hρ, rm_thingDay hρ, rm_thingHats hρ, Bool.false_eq_true, eq_self, isk_t, i20_t, w20_t, l23_t, b21_t, b22_t, w_t, bif_t, bif_f, bif_d, if_pos, if_neg, if_true, if_false, not_true_eq_false, not_false_eq_true, Option.bind_some, Option.toList_some, Option.toList_none, List.cons_append, List.nil_append, Int.toNat_natCast, Int.reduceToNat, up_eq, up_p, up_k, sN,  hN, e4, e5, e6, e7, e0, q1, q2, R_doesHave hρ, h3, q3, R_slot, w20_s, ks_125, ks_126, ks_127 ]
        · have es : (if S 7 k = t then seeStep S W (S 6 k) t else W) = W := by
            rw [if_pos q2]; unfold seeStep; rw [if_neg (fun g => q3 g.2)]
          rw [es]
          obtain ⟨μ1, g1, g2, g3⟩ := ih (k + 1) W μ h1 h3 (by omega) (by omega)
          refine ⟨μ1, g1, g2, ?_⟩
          rw [← g3]
          rw [e206_15]; simp (disch := (first | omega | (simp (disch := omega) only [sr_up, wr_up_o]; omega))) only [e206_65, ks_101, ks_105, ks_107, ks_108, ks_121, ks_125, ks_99, rm_day hρ, rm_hatsOf hρ, rm_number hρ, rm_seesWhat hρ, rm_seesWho hρ, rm_thingDay hρ, Bool.false_eq_true, eq_self, isk_t, i20_t, w20_t, l23_t, b21_t, b22_t, w_t, bif_t, bif_f, bif_d, if_pos, if_neg, if_true, if_false, not_true_eq_false, not_false_eq_true, Option.bind_some, Option.toList_some, Option.toList_none, List.cons_append, List.nil_append, Int.toNat_natCast, Int.reduceToNat, up_eq, up_p, up_k, sN,  hN, e4, e6, e7, e0, q1, q2, R_doesHave hρ, h3, q3 ]
      · rw [if_neg q2]
        obtain ⟨μ1, g1, g2, g3⟩ := ih (k + 1) W μ h1 h3 (by omega) (by omega)
        refine ⟨μ1, g1, g2, ?_⟩
        rw [← g3]
        rw [e206_15]; simp (disch := (first | omega | (simp (disch := omega) only [sr_up, wr_up_o]; omega))) only [ks_101, ks_105, ks_107, ks_108, ks_121, ks_99, rm_day hρ, rm_number hρ, rm_seesWhat hρ, rm_seesWho hρ, rm_thingDay hρ, Bool.false_eq_true, eq_self, isk_t, i20_t, w20_t, l23_t, b21_t, b22_t, w_t, bif_t, bif_f, bif_d, if_pos, if_neg, if_true, if_false, not_true_eq_false, not_false_eq_true, Option.bind_some, Option.toList_some, Option.toList_none, List.cons_append, List.nil_append, Int.toNat_natCast, Int.reduceToNat, up_eq, up_p, up_k, sN,  hN, e4, e7, e0, q1, q2 ]
    · have es : (if S 7 k = t then seeStep S W (S 6 k) t else W) = W := by
        split
        · unfold seeStep; rw [if_neg (fun g => q1 g.1)]
        · rfl
      rw [es]
      obtain ⟨μ1, g1, g2, g3⟩ := ih (k + 1) W μ h1 h3 (by omega) (by omega)
      refine ⟨μ1, g1, g2, ?_⟩
      rw [← g3]
      rw [e206_15]; simp (disch := (first | omega | (simp (disch := omega) only [sr_up, wr_up_o]; omega))) only [ks_101, ks_105, ks_107, ks_108, ks_121, ks_99, rm_day hρ, rm_number hρ, rm_seesWhat hρ, rm_seesWho hρ, rm_thingDay hρ, Bool.false_eq_true, eq_self, isk_t, i20_t, w20_t, l23_t, b21_t, b22_t, w_t, bif_t, bif_f, bif_d, if_pos, if_neg, if_true, if_false, not_true_eq_false, not_false_eq_true, Option.bind_some, Option.toList_some, Option.toList_none, List.cons_append, List.nil_append, Int.toNat_natCast, Int.reduceToNat, up_eq, up_p, up_k, sN,  hN, e4, e0, q1 ]
theorem R_see_out (hρ : RM ρ) {s b : Int} {S : MS} (hs0 : 0 ≤ s) (hs : s < 23) (hS : SI S) : ∀ (j : Nat) (t : Int) (W : MW) (μ : Nat → Nat → Int), SR μ = S → WR μ s = W → 0 ≤ t → t + j = S 0 1 → ∃ μ1, FrW s μ μ1 ∧ WR μ1 s = seeT S j t W ∧ ∀ r, am_E (d + 7) 206 150 [some (.inr (.inr 99)), some (.inl s), some (.inl b), some (.inl 0), none] [] (SH, ρ, μ1, cs) = some r → am_E (d + 7) 206 2 [some (.inr (.inr 99)), some (.inl s), some (.inl b), some (.inl t), none] [] (SH, ρ, μ, cs) = some r := by
  intro j
  have b1 := hS.2.1
  have b2 := hS.2.2.1
  induction j with
  | zero =>
    intro t W μ h1 h3 ht0 ht
    have hN : μ 101 1 = S 0 1 := by rw [← h1]; rfl
    refine ⟨μ, frw_rf s μ, h3, fun r hr => ?_⟩
    rw [← hr]
    rw [e206_2]; simp (disch := (first | omega | (simp (disch := omega) only [sr_up, wr_up_o]; omega))) only [ks_101, ks_99, rm_number hρ, Bool.false_eq_true, eq_self, isk_t, i20_t, w20_t, l23_t, b21_t, b22_t, w_t, bif_t, bif_f, bif_d, if_pos, if_neg, if_true, if_false, not_true_eq_false, not_false_eq_true, Option.bind_some, Option.toList_some, Option.toList_none, List.cons_append, List.nil_append, Int.toNat_natCast, Int.reduceToNat, up_eq, up_p, up_k, sN,  hN ]
  | succ j ih =>
    intro t W μ h1 h3 ht0 ht
    have hN : μ 101 1 = S 0 1 := by rw [← h1]; rfl
    obtain ⟨μ1, g1, g2, g3⟩ := R_see_in (ρ := ρ) (cs := cs) (d := d) (b := b) hρ hs0 hs ht0 (show t < S 0 1 by omega) hS (S 0 2).toNat 0 W μ h1 h3 (Int.le_refl _) (by omega)
    obtain ⟨μ2, k1, k2, k3⟩ := ih (t + 1) _ μ1 ((frw_SR g1).trans h1) g2 (by omega) (by omega)
    refine ⟨μ2, frw_tr g1 k1, k2, fun r hr => ?_⟩
    have k4 := k3 r hr
    rw [e206_2]; simp (disch := (first | omega | (simp (disch := omega) only [sr_up, wr_up_o]; omega))) only [ks_101, ks_99, rm_number hρ, Bool.false_eq_true, eq_self, isk_t, i20_t, w20_t, l23_t, b21_t, b22_t, w_t, bif_t, bif_f, bif_d, if_pos, if_neg, if_true, if_false, not_true_eq_false, not_false_eq_true, Option.bind_some, Option.toList_some, Option.toList_none, List.cons_append, List.nil_append, Int.toNat_natCast, Int.reduceToNat, up_eq, up_p, up_k, sN,  hN, g3 ]
    exact am_E_le (am_lq_of _ _ (by simp [am_leb])) k4
theorem R_ways (hρ : RM ρ) {s b D : Int} {S : MS} {C : MC} (hs0 : 0 ≤ s) (hs : s < 23) (hS : SI S) (hC : CI S C) (hD : D ≤ 20000) (hA : ∀ t, C.2.2.2.2.2 t = true) : ∀ (j : Nat) (w : Int) (W : MW) (μ : Nat → Nat → Int), WI S D W → SR μ = S → CR μ b = C → WR μ s = W → 0 ≤ μ 99 53 → μ 99 53 < 128 → 0 ≤ w → w + j = S 0 3 → ∃ μ1, FrW s μ μ1 ∧ WR μ1 s = wayA S C j w W ∧ am_E (d + 7) 206 150 [some (.inr (.inr 99)), some (.inl s), some (.inl b), some (.inl w), none] [] (SH, ρ, μ, cs) = am_E (d + 7) 206 175 [some (.inr (.inr 99)), some (.inl s), some (.inl b), some (.inl 0), none] [] (SH, ρ, μ1, cs) := by
  intro j
  have b1 := hS.2.1
  have b2 := hS.2.2.2.1
  induction j with
  | zero =>
    intro w W μ hW h1 h2 h3 hh0 hh hw0 hw
    have hN : μ 101 3 = S 0 3 := by rw [← h1]; rfl
    refine ⟨μ, frw_rf s μ, h3, ?_⟩
    rw [e206_150]; simp (disch := (first | omega | (simp (disch := omega) only [sr_up, wr_up_o]; omega))) only [ks_101, ks_99, rm_number hρ, Bool.false_eq_true, eq_self, isk_t, i20_t, w20_t, l23_t, b21_t, b22_t, w_t, bif_t, bif_f, bif_d, if_pos, if_neg, if_true, if_false, not_true_eq_false, not_false_eq_true, Option.bind_some, Option.toList_some, Option.toList_none, List.cons_append, List.nil_append, Int.toNat_natCast, Int.reduceToNat, up_eq, up_p, up_k, sN,  hN ]
  | succ j ih =>
    intro w W μ hW h1 h2 h3 hh0 hh hw0 hw
    have hN : μ 101 3 = S 0 3 := by rw [← h1]; rfl
    obtain ⟨μ1, g1, g2, g3⟩ := R_talks (ρ := ρ) (cs := cs) (d := d) (b := b) hρ hs0 hs hw0 (show w < S 0 3 by omega) hS hC hD hW hA h1 h2 h3 hh0 hh
    obtain ⟨μ2, k1, k2, k3⟩ := ih (w + 1) _ μ1 (wi_wayL hS hC hw0 (by omega) _ 0 W hW (Int.le_refl _) (by omega)) ((frw_SR g1).trans h1) ((frw_CR g1 b).trans h2) g2 (by rw [g1 99 53 (by omega) (by omega)]; exact hh0) (by rw [g1 99 53 (by omega) (by omega)]; exact hh) (by omega) (by omega)
    refine ⟨μ2, frw_tr g1 k1, k2, ?_⟩
    rw [e206_150]; simp (disch := (first | omega | (simp (disch := omega) only [sr_up, wr_up_o]; omega))) only [e206_167, ks_101, ks_99, rm_number hρ, Bool.false_eq_true, eq_self, isk_t, i20_t, w20_t, l23_t, b21_t, b22_t, w_t, bif_t, bif_f, bif_d, if_pos, if_neg, if_true, if_false, not_true_eq_false, not_false_eq_true, Option.bind_some, Option.toList_some, Option.toList_none, List.cons_append, List.nil_append, Int.toNat_natCast, Int.reduceToNat, up_eq, up_p, up_k, sN,  hN, g3, k3 ]
theorem R_tells_all (hρ : RM ρ) {s b D : Int} {S : MS} {C : MC} (hs0 : 0 ≤ s) (hs : s < 23) (hS : SI S) (hC : CI S C) (hD : D ≤ 20000) (hA : ∀ t, C.2.2.2.2.2 t = true) : ∀ (j : Nat) (l : Int) (W : MW) (μ : Nat → Nat → Int), WI S D W → SR μ = S → CR μ b = C → WR μ s = W → 0 ≤ μ 99 53 → μ 99 53 < 128 → 0 ≤ l → l + j = S 0 4 → W 3 0 0 + j ≤ 12 * D → ∃ μ1, FrW s μ μ1 ∧ WR μ1 s = wp (telA S C j l W) 0 0 0 (W 0 0 0 + 1) ∧ am_E (d + 7) 206 175 [some (.inr (.inr 99)), some (.inl s), some (.inl b), some (.inl l), none] [] (SH, ρ, μ, cs) = some (none, (SH, ρ, μ1, cs)) := by
  intro j
  have b0 := hS.1
  have b1 := hS.2.1
  have b2 := hS.2.2.2.2.1
  induction j with
  | zero =>
    intro l W μ hW h1 h2 h3 hh0 hh hl0 hl hi
    have hN : μ 101 4 = S 0 4 := by rw [← h1]; rfl
    have e0 : μ 121 s.toNat = W 0 0 0 := by rw [wr_day μ s, h3]
    have bd := hW.1
    refine ⟨am_up μ 121 s.toNat (W 0 0 0 + 1), frw_up (frw_rf s μ) (by left; left; omega), by rw [wr_up_day, h3]; rfl, ?_⟩
    rw [e206_175]; simp (disch := (first | omega | (simp (disch := omega) only [sr_up, wr_up_o]; omega))) only [e206_307, ks_101, ks_112, ks_113, ks_114, ks_121, ks_99, rm_day hρ, rm_number hρ, rm_tellDay hρ, rm_tellWhat hρ, rm_tellWho hρ, Bool.false_eq_true, eq_self, isk_t, i20_t, w20_t, l23_t, b21_t, b22_t, w_t, bif_t, bif_f, bif_d, if_pos, if_neg, if_true, if_false, not_true_eq_false, not_false_eq_true, Option.bind_some, Option.toList_some, Option.toList_none, List.cons_append, List.nil_append, Int.toNat_natCast, Int.reduceToNat, up_eq, up_p, up_k, sN,  hN, e0 ]
  | succ j ih =>
    intro l W μ hW h1 h2 h3 hh0 hh hl0 hl hi
    have hN : μ 101 4 = S 0 4 := by rw [← h1]; rfl
    have e0 : μ 121 s.toNat = W 0 0 0 := by rw [wr_day μ s, h3]
    have e3 : μ 124 s.toNat = W 3 0 0 := by rw [wr_idle μ s, h3]
    have e11 : μ 112 l.toNat = S 11 l := by rw [← h1]; rfl
    have e12 : μ 113 l.toNat = S 12 l := by rw [← h1]; rfl
    have e13 : μ 114 l.toNat = S 13 l := by rw [← h1]; rfl
    have bl := hS.2.2.2.2.2.2.2.2.2.2.2.2.2.2.1 l hl0 (by omega)
    have bi := hW.2.2.2.1
    have hWn := wi_telT (C := C) hS hW hl0 (show l < S 0 4 by omega) (by omega)
    have hc5 : C.2.2.2.2.1 (S 11 l) = (μ 99 53).toNat.testBit (S 11 l).toNat := by rw [← h2]; rfl
    have hbit : am_and (am_shr (μ 99 53) (S 11 l)) 1 = if C.2.2.2.2.1 (S 11 l) = true then 1 else 0 := by
      have h := ib_bit (a := (μ 99 53).toNat) (k := S 11 l) (by omega) bl.1.1 (by omega)
      rw [Int.toNat_of_nonneg hh0] at h
      rw [h, hc5]
    have el : telA S C (j + 1) l W = telA S C j (l + 1) (telT S C l W) := rfl
    rw [el]
    have e00 : telT S C l W 0 0 0 = W 0 0 0 := telT_0
    rw [← e00]
    by_cases q1 : S 13 l = W 0 0 0
    · by_cases q2 : C.2.2.2.2.1 (S 11 l) = true
      · have et : telT S C l W = W := by unfold telT; rw [if_neg (fun g => by rw [q2] at g; cases g.2.1)]
        rw [et]
        obtain ⟨μ2, k1, k2, k3⟩ := ih (l + 1) W μ hW h1 h2 h3 hh0 hh (by omega) (by omega) (by omega)
        refine ⟨μ2, k1, k2, ?_⟩
        rw [if_pos q2] at hbit
        rw [e206_175]; simp (disch := (first | omega | (simp (disch := omega) only [sr_up, wr_up_o]; omega))) only [ks_101, ks_112, ks_113, ks_114, ks_121, ks_99, rm_day hρ, rm_number hρ, rm_tellDay hρ, rm_tellWhat hρ, rm_tellWho hρ, Bool.false_eq_true, eq_self, isk_t, i20_t, w20_t, l23_t, b21_t, b22_t, w_t, bif_t, bif_f, bif_d, if_pos, if_neg, if_true, if_false, not_true_eq_false, not_false_eq_true, Option.bind_some, Option.toList_some, Option.toList_none, List.cons_append, List.nil_append, Int.toNat_natCast, Int.reduceToNat, up_eq, up_p, up_k, sN,  hN, e13, e0, q1, e11, hbit, k3 ]
      · have q2' : C.2.2.2.2.1 (S 11 l) = false := by simpa using q2
        rw [if_neg q2] at hbit
        by_cases q3 : W 5 (S 11 l) (S 12 l) = -1
        · have et : telT S C l W = wp W 3 0 0 (W 3 0 0 + 1) := by unfold telT; rw [if_pos ⟨q1, q2', hA _⟩, if_pos (Or.inl q3)]
          rw [et] at hWn ⊢
          have fr : FrW s μ (am_up μ 124 s.toNat (W 3 0 0 + 1)) := frw_up (frw_rf s μ) (by left; left; omega)
          obtain ⟨μ2, k1, k2, k3⟩ := ih (l + 1) _ (am_up μ 124 s.toNat (W 3 0 0 + 1)) hWn.1 ((frw_SR fr).trans h1) ((frw_CR fr b).trans h2) (by rw [wr_up_idle, h3]) (by rw [up_p (by omega)]; exact hh0) (by rw [up_p (by omega)]; exact hh) (by omega) (by omega) (by omega)
          refine ⟨μ2, frw_tr fr k1, k2, ?_⟩
          rw [e206_175]; simp (disch := (first | omega | (simp (disch := omega) only [sr_up, wr_up_o]; omega))) only [e206_237, ks_101, ks_112, ks_113, ks_114, ks_121, ks_124, ks_99, rm_day hρ, rm_idle hρ, rm_number hρ, rm_tellDay hρ, rm_tellWhat hρ, rm_tellWho hρ, Bool.false_eq_true, eq_self, isk_t, i20_t, w20_t, l23_t, b21_t, b22_t, w_t, bif_t, bif_f, bif_d, if_pos, if_neg, if_true, if_false, not_true_eq_false, not_false_eq_true, Option.bind_some, Option.toList_some, Option.toList_none, List.cons_append, List.nil_append, Int.toNat_natCast, Int.reduceToNat, up_eq, up_p, up_k, sN,  hN, e13, e0, q1, e11, e12, hbit, R_doesHave hρ, h3, q3, e3, k3 ]
        · by_cases q4 : W 8 (S 11 l) (S 12 l) = -2
          · have et : telT S C l W = tellW S C W (S 11 l) (S 12 l) := by unfold telT; rw [if_pos ⟨q1, q2', hA _⟩, if_neg (fun g => g.elim q3 (fun g => g q4))]
            rw [et] at hWn ⊢
            obtain ⟨μ1, g1, g2, g3⟩ := R_tells (ρ := ρ) (cs := cs) (d := d) (b := b) hρ hs0 hs bl.1.1 bl.1.2 bl.2.1.1 bl.2.1.2 hS hC hD hW h1 h2 h3
            obtain ⟨μ2, k1, k2, k3⟩ := ih (l + 1) _ μ1 hWn.1 ((frw_SR g1).trans h1) ((frw_CR g1 b).trans h2) g2 (by rw [g1 99 53 (by omega) (by omega)]; exact hh0) (by rw [g1 99 53 (by omega) (by omega)]; exact hh) (by omega) (by omega) (by omega)
            refine ⟨μ2, frw_tr g1 k1, k2, ?_⟩
            rw [e206_175]; simp (disch := (first | omega | (simp (disch := omega) only [sr_up, wr_up_o]; omega))) only [e206_237, e206_257, e206_290, ks_101, ks_112, ks_113, ks_114, ks_121, ks_124, ks_99, rm_day hρ, rm_idle hρ, rm_number hρ, rm_tellDay hρ, rm_tellWhat hρ, rm_tellWho hρ, Bool.false_eq_true, eq_self, isk_t, i20_t, w20_t, l23_t, b21_t, b22_t, w_t, bif_t, bif_f, bif_d, if_pos, if_neg, if_true, if_false, not_true_eq_false, not_false_eq_true, Option.bind_some, Option.toList_some, Option.toList_none, List.cons_append, List.nil_append, Int.toNat_natCast, Int.reduceToNat, up_eq, up_p, up_k, sN,  hN, e13, e0, q1, e11, e12, hbit, R_doesHave hρ, R_isPrinted hρ, h3, q3, q4, g3, k3 ]
          · have et : telT S C l W = wp W 3 0 0 (W 3 0 0 + 1) := by unfold telT; rw [if_pos ⟨q1, q2', hA _⟩, if_pos (Or.inr q4)]
            rw [et] at hWn ⊢
            have fr : FrW s μ (am_up μ 124 s.toNat (W 3 0 0 + 1)) := frw_up (frw_rf s μ) (by left; left; omega)
            obtain ⟨μ2, k1, k2, k3⟩ := ih (l + 1) _ (am_up μ 124 s.toNat (W 3 0 0 + 1)) hWn.1 ((frw_SR fr).trans h1) ((frw_CR fr b).trans h2) (by rw [wr_up_idle, h3]) (by rw [up_p (by omega)]; exact hh0) (by rw [up_p (by omega)]; exact hh) (by omega) (by omega) (by omega)
            refine ⟨μ2, frw_tr fr k1, k2, ?_⟩
            rw [e206_175]; simp (disch := (first | omega | (simp (disch := omega) only [sr_up, wr_up_o]; omega))) only [e206_237, e206_257, ks_101, ks_112, ks_113, ks_114, ks_121, ks_124, ks_99, rm_day hρ, rm_idle hρ, rm_number hρ, rm_tellDay hρ, rm_tellWhat hρ, rm_tellWho hρ, Bool.false_eq_true, eq_self, isk_t, i20_t, w20_t, l23_t, b21_t, b22_t, w_t, bif_t, bif_f, bif_d, if_pos, if_neg, if_true, if_false, not_true_eq_false, not_false_eq_true, Option.bind_some, Option.toList_some, Option.toList_none, List.cons_append, List.nil_append, Int.toNat_natCast, Int.reduceToNat, up_eq, up_p, up_k, sN,  hN, e13, e0, q1, e11, e12, hbit, R_doesHave hρ, R_isPrinted hρ, h3, q3, q4, e3, k3 ]
    · have et : telT S C l W = W := by unfold telT; rw [if_neg (fun g => q1 g.1)]
      rw [et]
      obtain ⟨μ2, k1, k2, k3⟩ := ih (l + 1) W μ hW h1 h2 h3 hh0 hh (by omega) (by omega) (by omega)
      refine ⟨μ2, k1, k2, ?_⟩
      rw [e206_175]; simp (disch := (first | omega | (simp (disch := omega) only [sr_up, wr_up_o]; omega))) only [ks_101, ks_112, ks_113, ks_114, ks_121, ks_99, rm_day hρ, rm_number hρ, rm_tellDay hρ, rm_tellWhat hρ, rm_tellWho hρ, Bool.false_eq_true, eq_self, isk_t, i20_t, w20_t, l23_t, b21_t, b22_t, w_t, bif_t, bif_f, bif_d, if_pos, if_neg, if_true, if_false, not_true_eq_false, not_false_eq_true, Option.bind_some, Option.toList_some, Option.toList_none, List.cons_append, List.nil_append, Int.toNat_natCast, Int.reduceToNat, up_eq, up_p, up_k, sN,  hN, e13, e0, q1, k3 ]
/-- what is seen, thing by thing, is all that is seen -/
theorem seeK_Q {S : MS} {W : MW} {t : Int} (h5 : S 5 t ≠ -1) : ∀ (n : Nat) (k : Int) (Q : Int → Int → Bool), seeK S t n k (seeQ S W Q) = seeQ S W (fun p t' => Q p t' || (decide (t' = t) && seeB S p t n k))
  | 0, k, Q => by
    show seeQ S W Q = _
    refine congrArg (seeQ S W) ?_
    funext p t'
    simp [seeB]
  | n + 1, k, Q => by
    show seeK S t n (k + 1) (if S 7 k = t then seeStep S (seeQ S W Q) (S 6 k) t else seeQ S W Q) = _
    by_cases q : S 7 k = t
    · rw [if_pos q, seeQ_step h5, seeK_Q h5 n (k + 1)]
      refine congrArg (seeQ S W) ?_
      funext p t'
      show ((Q p t' || decide (p = S 6 k ∧ t' = t)) || (decide (t' = t) && seeB S p t n (k + 1))) = (Q p t' || (decide (t' = t) && (decide (S 6 k = p ∧ S 7 k = t) || seeB S p t n (k + 1))))
      by_cases c1 : t' = t
      · by_cases c2 : S 6 k = p
        · simp [c1, c2, q]
        · have c3 : ¬ p = S 6 k := fun g => c2 g.symm
          simp [c1, c2, c3]
      · simp [c1]
    · rw [if_neg q, seeK_Q h5 n (k + 1)]
      refine congrArg (seeQ S W) ?_
      funext p t'
      show (Q p t' || (decide (t' = t) && seeB S p t n (k + 1))) = (Q p t' || (decide (t' = t) && (decide (S 6 k = p ∧ S 7 k = t) || seeB S p t n (k + 1))))
      simp [q]
theorem seeT_Q {S : MS} {W : MW} (hS : SI S) : ∀ (n : Nat) (t : Int) (Q : Int → Int → Bool), 0 ≤ t → t + n = S 0 1 → seeT S n t (seeQ S W Q) = seeQ S W (fun p t' => Q p t' || (decide (t ≤ t' ∧ t' < S 0 1) && seeB S p t' (S 0 2).toNat 0))
  | 0, t, Q, h0, h1 => by
    show seeQ S W Q = _
    refine congrArg (seeQ S W) ?_
    funext p t'
    have : ¬ (t ≤ t' ∧ t' < S 0 1) := by omega
    simp [this]
  | n + 1, t, Q, h0, h1 => by
    show seeT S n (t + 1) (seeK S t (S 0 2).toNat 0 (seeQ S W Q)) = _
    have h5 := hS.2.2.2.2.2.2.2.2.2.2.2.1 t h0 (by omega)
    rw [seeK_Q (by omega), seeT_Q hS n (t + 1) _ (by omega) (by omega)]
    refine congrArg (seeQ S W) ?_
    funext p t'
    by_cases c1 : t' = t
    · have c2 : ¬ (t + 1 ≤ t' ∧ t' < S 0 1) := by omega
      have c3 : (t ≤ t' ∧ t' < S 0 1) := by omega
      subst c1
      simp [c2, c3]
      intro h
      omega
    · have c2 : (t + 1 ≤ t' ∧ t' < S 0 1) ↔ (t ≤ t' ∧ t' < S 0 1) := by omega
      simp [c1, c2]
theorem seeT_W {S : MS} {C : MC} {W : MW} (hS : SI S) (hA : ∀ t, C.2.2.2.2.2 t = true) : seeT S (S 0 1).toNat 0 W = seeW S C W := by
  have e : W = seeQ S W (fun _ _ => false) := (seeQ_no (fun p t g => by cases g)).symm
  have b1 := hS.2.1
  have b0 := hS.1
  have e2 : seeT S (S 0 1).toNat 0 W = seeT S (S 0 1).toNat 0 (seeQ S W (fun _ _ => false)) := congrArg _ e
  rw [e2, seeT_Q hS _ 0 _ (Int.le_refl _) (by omega), seeW_Q]
  refine congrArg (seeQ S W) ?_
  funext p t
  unfold seeAll
  by_cases c : seeB S p t (S 0 2).toNat 0 = true
  · have hj := (seeB_iff _ _).mp c
    obtain ⟨j, h6, h7, h8⟩ := hj
    have h9 := hS.2.2.1
    have h10 := hS.2.2.2.2.2.2.2.2.2.2.2.2.1 (0 + j) (by omega) (by omega)
    rw [h7, h8] at h10
    have c2 : 0 ≤ p ∧ p < 7 := by omega
    simp [c, hA, c2, h10]
  · have c' : seeB S p t (S 0 2).toNat 0 = false := by simpa using c
    simp [c']
theorem R_passes (hρ : RM ρ) {s b D : Int} {S : MS} {C : MC} {W : MW} {μ : Nat → Nat → Int} (hs0 : 0 ≤ s) (hs : s < 23) (hS : SI S) (hC : CI S C) (hD : D < 20000) (hW : WI S D W) (hA : ∀ t, C.2.2.2.2.2 t = true) (h1 : SR μ = S) (h2 : CR μ b = C) (h3 : WR μ s = W) (hh0 : 0 ≤ μ 99 53) (hh : μ 99 53 < 128) : ∃ μ1, FrW s μ μ1 ∧ WR μ1 s = dayW S C W ∧ am_E (d + 7) 206 0 [some (.inr (.inr 99)), some (.inl s), some (.inl b), none, none] [] (SH, ρ, μ, cs) = some (none, (SH, ρ, μ1, cs)) := by
  have b1 := hS.2.1
  have b3 := hS.2.2.2.1
  have b4 := hS.2.2.2.2.1
  have bi := hW.2.2.2.1
  obtain ⟨μ1, g1, g2, g3⟩ := R_see_out (ρ := ρ) (cs := cs) (d := d) (b := b) hρ hs0 hs hS (S 0 1).toNat 0 W μ h1 h3 (Int.le_refl _) (by omega)
  rw [seeT_W hS hA] at g2
  have hW1 : WI S D (seeW S C W) := wi_seeW hS hW
  obtain ⟨μ2, k1, k2, k3⟩ := R_ways (ρ := ρ) (cs := cs) (d := d) (b := b) hρ hs0 hs hS hC (by omega) hA (S 0 3).toNat 0 _ μ1 hW1 ((frw_SR g1).trans h1) ((frw_CR g1 b).trans h2) g2 (by rw [g1 99 53 (by omega) (by omega)]; exact hh0) (by rw [g1 99 53 (by omega) (by omega)]; exact hh) (Int.le_refl _) (by omega)
  have f2 := frw_tr g1 k1
  have hW2 : WI S D (wayA S C (S 0 3).toNat 0 (seeW S C W)) := wi_wayA hS hC _ 0 _ hW1 (Int.le_refl _) (by omega)
  have h30 : wayA S C (S 0 3).toNat 0 (seeW S C W) 3 0 0 = W 3 0 0 := by rw [(wayA_3 _ _ _).1, seeW_Q, seeQ_00 (by omega)]
  have h00 : wayA S C (S 0 3).toNat 0 (seeW S C W) 0 0 0 = W 0 0 0 := by rw [(wayA_3 _ _ _).2, seeW_Q, seeQ_00 (by omega)]
  obtain ⟨μ3, l1, l2, l3⟩ := R_tells_all (ρ := ρ) (cs := cs) (d := d) (b := b) (D := D + 1) hρ hs0 hs hS hC (by omega) hA (S 0 4).toNat 0 _ μ2 (WI_mono hW2 (by omega)) ((frw_SR f2).trans h1) ((frw_CR f2 b).trans h2) k2 (by rw [f2 99 53 (by omega) (by omega)]; exact hh0) (by rw [f2 99 53 (by omega) (by omega)]; exact hh) (Int.le_refl _) (by omega) (by rw [h30]; omega)
  refine ⟨μ3, frw_tr f2 l1, ?_, ?_⟩
  · rw [l2, h00]
    all_goals rfl
  · rw [e206_0]
    exact g3 _ (by rw [k3, l3])
end REF
