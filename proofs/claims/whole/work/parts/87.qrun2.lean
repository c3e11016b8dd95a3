/-! QUERIES that try days aside: the reference's ahead, when, hears; chance; tried -/
section QS
variable {ρ : Nat → Nat → Nat} {μ : Nat → Nat → Int} {cs : Nat × Nat × Nat} {d b w u : Nat} {S : MS} {W V : MW} {C : MC}
def RT (ρ : Nat → Nat → Nat) (μ : Nat → Nat → Int) (b w u : Nat) (S : MS) (W V : MW) (y : Int) (C : MC) : Prop := RLq ρ μ b w u S W ∧ WR μ 1 = V ∧ CR μ y = C
theorem RT_step {y : Int} (hT : RT ρ μ b w u S W V y C) {D : Int} (hD : D < 20000) (hWI' : WI S D V) (hC : CI S C) (hA : ∀ t, C.2.2.2.2.2 t = true) : ∃ μ1, FrW 1 μ μ1 ∧ RT ρ μ1 b w u S W (dayW S C V) y C ∧ am_E (d + 7) 206 0 [some (.inr (.inr 99)), some (.inl 1), some (.inl y), none, none] [] (SH, ρ, μ, cs) = some (none, (SH, ρ, μ1, cs)) := by
  obtain ⟨h, hV, hCR⟩ := hT
  have h0 := h
  obtain ⟨hx, hρ, hb, hgs, hw46, hu64, hSR, hS, hX, hWR, hWI, hW, hday, h49, h51, h53⟩ := h; have hw : w = 46 ∨ w = 55 ∨ w = 64 := Or.inl hw46; have hu : u = 46 ∨ u = 55 ∨ u = 64 := Or.inr (Or.inr hu64); have hn5 := (xm_0_5 hx).trans hw46.symm; have hn7 := (xm_0_7 hx).trans hu64.symm; have b0 := hS.1; have b1 := hS.2.1
  obtain ⟨μ1, g1, g2, g3⟩ := R_passes (ρ := ρ) (cs := cs) (d := d) (s := 1) (b := y) hρ (by omega) (by omega) hS hC hD hWI' hA hSR hCR hV (by omega) (by omega)
  exact ⟨μ1, g1, ⟨rl_q h0 (frr_rf ρ) (frq_w g1), g2, (frw_CR g1 y).trans hCR⟩, g3⟩
theorem R_copyNow (h : RLq ρ μ b w u S W) {y : Int} : ∃ μ1, FrW 1 μ μ1 ∧ RT ρ μ1 b w u S W W y (CR μ y) ∧ am_E d 184 0 [some (.inr (.inr 99)), some (.inl 1), some (.inl 0), none] [] (SH, ρ, μ, cs) = some (none, (SH, ρ, μ1, cs)) := by
  have h0 := h
  obtain ⟨hx, hρ, hb, hgs, hw46, hu64, hSR, hS, hX, hWR, hWI, hW, hday, h49, h51, h53⟩ := h; have hw : w = 46 ∨ w = 55 ∨ w = 64 := Or.inl hw46; have hu : u = 46 ∨ u = 55 ∨ u = 64 := Or.inr (Or.inr hu64); have hn5 := (xm_0_5 hx).trans hw46.symm; have hn7 := (xm_0_7 hx).trans hu64.symm; have b0 := hS.1; have b1 := hS.2.1
  obtain ⟨μ1, g1, g2, g3⟩ := R_copies (ρ := ρ) (cs := cs) (d := d) (μ := μ) (s := 1) (s' := 0) hρ (by omega) (by omega) (by omega) (by omega) (by omega)
  exact ⟨μ1, g1, ⟨rl_q h0 (frr_rf ρ) (frq_w g1), g2.trans hWR, frw_CR g1 y⟩, g3⟩
theorem R_when_loop {t : Int} (hC : CI S C) (hA : ∀ t, C.2.2.2.2.2 t = true) : ∀ (n : Nat) (k D : Int) (V : MW) (μ : Nat → Nat → Int), RT ρ μ b w u S W V 0 C → WI S D V → D + n < 20000 → 0 ≤ t → t < S 0 1 → 0 ≤ k → k + n = 200 → ∃ μ', FrW 1 μ μ' ∧ am_E (d + 8) 220 23 [some (.inr (.inr 99)), some (.inl t), some (.inl k)] [] (SH, ρ, μ, cs) = some (some (.inl (firstD (newsP t) S C n k V)), (SH, ρ, μ', cs)) := by
  intro n
  induction n with
  | zero =>
    intro k D V μ hT hV2 hD t0 t1 k0 hk
    refine ⟨μ, frw_rf 1 μ, ?_⟩
    rw [e220_23]
    simp (disch := omega) only [bif_d, if_pos]
    all_goals rfl
  | succ n ih =>
    intro k D V μ hT hV2 hD t0 t1 k0 hk
    obtain ⟨μ1, g1, g2, g3⟩ := RT_step (cs := cs) (d := d) hT (show D < 20000 by omega) hV2 hC hA
    obtain ⟨h, hV, hCR⟩ := hT
    obtain ⟨hx, hρ, hb, hgs, hw46, hu64, hSR, hS, hX, hWR, hWI, hW, hday, h49, h51, h53⟩ := h; have hw : w = 46 ∨ w = 55 ∨ w = 64 := Or.inl hw46; have hu : u = 46 ∨ u = 55 ∨ u = 64 := Or.inr (Or.inr hu64); have hn5 := (xm_0_5 hx).trans hw46.symm; have hn7 := (xm_0_7 hx).trans hu64.symm; have b0 := hS.1; have b1 := hS.2.1
    have ef : firstD (newsP t) S C (n + 1) k V = if newsP t V = true then k else firstD (newsP t) S C n (k + 1) (dayW S C V) := rfl
    by_cases q : V 4 0 t = -2
    · obtain ⟨μ2, k1, k2⟩ := ih (k + 1) (D + 1) _ μ1 g2 (wi_dayW hS hC hV2) (by omega) t0 t1 (by omega) (by omega)
      refine ⟨μ2, frw_tr g1 k1, ?_⟩
      rw [ef, if_neg (by unfold newsP; simp [q]), ← k2]
      rw [e220_23]; simp (disch := (first | omega | (simp (disch := omega) only [sr_up, wr_up_o]; omega))) only [e220_36, e220_47, ks_99, ite_self, Bool.false_eq_true, eq_self, isk_t, i20_t, w20_t, l23_t, b21_t, b22_t, w_t, bif_t, bif_f, bif_d, if_pos, if_neg, if_true, if_false, not_true_eq_false, not_false_eq_true, Option.bind_some, Option.toList_some, Option.toList_none, List.cons_append, List.nil_append, Int.toNat_natCast, Int.reduceToNat, up_eq, up_p, up_k, sN,  R_isNews hρ, hV, q, g3 ]
    · refine ⟨μ, frw_rf 1 μ, ?_⟩
      rw [ef, if_pos (by unfold newsP; simp [q])]
      rw [e220_23]; simp (disch := (first | omega | (simp (disch := omega) only [sr_up, wr_up_o]; omega))) only [e220_36, ks_99, ite_self, Bool.false_eq_true, eq_self, isk_t, i20_t, w20_t, l23_t, b21_t, b22_t, w_t, bif_t, bif_f, bif_d, if_pos, if_neg, if_true, if_false, not_true_eq_false, not_false_eq_true, Option.bind_some, Option.toList_some, Option.toList_none, List.cons_append, List.nil_append, Int.toNat_natCast, Int.reduceToNat, up_eq, up_p, up_k, sN,  R_isNews hρ, hV, q ]
theorem R_when (h : RLq ρ μ b w u S W) {t : Int} : ∃ μ', FrQ μ μ' ∧ am_E (d + 8) 220 0 [some (.inr (.inr 99)), some (.inl t), none] [] (SH, ρ, μ, cs) = some (some (.inl (whenA S (CR μ 0) W t)), (SH, ρ, μ', cs)) := by
  have hG := (cr_gc h).1
  have h1 := rl_q h (frr_rf ρ) (frq_t0 μ 0)
  obtain ⟨μ1, f1, f2, f3⟩ := R_copyNow (cs := cs) (d := d + 7) (y := 0) h1
  rw [thr_CR] at f2
  obtain ⟨hx, hρ, hb, hgs, hw46, hu64, hSR, hS, hX, hWR, hWI, hW, hday, h49, h51, h53⟩ := h; have hw : w = 46 ∨ w = 55 ∨ w = 64 := Or.inl hw46; have hu : u = 46 ∨ u = 55 ∨ u = 64 := Or.inr (Or.inr hu64); have hn5 := (xm_0_5 hx).trans hw46.symm; have hn7 := (xm_0_7 hx).trans hu64.symm; have b0 := hS.1; have b1 := hS.2.1
  unfold whenA
  by_cases c : 0 ≤ t ∧ t < S 0 1
  · rw [if_pos c]
    obtain ⟨μ2, k1, k2⟩ := R_when_loop (ρ := ρ) (cs := cs) (d := d) (t := t) (gc_ci hS hG) (fun _ => rfl) 200 0 10000 W μ1 f2 hWI (by omega) c.1 c.2 (by omega) (by omega)
    refine ⟨μ2, frq_tr (frq_t0 μ 0) (frq_w (frw_tr f1 k1)), ?_⟩
    rw [← k2]
    simp (disch := (first | omega | (simp (disch := omega) only [sr_up, wr_up_o]; omega))) only [e220_0, e220_10, e220_21, ks_99, ite_self, Bool.false_eq_true, eq_self, isk_t, i20_t, w20_t, l23_t, b21_t, b22_t, w_t, bif_t, bif_f, bif_d, if_pos, if_neg, if_true, if_false, not_true_eq_false, not_false_eq_true, Option.bind_some, Option.toList_some, Option.toList_none, List.cons_append, List.nil_append, Int.toNat_natCast, Int.reduceToNat, up_eq, up_p, up_k, sN,  R_isMan hρ, R_isThing hρ, sr_up, hSR, wr_up_o, hWR, f3 ]
  · rw [if_neg c]
    refine ⟨am_up μ 99 0 0, frq_t0 μ 0, ?_⟩
    simp (disch := (first | omega | (simp (disch := omega) only [sr_up, wr_up_o]; omega))) only [e220_0, e220_10, ks_99, ite_self, Bool.false_eq_true, eq_self, isk_t, i20_t, w20_t, l23_t, b21_t, b22_t, w_t, bif_t, bif_f, bif_d, if_pos, if_neg, if_true, if_false, not_true_eq_false, not_false_eq_true, Option.bind_some, Option.toList_some, Option.toList_none, List.cons_append, List.nil_append, Int.toNat_natCast, Int.reduceToNat, up_eq, up_p, up_k, sN,  R_isMan hρ, R_isThing hρ, sr_up, hSR, wr_up_o, hWR ]
theorem R_hears_loop {p t : Int} (hC : CI S C) (hA : ∀ t, C.2.2.2.2.2 t = true) : ∀ (n : Nat) (k D : Int) (V : MW) (μ : Nat → Nat → Int), RT ρ μ b w u S W V 0 C → WI S D V → D + n < 20000 → 0 ≤ p → p < S 0 0 → 0 ≤ t → t < S 0 1 → 0 ≤ k → k + n = 200 → ∃ μ', FrW 1 μ μ' ∧ am_E (d + 8) 221 31 [some (.inr (.inr 99)), some (.inl p), some (.inl t), some (.inl k)] [] (SH, ρ, μ, cs) = some (some (.inl (firstD (hasP p t) S C n k V)), (SH, ρ, μ', cs)) := by
  intro n
  induction n with
  | zero =>
    intro k D V μ hT hV2 hD p0 p1 t0 t1 k0 hk
    refine ⟨μ, frw_rf 1 μ, ?_⟩
    rw [e221_31]
    simp (disch := omega) only [bif_d, if_pos]
    all_goals rfl
  | succ n ih =>
    intro k D V μ hT hV2 hD p0 p1 t0 t1 k0 hk
    obtain ⟨μ1, g1, g2, g3⟩ := RT_step (cs := cs) (d := d) hT (show D < 20000 by omega) hV2 hC hA
    obtain ⟨h, hV, hCR⟩ := hT
    obtain ⟨hx, hρ, hb, hgs, hw46, hu64, hSR, hS, hX, hWR, hWI, hW, hday, h49, h51, h53⟩ := h; have hw : w = 46 ∨ w = 55 ∨ w = 64 := Or.inl hw46; have hu : u = 46 ∨ u = 55 ∨ u = 64 := Or.inr (Or.inr hu64); have hn5 := (xm_0_5 hx).trans hw46.symm; have hn7 := (xm_0_7 hx).trans hu64.symm; have b0 := hS.1; have b1 := hS.2.1
    have ef : firstD (hasP p t) S C (n + 1) k V = if hasP p t V = true then k else firstD (hasP p t) S C n (k + 1) (dayW S C V) := rfl
    by_cases q : V 5 p t = -1
    · obtain ⟨μ2, k1, k2⟩ := ih (k + 1) (D + 1) _ μ1 g2 (wi_dayW hS hC hV2) (by omega) p0 p1 t0 t1 (by omega) (by omega)
      refine ⟨μ2, frw_tr g1 k1, ?_⟩
      rw [ef, if_neg (by unfold hasP; simp [q]), ← k2]
      rw [e221_31]; simp (disch := (first | omega | (simp (disch := omega) only [sr_up, wr_up_o]; omega))) only [e221_45, e221_56, ks_99, ite_self, Bool.false_eq_true, eq_self, isk_t, i20_t, w20_t, l23_t, b21_t, b22_t, w_t, bif_t, bif_f, bif_d, if_pos, if_neg, if_true, if_false, not_true_eq_false, not_false_eq_true, Option.bind_some, Option.toList_some, Option.toList_none, List.cons_append, List.nil_append, Int.toNat_natCast, Int.reduceToNat, up_eq, up_p, up_k, sN,  R_doesHave hρ, hV, q, g3 ]
    · refine ⟨μ, frw_rf 1 μ, ?_⟩
      rw [ef, if_pos (by unfold hasP; simp [q])]
      rw [e221_31]; simp (disch := (first | omega | (simp (disch := omega) only [sr_up, wr_up_o]; omega))) only [e221_45, ks_99, ite_self, Bool.false_eq_true, eq_self, isk_t, i20_t, w20_t, l23_t, b21_t, b22_t, w_t, bif_t, bif_f, bif_d, if_pos, if_neg, if_true, if_false, not_true_eq_false, not_false_eq_true, Option.bind_some, Option.toList_some, Option.toList_none, List.cons_append, List.nil_append, Int.toNat_natCast, Int.reduceToNat, up_eq, up_p, up_k, sN,  R_doesHave hρ, hV, q ]
theorem R_hears (h : RLq ρ μ b w u S W) {p t : Int} : ∃ μ', FrQ μ μ' ∧ am_E (d + 8) 221 0 [some (.inr (.inr 99)), some (.inl p), some (.inl t), none] [] (SH, ρ, μ, cs) = some (some (.inl (hearsA S (CR μ 0) W p t)), (SH, ρ, μ', cs)) := by
  have hG := (cr_gc h).1
  have h1 := rl_q h (frr_rf ρ) (frq_t0 μ 0)
  obtain ⟨μ1, f1, f2, f3⟩ := R_copyNow (cs := cs) (d := d + 7) (y := 0) h1
  rw [thr_CR] at f2
  obtain ⟨hx, hρ, hb, hgs, hw46, hu64, hSR, hS, hX, hWR, hWI, hW, hday, h49, h51, h53⟩ := h; have hw : w = 46 ∨ w = 55 ∨ w = 64 := Or.inl hw46; have hu : u = 46 ∨ u = 55 ∨ u = 64 := Or.inr (Or.inr hu64); have hn5 := (xm_0_5 hx).trans hw46.symm; have hn7 := (xm_0_7 hx).trans hu64.symm; have b0 := hS.1; have b1 := hS.2.1
  unfold hearsA
  by_cases c0 : (0 ≤ p ∧ p < S 0 0)
  · by_cases c : 0 ≤ t ∧ t < S 0 1
    · rw [if_pos ⟨c0, c⟩]
      obtain ⟨μ2, k1, k2⟩ := R_hears_loop (ρ := ρ) (cs := cs) (d := d) (p := p) (t := t) (gc_ci hS hG) (fun _ => rfl) 200 0 10000 W μ1 f2 hWI (by omega) c0.1 c0.2 c.1 c.2 (by omega) (by omega)
      refine ⟨μ2, frq_tr (frq_t0 μ 0) (frq_w (frw_tr f1 k1)), ?_⟩
      rw [← k2]
      simp (disch := (first | omega | (simp (disch := omega) only [sr_up, wr_up_o]; omega))) only [e221_0, e221_10, e221_18, e221_29, ks_99, ite_self, Bool.false_eq_true, eq_self, isk_t, i20_t, w20_t, l23_t, b21_t, b22_t, w_t, bif_t, bif_f, bif_d, if_pos, if_neg, if_true, if_false, not_true_eq_false, not_false_eq_true, Option.bind_some, Option.toList_some, Option.toList_none, List.cons_append, List.nil_append, Int.toNat_natCast, Int.reduceToNat, up_eq, up_p, up_k, sN,  R_isMan hρ, R_isThing hρ, sr_up, hSR, wr_up_o, hWR, f3 ]
    · rw [if_neg (fun g => c g.2)]
      refine ⟨am_up μ 99 0 0, frq_t0 μ 0, ?_⟩
      simp (disch := (first | omega | (simp (disch := omega) only [sr_up, wr_up_o]; omega))) only [e221_0, e221_10, e221_18, ks_99, ite_self, Bool.false_eq_true, eq_self, isk_t, i20_t, w20_t, l23_t, b21_t, b22_t, w_t, bif_t, bif_f, bif_d, if_pos, if_neg, if_true, if_false, not_true_eq_false, not_false_eq_true, Option.bind_some, Option.toList_some, Option.toList_none, List.cons_append, List.nil_append, Int.toNat_natCast, Int.reduceToNat, up_eq, up_p, up_k, sN,  R_isMan hρ, R_isThing hρ, sr_up, hSR, wr_up_o, hWR ]
  · rw [if_neg (fun g => c0 g.1)]
    refine ⟨am_up μ 99 0 0, frq_t0 μ 0, ?_⟩
    simp (disch := (first | omega | (simp (disch := omega) only [sr_up, wr_up_o]; omega))) only [e221_0, e221_10, ks_99, ite_self, Bool.false_eq_true, eq_self, isk_t, i20_t, w20_t, l23_t, b21_t, b22_t, w_t, bif_t, bif_f, bif_d, if_pos, if_neg, if_true, if_false, not_true_eq_false, not_false_eq_true, Option.bind_some, Option.toList_some, Option.toList_none, List.cons_append, List.nil_append, Int.toNat_natCast, Int.reduceToNat, up_eq, up_p, up_k, sN,  R_isMan hρ, R_isThing hρ, sr_up, hSR, wr_up_o, hWR ]
theorem R_ahead (h : RLq ρ μ b w u S W) {n q i : Int} : ∃ μ', FrQ μ μ' ∧ am_E (d + 9) 219 0 [some (.inr (.inr 99)), some (.inl n), some (.inl q), some (.inl i)] [] (SH, ρ, μ, cs) = some (some (.inl (aheadA S (CR μ 0) W n q i)), (SH, ρ, μ', cs)) := by
  have hG := (cr_gc h).1
  have h1 := rl_q h (frr_rf ρ) (frq_t0 μ 0)
  obtain ⟨μ1, f1, f2, f3⟩ := R_copyNow (cs := cs) (d := d + 8) (y := 0) h1
  rw [thr_CR] at f2
  obtain ⟨hx, hρ, hb, hgs, hw46, hu64, hSR, hS, hX, hWR, hWI, hW, hday, h49, h51, h53⟩ := h; have hw : w = 46 ∨ w = 55 ∨ w = 64 := Or.inl hw46; have hu : u = 46 ∨ u = 55 ∨ u = 64 := Or.inr (Or.inr hu64); have hn5 := (xm_0_5 hx).trans hw46.symm; have hn7 := (xm_0_7 hx).trans hu64.symm; have b0 := hS.1; have b1 := hS.2.1
  unfold aheadA
  by_cases g0 : 0 ≤ n ∧ n ≤ 200
  rotate_left
  · refine ⟨am_up μ 99 0 0, frq_t0 μ 0, ?_⟩
    rw [if_neg (fun g => g0 g.1)]
    by_cases g1 : n < 0
    · simp (disch := (first | omega | (simp (disch := omega) only [sr_up, wr_up_o]; omega))) only [e219_0, ks_99, ite_self, Bool.false_eq_true, eq_self, isk_t, i20_t, w20_t, l23_t, b21_t, b22_t, w_t, bif_t, bif_f, bif_d, if_pos, if_neg, if_true, if_false, not_true_eq_false, not_false_eq_true, Option.bind_some, Option.toList_some, Option.toList_none, List.cons_append, List.nil_append, Int.toNat_natCast, Int.reduceToNat, up_eq, up_p, up_k, sN]
    · simp (disch := (first | omega | (simp (disch := omega) only [sr_up, wr_up_o]; omega))) only [e219_0, ks_99, ite_self, Bool.false_eq_true, eq_self, isk_t, i20_t, w20_t, l23_t, b21_t, b22_t, w_t, bif_t, bif_f, bif_d, if_pos, if_neg, if_true, if_false, not_true_eq_false, not_false_eq_true, Option.bind_some, Option.toList_some, Option.toList_none, List.cons_append, List.nil_append, Int.toNat_natCast, Int.reduceToNat, up_eq, up_p, up_k, sN]
  by_cases g1 : 0 ≤ q ∧ q ≤ 3
  rotate_left
  · refine ⟨am_up μ 99 0 0, frq_t0 μ 0, ?_⟩
    rw [if_neg (fun g => g1 g.2.1)]
    by_cases g2 : q < 0
    · simp (disch := (first | omega | (simp (disch := omega) only [sr_up, wr_up_o]; omega))) only [e219_0, ks_99, ite_self, Bool.false_eq_true, eq_self, isk_t, i20_t, w20_t, l23_t, b21_t, b22_t, w_t, bif_t, bif_f, bif_d, if_pos, if_neg, if_true, if_false, not_true_eq_false, not_false_eq_true, Option.bind_some, Option.toList_some, Option.toList_none, List.cons_append, List.nil_append, Int.toNat_natCast, Int.reduceToNat, up_eq, up_p, up_k, sN]
    · simp (disch := (first | omega | (simp (disch := omega) only [sr_up, wr_up_o]; omega))) only [e219_0, ks_99, ite_self, Bool.false_eq_true, eq_self, isk_t, i20_t, w20_t, l23_t, b21_t, b22_t, w_t, bif_t, bif_f, bif_d, if_pos, if_neg, if_true, if_false, not_true_eq_false, not_false_eq_true, Option.bind_some, Option.toList_some, Option.toList_none, List.cons_append, List.nil_append, Int.toNat_natCast, Int.reduceToNat, up_eq, up_p, up_k, sN]
  by_cases g2 : q = 1 → 0 ≤ i ∧ i < S 0 1
  rotate_left
  · refine ⟨am_up μ 99 0 0, frq_t0 μ 0, ?_⟩
    have gq : q = 1 := by
      by_cases e : q = 1
      · exact e
      · exact absurd (fun e2 => absurd e2 e) g2
    have gi : ¬ (0 ≤ i ∧ i < S 0 1) := fun g => g2 (fun _ => g)
    rw [if_neg (fun g => g2 g.2.2)]
    simp (disch := (first | omega | (simp (disch := omega) only [sr_up, wr_up_o]; omega))) only [e219_0, e219_35, ks_99, ite_self, Bool.false_eq_true, eq_self, isk_t, i20_t, w20_t, l23_t, b21_t, b22_t, w_t, bif_t, bif_f, bif_d, if_pos, if_neg, if_true, if_false, not_true_eq_false, not_false_eq_true, Option.bind_some, Option.toList_some, Option.toList_none, List.cons_append, List.nil_append, Int.toNat_natCast, Int.reduceToNat, up_eq, up_p, up_k, sN,  R_isMan hρ, R_isThing hρ, sr_up, hSR, wr_up_o, hWR ]
  rw [if_pos ⟨g0, g1, g2⟩]
  have hci : CI S (CR μ 0) := gc_ci hS hG
  obtain ⟨r1, r2, r3⟩ := f2
  have hr1 := r1
  obtain ⟨_, _, _, _, _, _, s1, _, _, _, _, _, _, z49, z51, z53⟩ := r1
  obtain ⟨μ2, k1, k2, k3⟩ := R_goesOn (ρ := ρ) (cs := cs) (d := d) (n := n.toNat) (D := 10000) hρ hS hci (fun _ => rfl) (by omega) hWI (by omega) s1 r3 r2 (by omega) (by omega)
  rw [Int.toNat_of_nonneg g0.1] at k3
  have hWV := wi_daysW hS hci n.toNat hWI
  have h2 := rl_q hr1 (frr_rf ρ) (frq_w k1)
  have e1 : am_E (d + 9) 219 0 [some (.inr (.inr 99)), some (.inl n), some (.inl q), some (.inl i)] [] (SH, ρ, μ, cs) = am_E (d + 9) 219 52 [some (.inr (.inr 99)), some (.inl n), some (.inl q), some (.inl i)] [.inl q] (SH, ρ, μ2, cs) := by
    by_cases gq : q = 1
    · have gi := g2 gq
      simp (disch := (first | omega | (simp (disch := omega) only [sr_up, wr_up_o]; omega))) only [e219_0, e219_35, e219_46, e219_51, ks_99, ite_self, Bool.false_eq_true, eq_self, isk_t, i20_t, w20_t, l23_t, b21_t, b22_t, w_t, bif_t, bif_f, bif_d, if_pos, if_neg, if_true, if_false, not_true_eq_false, not_false_eq_true, Option.bind_some, Option.toList_some, Option.toList_none, List.cons_append, List.nil_append, Int.toNat_natCast, Int.reduceToNat, up_eq, up_p, up_k, sN,  R_isMan hρ, R_isThing hρ, sr_up, hSR, wr_up_o, hWR, f3, k3 ]
    · simp (disch := (first | omega | (simp (disch := omega) only [sr_up, wr_up_o]; omega))) only [e219_0, e219_46, e219_51, ks_99, ite_self, Bool.false_eq_true, eq_self, isk_t, i20_t, w20_t, l23_t, b21_t, b22_t, w_t, bif_t, bif_f, bif_d, if_pos, if_neg, if_true, if_false, not_true_eq_false, not_false_eq_true, Option.bind_some, Option.toList_some, Option.toList_none, List.cons_append, List.nil_append, Int.toNat_natCast, Int.reduceToNat, up_eq, up_p, up_k, sN,  f3, k3 ]
  rw [e1]
  refine ⟨μ2, frq_tr (frq_t0 μ 0) (frq_w (frw_tr f1 k1)), ?_⟩
  generalize hVe : daysW S (CR μ 0) n.toNat W = V at hWV k2 ⊢
  clear hx hρ hb hgs hX hW hn5 hn7 hw hu hSR hWR hWI hday h49 h51 h53 hw46 hu64 hS b0 b1
  have h := h2
  obtain ⟨hx, hρ, hb, hgs, hw46, hu64, hSR, hS, hX, hWR, hWI, hW, hday, h49, h51, h53⟩ := h; have hw : w = 46 ∨ w = 55 ∨ w = 64 := Or.inl hw46; have hu : u = 46 ∨ u = 55 ∨ u = 64 := Or.inr (Or.inr hu64); have hn5 := (xm_0_5 hx).trans hw46.symm; have hn7 := (xm_0_7 hx).trans hu64.symm; have b0 := hS.1; have b1 := hS.2.1
  have bv2 := hWV.2.2.1
  have bv3 := hWV.2.2.2.1
  have bw2 := hWI.2.2.1
  have bw3 := hWI.2.2.2.1
  rcases (show q = 0 ∨ q = 1 ∨ q = 2 ∨ q = 3 by omega) with rfl | rfl | rfl | rfl
  · have h6 := fun d => R_newsMany (ρ := ρ) (cs := cs) (d := d) (μ := μ2) (s := 1) hρ (by omega) (by omega) (by rw [hSR]; exact b1.1) (by rw [hSR]; exact b1.2)
    rw [hSR, k2] at h6
    simp (disch := (first | omega | (simp (disch := omega) only [sr_up, wr_up_o]; omega))) only [e219_52_c0, e219_85, ks_99, ite_self, Bool.false_eq_true, eq_self, isk_t, i20_t, w20_t, l23_t, b21_t, b22_t, w_t, bif_t, bif_f, bif_d, if_pos, if_neg, if_true, if_false, not_true_eq_false, not_false_eq_true, Option.bind_some, Option.toList_some, Option.toList_none, List.cons_append, List.nil_append, Int.toNat_natCast, Int.reduceToNat, up_eq, up_p, up_k, sN,  h6 ]
  · have gi := g2 rfl
    have hwh := fun d => R_whoHas (ρ := ρ) (cs := cs) (d := d) (μ := μ2) (s := 1) (t := i) hρ (by omega) (by omega) gi.1 (show i < 6 by omega) (by rw [hSR]; exact b0.2) (by rw [hSR]; exact b0.1)
    rw [hSR, k2] at hwh
    have hbs := fun d => R_bitsSet (ρ := ρ) (cs := cs) (d := d) (μ := μ2) (sh := SH) (f := fun p => decide (V 5 p i ≠ -1)) (n := men S) (by unfold men; omega)
    have em : cnt (fun p => decide (V 5 p i ≠ -1)) (men S) = manyF S V i := rfl
    rw [em] at hbs
    simp (disch := (first | omega | (simp (disch := omega) only [sr_up, wr_up_o]; omega))) only [e219_52_c1, e219_92, e219_95, ks_99, ite_self, Bool.false_eq_true, eq_self, isk_t, i20_t, w20_t, l23_t, b21_t, b22_t, w_t, bif_t, bif_f, bif_d, if_pos, if_neg, if_true, if_false, not_true_eq_false, not_false_eq_true, Option.bind_some, Option.toList_some, Option.toList_none, List.cons_append, List.nil_append, Int.toNat_natCast, Int.reduceToNat, up_eq, up_p, up_k, sN,  hwh, hbs ]
  · have y1 : μ2 123 1 = V 2 0 0 := by rw [← k2]; rfl
    have y2 : μ2 123 0 = W 2 0 0 := by rw [← hWR]; rfl
    simp (disch := (first | omega | (simp (disch := omega) only [sr_up, wr_up_o]; omega))) only [e219_52_c2, ks_123, ks_99, rm_space hρ, ite_self, Bool.false_eq_true, eq_self, isk_t, i20_t, w20_t, l23_t, b21_t, b22_t, w_t, bif_t, bif_f, bif_d, if_pos, if_neg, if_true, if_false, not_true_eq_false, not_false_eq_true, Option.bind_some, Option.toList_some, Option.toList_none, List.cons_append, List.nil_append, Int.toNat_natCast, Int.reduceToNat, up_eq, up_p, up_k, sN,  y1, y2 ]
  · have y1 : μ2 124 1 = V 3 0 0 := by rw [← k2]; rfl
    have y2 : μ2 124 0 = W 3 0 0 := by rw [← hWR]; rfl
    simp (disch := (first | omega | (simp (disch := omega) only [sr_up, wr_up_o]; omega))) only [e219_52_d, ks_124, ks_99, rm_idle hρ, ite_self, Bool.false_eq_true, eq_self, isk_t, i20_t, w20_t, l23_t, b21_t, b22_t, w_t, bif_t, bif_f, bif_d, if_pos, if_neg, if_true, if_false, not_true_eq_false, not_false_eq_true, Option.bind_some, Option.toList_some, Option.toList_none, List.cons_append, List.nil_append, Int.toNat_natCast, Int.reduceToNat, up_eq, up_p, up_k, sN,  y1, y2 ]
/-- ten times by numbers, one behind another -/
def chanL (S : MS) (C : MC) (W : MW) (n : Nat) (p t : Int) : Nat → Int → Int → Int
  | 0, _, a => a
  | j + 1, z, a => chanL S C W n p t j (daysW S C n (wp W 1 0 0 z) 1 0 0) (if daysW S C n (wp W 1 0 0 z) 5 p t = -1 then a else a + 1)
def chanA (S : MS) (C : MC) (W : MW) (z n p t : Int) : Int := if 0 ≤ z ∧ (1 ≤ n ∧ n ≤ 99) ∧ (0 ≤ p ∧ p < S 0 0) ∧ (0 ≤ t ∧ t < S 0 1) then chanL S C W n.toNat p t 10 z 0 else -1
theorem R_chan_days {z0 N p t x5 a r : Int} (hC : CI S C) (hA : ∀ t, C.2.2.2.2.2 t = true) (hN : N ≤ 200) : ∀ (n : Nat) (k D : Int) (V : MW) (μ : Nat → Nat → Int), RT ρ μ b w u S W V 1 C → WI S D V → D + n < 20000 → 0 ≤ k → k + n = N → ∃ μ', FrW 1 μ μ' ∧ RT ρ μ' b w u S W (daysW S C n V) 1 C ∧ am_E (d + 8) 251 72 [some (.inr (.inr 99)), some (.inl z0), some (.inl N), some (.inl p), some (.inl t), some (.inl x5), some (.inl a), some (.inl r), some (.inl k)] [] (SH, ρ, μ, cs) = am_E (d + 8) 251 72 [some (.inr (.inr 99)), some (.inl z0), some (.inl N), some (.inl p), some (.inl t), some (.inl x5), some (.inl a), some (.inl r), some (.inl N)] [] (SH, ρ, μ', cs) := by
  intro n
  induction n with
  | zero =>
    intro k D V μ hT hV2 hD k0 hk
    have e : k = N := by omega
    rw [e]
    exact ⟨μ, frw_rf 1 μ, hT, rfl⟩
  | succ n ih =>
    intro k D V μ hT hV2 hD k0 hk
    obtain ⟨μ1, g1, g2, g3⟩ := RT_step (cs := cs) (d := d) hT (show D < 20000 by omega) hV2 hC hA
    obtain ⟨h, hV, hCR⟩ := hT
    obtain ⟨hx, hρ, hb, hgs, hw46, hu64, hSR, hS, hX, hWR, hWI, hW, hday, h49, h51, h53⟩ := h; have hw : w = 46 ∨ w = 55 ∨ w = 64 := Or.inl hw46; have hu : u = 46 ∨ u = 55 ∨ u = 64 := Or.inr (Or.inr hu64); have hn5 := (xm_0_5 hx).trans hw46.symm; have hn7 := (xm_0_7 hx).trans hu64.symm; have b0 := hS.1; have b1 := hS.2.1
    obtain ⟨μ2, k1, k2, k3⟩ := ih (k + 1) (D + 1) _ μ1 g2 (wi_dayW hS hC hV2) (by omega) (by omega) (by omega)
    refine ⟨μ2, frw_tr g1 k1, k2, ?_⟩
    rw [← k3]
    rw [e251_72]; simp (disch := (first | omega | (simp (disch := omega) only [sr_up, wr_up_o]; omega))) only [e251_84, ks_122, ks_99, rm_drawn hρ, ite_self, Bool.false_eq_true, eq_self, isk_t, i20_t, w20_t, l23_t, b21_t, b22_t, w_t, bif_t, bif_f, bif_d, if_pos, if_neg, if_true, if_false, not_true_eq_false, not_false_eq_true, Option.bind_some, Option.toList_some, Option.toList_none, List.cons_append, List.nil_append, Int.toNat_natCast, Int.reduceToNat, up_eq, up_p, up_k, sN,  g3 ]
theorem R_chan_loop {z0 N p t : Int} (hC : CI S C) (hA : ∀ t, C.2.2.2.2.2 t = true) (hN0 : 0 ≤ N) (hN : N ≤ 200) (p0 : 0 ≤ p) (p1 : p < S 0 0) (t0 : 0 ≤ t) (t1 : t < S 0 1) : ∀ (j : Nat) (r z a : Int) (μ : Nat → Nat → Int), RLq ρ μ b w u S W → CR μ 1 = C → 0 ≤ z → z < 2147483648 → 0 ≤ a → a ≤ r → 0 ≤ r → r + j = 10 → ∃ μ', FrQ μ μ' ∧ am_E (d + 8) 251 48 [some (.inr (.inr 99)), some (.inl z0), some (.inl N), some (.inl p), some (.inl t), some (.inl z), some (.inl a), some (.inl r), none] [] (SH, ρ, μ, cs) = some (some (.inl (chanL S C W N.toNat p t j z a)), (SH, ρ, μ', cs)) := by
  intro j
  induction j with
  | zero =>
    intro r z a μ h hCR z0' z1 a0 a1 r0 hr
    refine ⟨μ, frq_rf μ, ?_⟩
    rw [e251_48]
    simp (disch := omega) only [bif_d, if_pos]
    all_goals rfl
  | succ j ih =>
    intro r z a μ h hCR z0' z1 a0 a1 r0 hr
    obtain ⟨μ1, f1, f2, f3⟩ := R_copyNow (cs := cs) (d := d + 7) (y := 1) h
    rw [hCR] at f2
    have h0 := h
    obtain ⟨hx, hρ, hb, hgs, hw46, hu64, hSR, hS, hX, hWR, hWI, hW, hday, h49, h51, h53⟩ := h; have hw : w = 46 ∨ w = 55 ∨ w = 64 := Or.inl hw46; have hu : u = 46 ∨ u = 55 ∨ u = 64 := Or.inr (Or.inr hu64); have hn5 := (xm_0_5 hx).trans hw46.symm; have hn7 := (xm_0_7 hx).trans hu64.symm; have b0 := hS.1; have b1 := hS.2.1
    have fr : FrW 1 μ1 (am_up μ1 122 1 z) := frw_up (frw_rf 1 μ1) (by left; left; omega)
    have hT1 : RT ρ (am_up μ1 122 1 z) b w u S W (wp W 1 0 0 z) 1 C := by
      obtain ⟨r1, r2, r3⟩ := f2
      refine ⟨rl_q r1 (frr_rf ρ) (frq_w fr), ?_, (frw_CR fr 1).trans r3⟩
      have := wr_up_num (μ := μ1) (s := 1) (v := z)
      rw [r2] at this
      exact this
    obtain ⟨μ2, k1, k2, k3⟩ := R_chan_days (ρ := ρ) (cs := cs) (d := d) (z0 := z0) (N := N) (p := p) (t := t) (x5 := z) (a := a) (r := r) hC hA hN N.toNat 0 10000 _ _ hT1 (wi_num hWI z0' z1) (by omega) (by omega) (by omega)
    have hWV := wi_daysW hS hC N.toNat (wi_num hWI z0' z1)
    have ef : chanL S C W N.toNat p t (j + 1) z a = chanL S C W N.toNat p t j (daysW S C N.toNat (wp W 1 0 0 z) 1 0 0) (if daysW S C N.toNat (wp W 1 0 0 z) 5 p t = -1 then a else a + 1) := rfl
    rw [ef]
    generalize hVe : daysW S C N.toNat (wp W 1 0 0 z) = V at k2 hWV ⊢
    obtain ⟨q1, q2, q3⟩ := k2
    have y1 : μ2 122 1 = V 1 0 0 := by rw [← q2]; rfl
    have bz := hWV.2.1
    have f9 : FrQ μ μ2 := frq_w (frw_tr f1 (frw_tr fr k1))
    by_cases c : V 5 p t = -1
    · rw [if_pos c]
      obtain ⟨μ3, l1, l2⟩ := ih (r + 1) (V 1 0 0) a μ2 q1 q3 bz.1 bz.2 a0 (by omega) (by omega) (by omega)
      refine ⟨μ3, frq_tr f9 l1, ?_⟩
      have l3 := am_E_le (am_lq_of _ [some (.inr (.inr 99)), some (.inl z0), some (.inl N), some (.inl p), some (.inl t), some (.inl (V 1 0 0)), some (.inl a), some (.inl (r + 1)), some (.inl N)] (by simp [am_leb])) l2
      rw [← l3]
      rw [e251_48]; simp (disch := (first | omega | (simp (disch := omega) only [sr_up, wr_up_o]; omega))) only [e251_61, ks_122, ks_99, rm_drawn hρ, ite_self, Bool.false_eq_true, eq_self, isk_t, i20_t, w20_t, l23_t, b21_t, b22_t, w_t, bif_t, bif_f, bif_d, if_pos, if_neg, if_true, if_false, not_true_eq_false, not_false_eq_true, Option.bind_some, Option.toList_some, Option.toList_none, List.cons_append, List.nil_append, Int.toNat_natCast, Int.reduceToNat, up_eq, up_p, up_k, sN,  f3, k3 ]
      rw [e251_72]; simp (disch := (first | omega | (simp (disch := omega) only [sr_up, wr_up_o]; omega))) only [e251_108, ks_122, ks_99, rm_drawn hρ, ite_self, Bool.false_eq_true, eq_self, isk_t, i20_t, w20_t, l23_t, b21_t, b22_t, w_t, bif_t, bif_f, bif_d, if_pos, if_neg, if_true, if_false, not_true_eq_false, not_false_eq_true, Option.bind_some, Option.toList_some, Option.toList_none, List.cons_append, List.nil_append, Int.toNat_natCast, Int.reduceToNat, up_eq, up_p, up_k, sN,  y1, R_doesHave hρ, q2, c, Int.add_zero ]
    · rw [if_neg c]
      obtain ⟨μ3, l1, l2⟩ := ih (r + 1) (V 1 0 0) (a + 1) μ2 q1 q3 bz.1 bz.2 (by omega) (by omega) (by omega) (by omega)
      refine ⟨μ3, frq_tr f9 l1, ?_⟩
      have l3 := am_E_le (am_lq_of _ [some (.inr (.inr 99)), some (.inl z0), some (.inl N), some (.inl p), some (.inl t), some (.inl (V 1 0 0)), some (.inl (a + 1)), some (.inl (r + 1)), some (.inl N)] (by simp [am_leb])) l2
      rw [← l3]
      rw [e251_48]; simp (disch := (first | omega | (simp (disch := omega) only [sr_up, wr_up_o]; omega))) only [e251_61, ks_122, ks_99, rm_drawn hρ, ite_self, Bool.false_eq_true, eq_self, isk_t, i20_t, w20_t, l23_t, b21_t, b22_t, w_t, bif_t, bif_f, bif_d, if_pos, if_neg, if_true, if_false, not_true_eq_false, not_false_eq_true, Option.bind_some, Option.toList_some, Option.toList_none, List.cons_append, List.nil_append, Int.toNat_natCast, Int.reduceToNat, up_eq, up_p, up_k, sN,  f3, k3 ]
      rw [e251_72]; simp (disch := (first | omega | (simp (disch := omega) only [sr_up, wr_up_o]; omega))) only [e251_108, ks_122, ks_99, rm_drawn hρ, ite_self, Bool.false_eq_true, eq_self, isk_t, i20_t, w20_t, l23_t, b21_t, b22_t, w_t, bif_t, bif_f, bif_d, if_pos, if_neg, if_true, if_false, not_true_eq_false, not_false_eq_true, Option.bind_some, Option.toList_some, Option.toList_none, List.cons_append, List.nil_append, Int.toNat_natCast, Int.reduceToNat, up_eq, up_p, up_k, sN,  y1, R_doesHave hρ, q2, c ]
theorem R_chance (h : RLq ρ μ b w u S W) {z n p t : Int} (z1 : z < 2147483648) : ∃ μ', FrQ μ μ' ∧ am_E (d + 8) 251 0 [some (.inr (.inr 99)), some (.inl z), some (.inl n), some (.inl p), some (.inl t), none, none, none, none] [] (SH, ρ, μ, cs) = some (some (.inl (chanA S (CR μ 1) W z n p t)), (SH, ρ, μ', cs)) := by
  have hG := (cr_gc h).2
  have h1 := rl_q h (frr_rf ρ) (frq_t0 μ 0)
  obtain ⟨hx, hρ, hb, hgs, hw46, hu64, hSR, hS, hX, hWR, hWI, hW, hday, h49, h51, h53⟩ := h; have hw : w = 46 ∨ w = 55 ∨ w = 64 := Or.inl hw46; have hu : u = 46 ∨ u = 55 ∨ u = 64 := Or.inr (Or.inr hu64); have hn5 := (xm_0_5 hx).trans hw46.symm; have hn7 := (xm_0_7 hx).trans hu64.symm; have b0 := hS.1; have b1 := hS.2.1
  unfold chanA
  by_cases g0 : 0 ≤ z
  rotate_left
  · refine ⟨am_up μ 99 0 0, frq_t0 μ 0, ?_⟩
    rw [if_neg (fun g => g0 g.1)]
    simp (disch := (first | omega | (simp (disch := omega) only [sr_up, wr_up_o]; omega))) only [e251_0, ks_99, ite_self, Bool.false_eq_true, eq_self, isk_t, i20_t, w20_t, l23_t, b21_t, b22_t, w_t, bif_t, bif_f, bif_d, if_pos, if_neg, if_true, if_false, not_true_eq_false, not_false_eq_true, Option.bind_some, Option.toList_some, Option.toList_none, List.cons_append, List.nil_append, Int.toNat_natCast, Int.reduceToNat, up_eq, up_p, up_k, sN]
  by_cases g1 : 1 ≤ n ∧ n ≤ 99
  rotate_left
  · refine ⟨am_up μ 99 0 0, frq_t0 μ 0, ?_⟩
    rw [if_neg (fun g => g1 g.2.1)]
    by_cases g2 : n < 1
    · simp (disch := (first | omega | (simp (disch := omega) only [sr_up, wr_up_o]; omega))) only [e251_0, ks_99, ite_self, Bool.false_eq_true, eq_self, isk_t, i20_t, w20_t, l23_t, b21_t, b22_t, w_t, bif_t, bif_f, bif_d, if_pos, if_neg, if_true, if_false, not_true_eq_false, not_false_eq_true, Option.bind_some, Option.toList_some, Option.toList_none, List.cons_append, List.nil_append, Int.toNat_natCast, Int.reduceToNat, up_eq, up_p, up_k, sN]
    · simp (disch := (first | omega | (simp (disch := omega) only [sr_up, wr_up_o]; omega))) only [e251_0, ks_99, ite_self, Bool.false_eq_true, eq_self, isk_t, i20_t, w20_t, l23_t, b21_t, b22_t, w_t, bif_t, bif_f, bif_d, if_pos, if_neg, if_true, if_false, not_true_eq_false, not_false_eq_true, Option.bind_some, Option.toList_some, Option.toList_none, List.cons_append, List.nil_append, Int.toNat_natCast, Int.reduceToNat, up_eq, up_p, up_k, sN]
  by_cases g2 : 0 ≤ p ∧ p < S 0 0
  rotate_left
  · refine ⟨am_up μ 99 0 0, frq_t0 μ 0, ?_⟩
    rw [if_neg (fun g => g2 g.2.2.1)]
    simp (disch := (first | omega | (simp (disch := omega) only [sr_up, wr_up_o]; omega))) only [e251_0, e251_25, ks_99, ite_self, Bool.false_eq_true, eq_self, isk_t, i20_t, w20_t, l23_t, b21_t, b22_t, w_t, bif_t, bif_f, bif_d, if_pos, if_neg, if_true, if_false, not_true_eq_false, not_false_eq_true, Option.bind_some, Option.toList_some, Option.toList_none, List.cons_append, List.nil_append, Int.toNat_natCast, Int.reduceToNat, up_eq, up_p, up_k, sN,  R_isMan hρ, R_isThing hρ, sr_up, hSR, wr_up_o, hWR ]
  by_cases g3 : 0 ≤ t ∧ t < S 0 1
  rotate_left
  · refine ⟨am_up μ 99 0 0, frq_t0 μ 0, ?_⟩
    rw [if_neg (fun g => g3 g.2.2.2)]
    simp (disch := (first | omega | (simp (disch := omega) only [sr_up, wr_up_o]; omega))) only [e251_0, e251_25, e251_34, ks_99, ite_self, Bool.false_eq_true, eq_self, isk_t, i20_t, w20_t, l23_t, b21_t, b22_t, w_t, bif_t, bif_f, bif_d, if_pos, if_neg, if_true, if_false, not_true_eq_false, not_false_eq_true, Option.bind_some, Option.toList_some, Option.toList_none, List.cons_append, List.nil_append, Int.toNat_natCast, Int.reduceToNat, up_eq, up_p, up_k, sN,  R_isMan hρ, R_isThing hρ, sr_up, hSR, wr_up_o, hWR ]
  rw [if_pos ⟨g0, g1, g2, g3⟩]
  obtain ⟨μ2, k1, k2⟩ := R_chan_loop (ρ := ρ) (cs := cs) (d := d) (b := b) (w := w) (u := u) (W := W) (C := CR μ 1) (z0 := z) (N := n) (p := p) (t := t) (gc_ci hS hG) (fun _ => rfl) (by omega) (by omega) g2.1 g2.2 g3.1 g3.2 10 0 z 0 _ h1 thr_CR g0 z1 (by omega) (by omega) (by omega) (by omega)
  refine ⟨μ2, frq_tr (frq_t0 μ 0) k1, ?_⟩
  rw [← k2]
  simp (disch := (first | omega | (simp (disch := omega) only [sr_up, wr_up_o]; omega))) only [e251_0, e251_25, e251_34, ks_99, ite_self, Bool.false_eq_true, eq_self, isk_t, i20_t, w20_t, l23_t, b21_t, b22_t, w_t, bif_t, bif_f, bif_d, if_pos, if_neg, if_true, if_false, not_true_eq_false, not_false_eq_true, Option.bind_some, Option.toList_some, Option.toList_none, List.cons_append, List.nil_append, Int.toNat_natCast, Int.reduceToNat, up_eq, up_p, up_k, sN,  R_isMan hρ, R_isThing hρ, sr_up, hSR, wr_up_o, hWR ]
end QS
