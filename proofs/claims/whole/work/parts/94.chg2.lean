/-! CALLS that change: keep, back, go -/
section CK
variable {ρ ρ' : Nat → Nat → Nat} {μ μ' : Nat → Nat → Int} {cs : Nat × Nat × Nat} {d b w u : Nat} {S : MS} {W V : MW} {C : MC}
/-- notes, tape, fault, constants stay -/
theorem ra_rest (r4 : NTS μ S) (r5 : TAP μ) (r6 : μ 40 6 = μ 99 30 ∧ μ 40 7 = μ 99 31) (r7 : CST ρ μ b) (hr : ρ' 0 4 = ρ 0 4) (hf : ∀ q k, (q = 0 ∧ k = 1) ∨ q = 1 ∨ q = 40 ∨ q = 42 ∨ (87 ≤ q ∧ q ≤ 93) ∨ (q = 99 ∧ (k = 2 ∨ k = 30 ∨ k = 31 ∨ k = 58 ∨ k = 59)) ∨ q = 100 ∨ (134 ≤ q ∧ q ≤ 138) ∨ q = 1000001 ∨ q = 1000002 → μ' q k = μ q k) : NTS μ' S ∧ TAP μ' ∧ (μ' 40 6 = μ' 99 30 ∧ μ' 40 7 = μ' 99 31) ∧ CST ρ' μ' b :=
  ⟨nts_fr r4 (fun k _ => hf _ _ (by omega)) (hf _ _ (by omega)) (hf _ _ (by omega)) (fun q i g => hf _ _ (by omega)), tap_fr r5 (hf _ _ (by omega)) (hf _ _ (by omega)) (fun i => hf _ _ (by omega)) (fun i => hf _ _ (by omega)), ⟨by rw [hf _ _ (by omega), hf _ _ (by omega)]; exact r6.1, by rw [hf _ _ (by omega), hf _ _ (by omega)]; exact r6.2⟩, cst_fr r7 hr (fun i => hf _ _ (by omega)) (fun q i g => hf _ _ (by omega))⟩
theorem C_keep (h : RA ρ μ) : BT ρ μ cs (fun H => am_E (d + 20) 131 0 [some (.inr (.inr 0))] [] H) (fun H => am_E (d + 20) 254 0 [some (.inr (.inr 99))] [] H) := by
  obtain ⟨b, w, u, S, W, h⟩ := h
  obtain ⟨h, r2, r3, r4, r5, r6, r7, r8⟩ := h
  have h0 := h
  obtain ⟨hx, hρ, hb, hgs, hw46, hu64, hSR, hS, hX, hWR, hWI, hW, hday, h49, h51, h53⟩ := h; have hw : w = 46 ∨ w = 55 ∨ w = 64 := Or.inl hw46; have hu : u = 46 ∨ u = 55 ∨ u = 64 := Or.inr (Or.inr hu64); have hn5 := (xm_0_5 hx).trans hw46.symm; have hn7 := (xm_0_7 hx).trans hu64.symm; have b0 := hS.1; have b1 := hS.2.1
  obtain ⟨v, hv55⟩ : ∃ v : Nat, v = 55 := ⟨55, rfl⟩
  have hv : v = 46 ∨ v = 55 ∨ v = 64 := Or.inr (Or.inl hv55)
  have hn6 := (xm_0_6 hx).trans hv55.symm
  obtain ⟨μ1, g1, g2, g3⟩ := X_becomeLike (ρ := ρ) (cs := cs) (d := d + 18) (w := v) (v := w) hx hv hw (by omega) hW
  have y0 := xw_day (xw_fr hW (μ' := μ1) (fun q k a c => g1 q k (by omega)))
  obtain ⟨μ2, k1, k2, k3⟩ := R_copies (ρ := ρ) (cs := cs) (d := d + 19) (μ := am_up (am_up μ1 0 8 1) 99 0 0) (s := 2) (s' := 0) hρ (by omega) (by omega) (by omega) (by omega) (by omega)
  have hfa : ∀ q k, ¬ (v ≤ q ∧ q < v + 9) → ¬ (q = 0 ∧ k = 8) → ¬ (q = 99 ∧ (k = 0 ∨ k = 47)) → ¬ FrT 2 q k → ¬ FrS q k → am_up μ2 99 47 1 q k = μ q k := fun q k a1 a2 a3 a4 a5 => by rw [am_up_no (by omega), k1 q k a4 a5, am_up_no (by omega), am_up_no (by omega), g1 q k a1]
  have wW : WR (am_up μ2 99 47 1) 2 = W := by
    rw [wr_up_o (by omega), k2, wr_up_o (by omega)]
    rw [← hWR]
    exact WR_s (by omega) (fun q k hq => by rw [up_p (by omega), g1 q k (by omega)])
  have w0 : μ2 121 0 = W 0 0 0 := by
    rw [k1 121 0 (by omega) (by omega), up_p (by omega), up_p (by omega), g1 121 0 (by omega), ← hWR]; rfl
  refine ⟨.inl (W 0 0 0), ρ, am_up μ1 0 8 1, am_up μ2 99 47 1, ?_, ?_, b, w, u, S, W, rl_b h0 (frr_rf ρ) (fun q k hq => hfa q k (by omega) (by omega) (by omega) (by omega) (by omega)), und_fr r2 (hfa _ _ (by omega) (by omega) (by omega) (by omega) (by omega)) (hfa _ _ (by omega) (by omega) (by omega) (by omega) (by omega)) (fun q i _ _ => hfa _ _ (by omega) (by omega) (by omega) (by omega) (by omega)) (fun s a1 a2 => WR_s (by omega) (fun q k hq => hfa _ _ (by omega) (by omega) (by omega) (by omega) (by omega))), ?_, ?_⟩
  · simp (disch := omega) only [e131_0, e131_11, hgs, hn5, hn6, xk_0, xk_1, xk_40, xk_41, xk_42, xk_43, xk_44, xk_45, xk_46, xk_47, xk_48, xk_49, xk_50, xk_51, xk_52, xk_53, xk_54, xk_55, xk_56, xk_57, xk_58, xk_59, xk_60, xk_61, xk_62, xk_63, xk_64, xk_65, xk_66, xk_67, xk_68, xk_69, xk_70, xk_71, xk_72, xk_73, xk_74, xk_75, xk_76, xk_77, xk_78, xk_79, xk_80, xk_81, xk_82, xk_83, xk_84, xk_85, xk_86, xk_87, xk_88, xk_89, xk_90, xk_91, xk_92, xk_93, xk_94, xk_95, xk_96, xk_97, xk_98, xk_st0 hb, xk_st1 hb, xk_st10 hb, xk_st11 hb, xk_st12 hb, xk_st13 hb, xk_st14 hb, xk_st15 hb, xk_st16 hb, xk_st17 hb, xk_st18 hb, xk_st2 hb, xk_st3 hb, xk_st4 hb, xk_st5 hb, xk_st6 hb, xk_st7 hb, xk_st8 hb, xk_st9 hb, xk_wd0 hv, xk_wd0 hw, xk_wd1 hv, xk_wd1 hw, xk_wd2 hv, xk_wd2 hw, xk_wd3 hv, xk_wd3 hw, xk_wd4 hv, xk_wd4 hw, xk_wd5 hv, xk_wd5 hw, xk_wd6 hv, xk_wd6 hw, xk_wd7 hv, xk_wd7 hw, xk_wd8 hv, xk_wd8 hw, xm_0_0 hx, xm_0_10 hx, xm_0_11 hx, xm_0_12 hx, xm_0_13 hx, xm_0_14 hx, xm_0_15 hx, xm_0_2 hx, xm_0_9 hx, xm_40_0 hx, xm_40_1 hx, xm_41_0 hx, xm_44_0 hx, xm_44_1 hx, xm_73_4 hx, xm_73_5 hx, xm_73_6 hx, xm_77_1 hx, xm_77_2 hx, xm_77_3 hx, xm_77_4 hx, xm_77_5 hx, xm_77_6 hx, xm_77_7 hx, xm_77_8 hx, xm_77_9 hx, xm_87_2 hx, xm_87_3 hx, xm_87_4 hx, xm_87_5 hx, xm_87_6 hx, xm_87_7 hx, xm_87_8 hx, xm_lw2 hx hb, xm_lw3 hx hb, xm_lw4 hx hb, xm_lw5 hx hb, xm_st1 hx hb, xm_st10 hx hb, xm_st11 hx hb, xm_st13 hx hb, xm_st14 hx hb, xm_st15 hx hb, xm_st16 hx hb, xm_st17 hx hb, xm_st2 hx hb, xm_st4 hx hb, xm_st5 hx hb, xm_st6 hx hb, xm_st7 hx hb, xm_st9 hx hb, xm_wd10 hx hv, xm_wd10 hx hw, xm_wd11 hx hv, xm_wd11 hx hw, xm_wd4 hx hv, xm_wd4 hx hw, xm_wd5 hx hv, xm_wd5 hx hw, xm_wd6 hx hv, xm_wd6 hx hw, xm_wd7 hx hv, xm_wd7 hx hw, xm_wd8 hx hv, xm_wd8 hx hw, xm_wd9 hx hv, xm_wd9 hx hw, ite_self, Bool.false_eq_true, eq_self, isk_t, i20_t, w20_t, l23_t, b21_t, b22_t, w_t, bif_t, bif_f, bif_d, if_pos, if_neg, if_true, if_false, not_true_eq_false, not_false_eq_true, Option.bind_some, Option.toList_some, Option.toList_none, List.cons_append, List.nil_append, Int.toNat_natCast, Int.reduceToNat, up_eq, up_p, up_k, sN,  g3, y0, or_true, decide_true, Bool.and_self ]
  · simp (disch := (first | omega | (simp (disch := omega) only [sr_up, wr_up_o]; omega))) only [e254_0, e254_11, ks_121, ks_99, rm_day hρ, ite_self, Bool.false_eq_true, eq_self, isk_t, i20_t, w20_t, l23_t, b21_t, b22_t, w_t, bif_t, bif_f, bif_d, if_pos, if_neg, if_true, if_false, not_true_eq_false, not_false_eq_true, Option.bind_some, Option.toList_some, Option.toList_none, List.cons_append, List.nil_append, Int.toNat_natCast, Int.reduceToNat, up_eq, up_p, up_k, sN,  k3, w0, or_true, decide_true, Bool.and_self ]
  · refine ⟨?_, Or.inr ⟨up_eq, ?_, ?_, ?_⟩⟩
    · rw [up_eq, up_p (by omega), k1 0 8 (by omega) (by omega), up_p (by omega), up_eq]
    · rw [wW, ← hv55]
      exact xw_fr g2 (fun q k a c => by rw [up_p (by omega), k1 q k (by omega) (by omega), up_p (by omega), up_p (by omega)])
    · rw [wW]; exact r8
    · rw [wW]; exact hday
  · obtain ⟨e1, e2, e3, e4⟩ := ra_rest r4 r5 r6 r7 rfl (fun q k hq => hfa q k (by omega) (by omega) (by omega) (by omega) (by omega))
    exact ⟨e1, e2, e3, e4, r8⟩
theorem und_0 (h0 : μ' 77 0 = 0) (h1 : μ' 99 48 = 0) : UND μ' S W := ⟨by rw [h0, h1], by omega, by omega, fun i hi => by omega⟩
theorem C_back (h : RA ρ μ) : BT ρ μ cs (fun H => am_E (d + 20) 132 0 [some (.inr (.inr 0))] [] H) (fun H => am_E (d + 20) 255 0 [some (.inr (.inr 99))] [] H) := by
  obtain ⟨b, w, u, S, W, h⟩ := h
  obtain ⟨h, r2, r3, r4, r5, r6, r7, r8⟩ := h
  have h0 := h
  obtain ⟨hx, hρ, hb, hgs, hw46, hu64, hSR, hS, hX, hWR, hWI, hW, hday, h49, h51, h53⟩ := h; have hw : w = 46 ∨ w = 55 ∨ w = 64 := Or.inl hw46; have hu : u = 46 ∨ u = 55 ∨ u = 64 := Or.inr (Or.inr hu64); have hn5 := (xm_0_5 hx).trans hw46.symm; have hn7 := (xm_0_7 hx).trans hu64.symm; have b0 := hS.1; have b1 := hS.2.1
  rcases r3.2 with hi | ⟨hi, i2, i3, i4⟩
  · have hi8 := r3.1
    rw [hi] at hi8
    refine ⟨.inl (-1), ρ, μ, am_up μ 99 0 0, ?_, ?_, b, w, u, S, W, ra_q ⟨h0, r2, r3, r4, r5, r6, r7, r8⟩ (frr_rf ρ) (frq_t0 μ 0)⟩
    · obtain ⟨v, hv55⟩ : ∃ v : Nat, v = 55 := ⟨55, rfl⟩
      have hv : v = 46 ∨ v = 55 ∨ v = 64 := Or.inr (Or.inl hv55)
      have hn6 := (xm_0_6 hx).trans hv55.symm
      simp (disch := omega) only [e132_0, hgs, hn5, hn6, xk_0, xk_1, xk_40, xk_41, xk_42, xk_43, xk_44, xk_45, xk_46, xk_47, xk_48, xk_49, xk_50, xk_51, xk_52, xk_53, xk_54, xk_55, xk_56, xk_57, xk_58, xk_59, xk_60, xk_61, xk_62, xk_63, xk_64, xk_65, xk_66, xk_67, xk_68, xk_69, xk_70, xk_71, xk_72, xk_73, xk_74, xk_75, xk_76, xk_77, xk_78, xk_79, xk_80, xk_81, xk_82, xk_83, xk_84, xk_85, xk_86, xk_87, xk_88, xk_89, xk_90, xk_91, xk_92, xk_93, xk_94, xk_95, xk_96, xk_97, xk_98, xk_st0 hb, xk_st1 hb, xk_st10 hb, xk_st11 hb, xk_st12 hb, xk_st13 hb, xk_st14 hb, xk_st15 hb, xk_st16 hb, xk_st17 hb, xk_st18 hb, xk_st2 hb, xk_st3 hb, xk_st4 hb, xk_st5 hb, xk_st6 hb, xk_st7 hb, xk_st8 hb, xk_st9 hb, xk_wd0 hv, xk_wd0 hw, xk_wd1 hv, xk_wd1 hw, xk_wd2 hv, xk_wd2 hw, xk_wd3 hv, xk_wd3 hw, xk_wd4 hv, xk_wd4 hw, xk_wd5 hv, xk_wd5 hw, xk_wd6 hv, xk_wd6 hw, xk_wd7 hv, xk_wd7 hw, xk_wd8 hv, xk_wd8 hw, xm_0_0 hx, xm_0_10 hx, xm_0_11 hx, xm_0_12 hx, xm_0_13 hx, xm_0_14 hx, xm_0_15 hx, xm_0_2 hx, xm_0_9 hx, xm_40_0 hx, xm_40_1 hx, xm_41_0 hx, xm_44_0 hx, xm_44_1 hx, xm_73_4 hx, xm_73_5 hx, xm_73_6 hx, xm_77_1 hx, xm_77_2 hx, xm_77_3 hx, xm_77_4 hx, xm_77_5 hx, xm_77_6 hx, xm_77_7 hx, xm_77_8 hx, xm_77_9 hx, xm_87_2 hx, xm_87_3 hx, xm_87_4 hx, xm_87_5 hx, xm_87_6 hx, xm_87_7 hx, xm_87_8 hx, xm_lw2 hx hb, xm_lw3 hx hb, xm_lw4 hx hb, xm_lw5 hx hb, xm_st1 hx hb, xm_st10 hx hb, xm_st11 hx hb, xm_st13 hx hb, xm_st14 hx hb, xm_st15 hx hb, xm_st16 hx hb, xm_st17 hx hb, xm_st2 hx hb, xm_st4 hx hb, xm_st5 hx hb, xm_st6 hx hb, xm_st7 hx hb, xm_st9 hx hb, xm_wd10 hx hv, xm_wd10 hx hw, xm_wd11 hx hv, xm_wd11 hx hw, xm_wd4 hx hv, xm_wd4 hx hw, xm_wd5 hx hv, xm_wd5 hx hw, xm_wd6 hx hv, xm_wd6 hx hw, xm_wd7 hx hv, xm_wd7 hx hw, xm_wd8 hx hv, xm_wd8 hx hw, xm_wd9 hx hv, xm_wd9 hx hw, ite_self, Bool.false_eq_true, eq_self, isk_t, i20_t, w20_t, l23_t, b21_t, b22_t, w_t, bif_t, bif_f, bif_d, if_pos, if_neg, if_true, if_false, not_true_eq_false, not_false_eq_true, Option.bind_some, Option.toList_some, Option.toList_none, List.cons_append, List.nil_append, Int.toNat_natCast, Int.reduceToNat, up_eq, up_p, up_k, sN,  hi8 ]
    · simp (disch := (first | omega | (simp (disch := omega) only [sr_up, wr_up_o]; omega))) only [e255_0, ks_99, ite_self, Bool.false_eq_true, eq_self, isk_t, i20_t, w20_t, l23_t, b21_t, b22_t, w_t, bif_t, bif_f, bif_d, if_pos, if_neg, if_true, if_false, not_true_eq_false, not_false_eq_true, Option.bind_some, Option.toList_some, Option.toList_none, List.cons_append, List.nil_append, Int.toNat_natCast, Int.reduceToNat, up_eq, up_p, up_k, sN,  hi ]
  · have hi8 := r3.1
    rw [hi] at hi8
    obtain ⟨v, hv55⟩ : ∃ v : Nat, v = 55 := ⟨55, rfl⟩
    have hv : v = 46 ∨ v = 55 ∨ v = 64 := Or.inr (Or.inl hv55)
    have hn6 := (xm_0_6 hx).trans hv55.symm
    rw [← hv55] at i2
    generalize hI : WR μ 2 = I at i2 i3 i4
    obtain ⟨μ1, g1, g2, g3⟩ := X_becomeLike (ρ := ρ) (cs := cs) (d := d + 18) (w := w) (v := v) hx hw hv (by omega) i2
    have y0 := xw_day g2
    obtain ⟨μ2, k1, k2, k3⟩ := R_copies (ρ := ρ) (cs := cs) (d := d + 19) (μ := am_up (am_up μ1 77 0 0) 99 0 0) (s := 0) (s' := 2) hρ (by omega) (by omega) (by omega) (by omega) (by omega)
    have hfa : ∀ q k, ¬ (w ≤ q ∧ q < w + 9) → ¬ (q = 77 ∧ k = 0) → ¬ (q = 99 ∧ (k = 0 ∨ k = 48)) → ¬ FrT 0 q k → ¬ FrS q k → am_up μ2 99 48 0 q k = μ q k := fun q k a1 a2 a3 a4 a5 => by rw [am_up_no (by omega), k1 q k a4 a5, am_up_no (by omega), am_up_no (by omega), g1 q k a1]
    have wI : WR (am_up μ2 99 48 0) 0 = I := by
      rw [wr_up_o (by omega), k2, wr_up_o (by omega)]
      rw [← hI]
      exact WR_s (by omega) (fun q k hq => by rw [up_p (by omega), g1 q k (by omega)])
    have w0 : μ2 121 0 = I 0 0 0 := by rw [← wI]; show μ2 121 0 = am_up μ2 99 48 0 121 0; rw [up_p (by omega)]
    have m99 : ∀ k, k ≠ 0 → k ≠ 36 → k ≠ 48 → am_up μ2 99 48 0 99 k = μ 99 k := fun k a1 a2 a3 => hfa 99 k (by omega) (by omega) (by omega) (by omega) (by omega)
    refine ⟨.inl (I 0 0 0), ρ, am_up μ1 77 0 0, am_up μ2 99 48 0, ?_, ?_, b, w, u, S, I, rl_new h0 (frr_rf ρ) (fun q k hq => hfa q k (by omega) (by omega) (by omega) (by omega) (by omega)) (by rw [m99 _ (by omega) (by omega) (by omega)]; exact h49) (by rw [m99 _ (by omega) (by omega) (by omega)]; exact h51) (by rw [m99 _ (by omega) (by omega) (by omega)]; exact h53) wI (xw_fr g2 (fun q k a c => by rw [up_p (by omega), k1 q k (by omega) (by omega), up_p (by omega), up_p (by omega)])) (WI_mono i3 (by omega)) i4, und_0 ?_ up_eq, img_fr r3 (hfa _ _ (by omega) (by omega) (by omega) (by omega) (by omega)) (m99 _ (by omega) (by omega) (by omega)) (fun q k _ _ => hfa _ _ (by omega) (by omega) (by omega) (by omega) (by omega)) (WR_s (by omega) (fun q k hq => hfa _ _ (by omega) (by omega) (by omega) (by omega) (by omega))), ?_⟩
    · have y0' : am_up μ1 77 0 0 w 0 = I 0 0 0 := by rw [up_p (by omega)]; exact y0
      simp (disch := omega) only [e132_0, e132_20, hgs, hn5, hn6, xk_0, xk_1, xk_40, xk_41, xk_42, xk_43, xk_44, xk_45, xk_46, xk_47, xk_48, xk_49, xk_50, xk_51, xk_52, xk_53, xk_54, xk_55, xk_56, xk_57, xk_58, xk_59, xk_60, xk_61, xk_62, xk_63, xk_64, xk_65, xk_66, xk_67, xk_68, xk_69, xk_70, xk_71, xk_72, xk_73, xk_74, xk_75, xk_76, xk_77, xk_78, xk_79, xk_80, xk_81, xk_82, xk_83, xk_84, xk_85, xk_86, xk_87, xk_88, xk_89, xk_90, xk_91, xk_92, xk_93, xk_94, xk_95, xk_96, xk_97, xk_98, xk_st0 hb, xk_st1 hb, xk_st10 hb, xk_st11 hb, xk_st12 hb, xk_st13 hb, xk_st14 hb, xk_st15 hb, xk_st16 hb, xk_st17 hb, xk_st18 hb, xk_st2 hb, xk_st3 hb, xk_st4 hb, xk_st5 hb, xk_st6 hb, xk_st7 hb, xk_st8 hb, xk_st9 hb, xk_wd0 hv, xk_wd0 hw, xk_wd1 hv, xk_wd1 hw, xk_wd2 hv, xk_wd2 hw, xk_wd3 hv, xk_wd3 hw, xk_wd4 hv, xk_wd4 hw, xk_wd5 hv, xk_wd5 hw, xk_wd6 hv, xk_wd6 hw, xk_wd7 hv, xk_wd7 hw, xk_wd8 hv, xk_wd8 hw, xm_0_0 hx, xm_0_10 hx, xm_0_11 hx, xm_0_12 hx, xm_0_13 hx, xm_0_14 hx, xm_0_15 hx, xm_0_2 hx, xm_0_9 hx, xm_40_0 hx, xm_40_1 hx, xm_41_0 hx, xm_44_0 hx, xm_44_1 hx, xm_73_4 hx, xm_73_5 hx, xm_73_6 hx, xm_77_1 hx, xm_77_2 hx, xm_77_3 hx, xm_77_4 hx, xm_77_5 hx, xm_77_6 hx, xm_77_7 hx, xm_77_8 hx, xm_77_9 hx, xm_87_2 hx, xm_87_3 hx, xm_87_4 hx, xm_87_5 hx, xm_87_6 hx, xm_87_7 hx, xm_87_8 hx, xm_lw2 hx hb, xm_lw3 hx hb, xm_lw4 hx hb, xm_lw5 hx hb, xm_st1 hx hb, xm_st10 hx hb, xm_st11 hx hb, xm_st13 hx hb, xm_st14 hx hb, xm_st15 hx hb, xm_st16 hx hb, xm_st17 hx hb, xm_st2 hx hb, xm_st4 hx hb, xm_st5 hx hb, xm_st6 hx hb, xm_st7 hx hb, xm_st9 hx hb, xm_wd10 hx hv, xm_wd10 hx hw, xm_wd11 hx hv, xm_wd11 hx hw, xm_wd4 hx hv, xm_wd4 hx hw, xm_wd5 hx hv, xm_wd5 hx hw, xm_wd6 hx hv, xm_wd6 hx hw, xm_wd7 hx hv, xm_wd7 hx hw, xm_wd8 hx hv, xm_wd8 hx hw, xm_wd9 hx hv, xm_wd9 hx hw, ite_self, Bool.false_eq_true, eq_self, isk_t, i20_t, w20_t, l23_t, b21_t, b22_t, w_t, bif_t, bif_f, bif_d, if_pos, if_neg, if_true, if_false, not_true_eq_false, not_false_eq_true, Option.bind_some, Option.toList_some, Option.toList_none, List.cons_append, List.nil_append, Int.toNat_natCast, Int.reduceToNat, up_eq, up_p, up_k, sN,  hi8, g3, y0 ]
    · have z47 : μ1 99 47 = 1 := by rw [g1 99 47 (by omega)]; exact hi
      simp (disch := (first | omega | (simp (disch := omega) only [sr_up, wr_up_o]; omega))) only [e255_0, e255_20, ks_121, ks_99, rm_day hρ, ite_self, Bool.false_eq_true, eq_self, isk_t, i20_t, w20_t, l23_t, b21_t, b22_t, w_t, bif_t, bif_f, bif_d, if_pos, if_neg, if_true, if_false, not_true_eq_false, not_false_eq_true, Option.bind_some, Option.toList_some, Option.toList_none, List.cons_append, List.nil_append, Int.toNat_natCast, Int.reduceToNat, up_eq, up_p, up_k, sN,  z47, k3, w0 ]
    · rw [up_p (by omega), k1 77 0 (by omega) (by omega), up_p (by omega), up_eq]
    · obtain ⟨e1, e2, e3, e4⟩ := ra_rest r4 r5 r6 r7 rfl (fun q k hq => hfa q k (by omega) (by omega) (by omega) (by omega) (by omega))
      exact ⟨e1, e2, e3, e4, i3⟩
/-- days of now -/
theorem X_go_loop {N : Int} (hS : SI S) (hC : CI S C) (h3 : C.2.2.1 < 3) (hN0 : 0 < N) (hN : N ≤ 200) (hx : XM ρ) (hb : b = 2 ∨ b = 21) (hgs : ρ 0 3 = b) (hw : w = 46 ∨ w = 55 ∨ w = 64) (hn5 : ρ 0 5 = w) (hst : ρ 73 0 = b) (hwd : ρ 73 1 = w) : ∀ (n : Nat) (k D : Int) (V : MW) (μ : Nat → Nat → Int), XS μ b S → XW μ w V → XC μ S C → WI S D V → D + n < 20000 → 0 ≤ k → k + n = N → ∃ μ', FrX w μ μ' ∧ XW μ' w (daysW S C n V) ∧ am_E (d + 7) 97 45 [some (.inr (.inr 0)), some (.inl N), some (.inl k)] [] (SH, ρ, μ, cs) = some (some (.inl (daysW S C n V 0 0 0)), (SH, ρ, am_up μ' 77 0 0, cs)) := by
  intro n
  induction n with
  | zero =>
    intro k D V μ hX hW hK hV2 hD k0 hk
    have y0 := xw_day hW
    refine ⟨μ, frx_rf w μ, hW, ?_⟩
    have e : daysW S C 0 V = V := rfl
    rw [e]
    rw [e97_45]; simp (disch := omega) only [hgs, hn5, hst, hwd, xk_0, xk_1, xk_40, xk_41, xk_42, xk_43, xk_44, xk_45, xk_46, xk_47, xk_48, xk_49, xk_50, xk_51, xk_52, xk_53, xk_54, xk_55, xk_56, xk_57, xk_58, xk_59, xk_60, xk_61, xk_62, xk_63, xk_64, xk_65, xk_66, xk_67, xk_68, xk_69, xk_70, xk_71, xk_72, xk_73, xk_74, xk_75, xk_76, xk_77, xk_78, xk_79, xk_80, xk_81, xk_82, xk_83, xk_84, xk_85, xk_86, xk_87, xk_88, xk_89, xk_90, xk_91, xk_92, xk_93, xk_94, xk_95, xk_96, xk_97, xk_98, xk_st0 hb, xk_st1 hb, xk_st10 hb, xk_st11 hb, xk_st12 hb, xk_st13 hb, xk_st14 hb, xk_st15 hb, xk_st16 hb, xk_st17 hb, xk_st18 hb, xk_st2 hb, xk_st3 hb, xk_st4 hb, xk_st5 hb, xk_st6 hb, xk_st7 hb, xk_st8 hb, xk_st9 hb, xk_wd0 hw, xk_wd1 hw, xk_wd2 hw, xk_wd3 hw, xk_wd4 hw, xk_wd5 hw, xk_wd6 hw, xk_wd7 hw, xk_wd8 hw, xm_0_0 hx, xm_0_10 hx, xm_0_11 hx, xm_0_12 hx, xm_0_13 hx, xm_0_14 hx, xm_0_15 hx, xm_0_2 hx, xm_0_9 hx, xm_40_0 hx, xm_40_1 hx, xm_41_0 hx, xm_44_0 hx, xm_44_1 hx, xm_73_4 hx, xm_73_5 hx, xm_73_6 hx, xm_77_1 hx, xm_77_2 hx, xm_77_3 hx, xm_77_4 hx, xm_77_5 hx, xm_77_6 hx, xm_77_7 hx, xm_77_8 hx, xm_77_9 hx, xm_87_2 hx, xm_87_3 hx, xm_87_4 hx, xm_87_5 hx, xm_87_6 hx, xm_87_7 hx, xm_87_8 hx, xm_lw2 hx hb, xm_lw3 hx hb, xm_lw4 hx hb, xm_lw5 hx hb, xm_st1 hx hb, xm_st10 hx hb, xm_st11 hx hb, xm_st13 hx hb, xm_st14 hx hb, xm_st15 hx hb, xm_st16 hx hb, xm_st17 hx hb, xm_st2 hx hb, xm_st4 hx hb, xm_st5 hx hb, xm_st6 hx hb, xm_st7 hx hb, xm_st9 hx hb, xm_wd10 hx hw, xm_wd11 hx hw, xm_wd4 hx hw, xm_wd5 hx hw, xm_wd6 hx hw, xm_wd7 hx hw, xm_wd8 hx hw, xm_wd9 hx hw, ite_self, Bool.false_eq_true, eq_self, isk_t, i20_t, w20_t, l23_t, b21_t, b22_t, w_t, bif_t, bif_f, bif_d, if_pos, if_neg, if_true, if_false, not_true_eq_false, not_false_eq_true, Option.bind_some, Option.toList_some, Option.toList_none, List.cons_append, List.nil_append, Int.toNat_natCast, Int.reduceToNat, up_eq, up_p, up_k, sN,  y0 ]
  | succ n ih =>
    intro k D V μ hX hW hK hV2 hD k0 hk
    obtain ⟨μ1, g1, g2, g3⟩ := X_aDay (ρ := ρ) (cs := cs) (d := d) hx hb hw hst hwd hS hC (show D < 20000 by omega) h3 hV2 hX hW hK
    obtain ⟨μ2, k1, k2, k3⟩ := ih (k + 1) (D + 1) _ μ1 (xs_x hX hb hw g1) g2 (xc_x hK hw g1) (wi_dayW hS hC hV2) (by omega) (by omega) (by omega)
    refine ⟨μ2, frx_tr g1 k1, k2, ?_⟩
    have e : daysW S C (n + 1) V = daysW S C n (dayW S C V) := rfl
    rw [e, ← k3]
    rw [e97_45]; simp (disch := omega) only [e97_57, hgs, hn5, hst, hwd, xk_0, xk_1, xk_40, xk_41, xk_42, xk_43, xk_44, xk_45, xk_46, xk_47, xk_48, xk_49, xk_50, xk_51, xk_52, xk_53, xk_54, xk_55, xk_56, xk_57, xk_58, xk_59, xk_60, xk_61, xk_62, xk_63, xk_64, xk_65, xk_66, xk_67, xk_68, xk_69, xk_70, xk_71, xk_72, xk_73, xk_74, xk_75, xk_76, xk_77, xk_78, xk_79, xk_80, xk_81, xk_82, xk_83, xk_84, xk_85, xk_86, xk_87, xk_88, xk_89, xk_90, xk_91, xk_92, xk_93, xk_94, xk_95, xk_96, xk_97, xk_98, xk_st0 hb, xk_st1 hb, xk_st10 hb, xk_st11 hb, xk_st12 hb, xk_st13 hb, xk_st14 hb, xk_st15 hb, xk_st16 hb, xk_st17 hb, xk_st18 hb, xk_st2 hb, xk_st3 hb, xk_st4 hb, xk_st5 hb, xk_st6 hb, xk_st7 hb, xk_st8 hb, xk_st9 hb, xk_wd0 hw, xk_wd1 hw, xk_wd2 hw, xk_wd3 hw, xk_wd4 hw, xk_wd5 hw, xk_wd6 hw, xk_wd7 hw, xk_wd8 hw, xm_0_0 hx, xm_0_10 hx, xm_0_11 hx, xm_0_12 hx, xm_0_13 hx, xm_0_14 hx, xm_0_15 hx, xm_0_2 hx, xm_0_9 hx, xm_40_0 hx, xm_40_1 hx, xm_41_0 hx, xm_44_0 hx, xm_44_1 hx, xm_73_4 hx, xm_73_5 hx, xm_73_6 hx, xm_77_1 hx, xm_77_2 hx, xm_77_3 hx, xm_77_4 hx, xm_77_5 hx, xm_77_6 hx, xm_77_7 hx, xm_77_8 hx, xm_77_9 hx, xm_87_2 hx, xm_87_3 hx, xm_87_4 hx, xm_87_5 hx, xm_87_6 hx, xm_87_7 hx, xm_87_8 hx, xm_lw2 hx hb, xm_lw3 hx hb, xm_lw4 hx hb, xm_lw5 hx hb, xm_st1 hx hb, xm_st10 hx hb, xm_st11 hx hb, xm_st13 hx hb, xm_st14 hx hb, xm_st15 hx hb, xm_st16 hx hb, xm_st17 hx hb, xm_st2 hx hb, xm_st4 hx hb, xm_st5 hx hb, xm_st6 hx hb, xm_st7 hx hb, xm_st9 hx hb, xm_wd10 hx hw, xm_wd11 hx hw, xm_wd4 hx hw, xm_wd5 hx hw, xm_wd6 hx hw, xm_wd7 hx hw, xm_wd8 hx hw, xm_wd9 hx hw, ite_self, Bool.false_eq_true, eq_self, isk_t, i20_t, w20_t, l23_t, b21_t, b22_t, w_t, bif_t, bif_f, bif_d, if_pos, if_neg, if_true, if_false, not_true_eq_false, not_false_eq_true, Option.bind_some, Option.toList_some, Option.toList_none, List.cons_append, List.nil_append, Int.toNat_natCast, Int.reduceToNat, up_eq, up_p, up_k, sN,  g3 ]
theorem R_go_loop {N : Int} (hρ : RM ρ) (hS : SI S) (hC : CI S C) (hA : ∀ t, C.2.2.2.2.2 t = true) (hN : N ≤ 200) : ∀ (n : Nat) (k D : Int) (V : MW) (μ : Nat → Nat → Int), SR μ = S → CR μ 1 = C → WR μ 0 = V → μ 99 53 = 0 → WI S D V → D + n < 20000 → 0 ≤ k → k + n = N → ∃ μ', FrW 0 μ μ' ∧ WR μ' 0 = daysW S C n V ∧ am_E (d + 8) 218 43 [some (.inr (.inr 99)), some (.inl N), some (.inl k)] [] (SH, ρ, μ, cs) = some (some (.inl (daysW S C n V 0 0 0)), (SH, ρ, μ', cs)) := by
  intro n
  induction n with
  | zero =>
    intro k D V μ s1 c1 v1 z53 hV2 hD k0 hk
    have y0 : μ 121 0 = V 0 0 0 := by rw [← v1]; rfl
    refine ⟨μ, frw_rf 0 μ, v1, ?_⟩
    have e : daysW S C 0 V = V := rfl
    rw [e]
    rw [e218_43]; simp (disch := (first | omega | (simp (disch := omega) only [sr_up, wr_up_o]; omega))) only [ks_121, ks_99, rm_day hρ, ite_self, Bool.false_eq_true, eq_self, isk_t, i20_t, w20_t, l23_t, b21_t, b22_t, w_t, bif_t, bif_f, bif_d, if_pos, if_neg, if_true, if_false, not_true_eq_false, not_false_eq_true, Option.bind_some, Option.toList_some, Option.toList_none, List.cons_append, List.nil_append, Int.toNat_natCast, Int.reduceToNat, up_eq, up_p, up_k, sN,  y0 ]
  | succ n ih =>
    intro k D V μ s1 c1 v1 z53 hV2 hD k0 hk
    obtain ⟨μ1, g1, g2, g3⟩ := R_passes (ρ := ρ) (cs := cs) (d := d) (s := 0) (b := 1) hρ (by omega) (by omega) hS hC (show D < 20000 by omega) hV2 hA s1 c1 v1 (by omega) (by omega)
    obtain ⟨μ2, k1, k2, k3⟩ := ih (k + 1) (D + 1) _ μ1 ((frw_SR g1).trans s1) ((frw_CR g1 1).trans c1) g2 (by rw [g1 99 53 (by omega) (by omega)]; exact z53) (wi_dayW hS hC hV2) (by omega) (by omega) (by omega)
    refine ⟨μ2, frw_tr g1 k1, k2, ?_⟩
    have e : daysW S C (n + 1) V = daysW S C n (dayW S C V) := rfl
    rw [e, ← k3]
    rw [e218_43]; simp (disch := (first | omega | (simp (disch := omega) only [sr_up, wr_up_o]; omega))) only [e218_54, ks_121, ks_99, rm_day hρ, ite_self, Bool.false_eq_true, eq_self, isk_t, i20_t, w20_t, l23_t, b21_t, b22_t, w_t, bif_t, bif_f, bif_d, if_pos, if_neg, if_true, if_false, not_true_eq_false, not_false_eq_true, Option.bind_some, Option.toList_some, Option.toList_none, List.cons_append, List.nil_append, Int.toNat_natCast, Int.reduceToNat, up_eq, up_p, up_k, sN,  g3 ]
theorem C_go (h : RA ρ μ) {n : Int} : BT ρ μ cs (fun H => am_E (d + 20) 97 0 [some (.inr (.inr 0)), some (.inl n), none] [] H) (fun H => am_E (d + 20) 218 0 [some (.inr (.inr 99)), some (.inl n), none] [] H) := by
  obtain ⟨b, w, u, S, W, h⟩ := h
  obtain ⟨h, r2, r3, r4, r5, r6, r7, r8⟩ := h
  have h0 := h
  have hG := (cr_gc h).2
  obtain ⟨hx, hρ, hb, hgs, hw46, hu64, hSR, hS, hX, hWR, hWI, hW, hday, h49, h51, h53⟩ := h; have hw : w = 46 ∨ w = 55 ∨ w = 64 := Or.inl hw46; have hu : u = 46 ∨ u = 55 ∨ u = 64 := Or.inr (Or.inr hu64); have hn5 := (xm_0_5 hx).trans hw46.symm; have hn7 := (xm_0_7 hx).trans hu64.symm; have b0 := hS.1; have b1 := hS.2.1
  have y0 := xw_day hW
  have bd := hWI.1
  have z0 : μ 121 0 = W 0 0 0 := by rw [← hWR]; rfl
  by_cases c : (0 ≤ n ∧ n ≤ 200) ∧ W 0 0 0 + n ≤ 9800
  rotate_left
  · refine ⟨.inl (-1), ρ, μ, am_up μ 99 0 0, ?_, ?_, b, w, u, S, W, ra_q ⟨h0, r2, r3, r4, r5, r6, r7, r8⟩ (frr_rf ρ) (frq_t0 μ 0)⟩
    · by_cases c1 : n < 0
      · simp (disch := omega) only [e97_0, bif_d, if_pos]
      · by_cases c2 : 200 < n
        · simp (disch := omega) only [e97_0, bif_d, if_pos, if_neg]
        · simp (disch := omega) only [e97_0, bif_d, if_pos, if_neg, xk_0, isk_t, bif_t, hn5, xk_wd0 hw, y0, w_t]
    · by_cases c1 : n < 0
      · simp (disch := (first | omega | (simp (disch := omega) only [sr_up, wr_up_o]; omega))) only [e218_0, ks_121, ks_99, rm_day hρ, ite_self, Bool.false_eq_true, eq_self, isk_t, i20_t, w20_t, l23_t, b21_t, b22_t, w_t, bif_t, bif_f, bif_d, if_pos, if_neg, if_true, if_false, not_true_eq_false, not_false_eq_true, Option.bind_some, Option.toList_some, Option.toList_none, List.cons_append, List.nil_append, Int.toNat_natCast, Int.reduceToNat, up_eq, up_p, up_k, sN]
      · by_cases c2 : 200 < n
        · simp (disch := (first | omega | (simp (disch := omega) only [sr_up, wr_up_o]; omega))) only [e218_0, ks_121, ks_99, rm_day hρ, ite_self, Bool.false_eq_true, eq_self, isk_t, i20_t, w20_t, l23_t, b21_t, b22_t, w_t, bif_t, bif_f, bif_d, if_pos, if_neg, if_true, if_false, not_true_eq_false, not_false_eq_true, Option.bind_some, Option.toList_some, Option.toList_none, List.cons_append, List.nil_append, Int.toNat_natCast, Int.reduceToNat, up_eq, up_p, up_k, sN]
        · simp (disch := (first | omega | (simp (disch := omega) only [sr_up, wr_up_o]; omega))) only [e218_0, ks_121, ks_99, rm_day hρ, ite_self, Bool.false_eq_true, eq_self, isk_t, i20_t, w20_t, l23_t, b21_t, b22_t, w_t, bif_t, bif_f, bif_d, if_pos, if_neg, if_true, if_false, not_true_eq_false, not_false_eq_true, Option.bind_some, Option.toList_some, Option.toList_none, List.cons_append, List.nil_append, Int.toNat_natCast, Int.reduceToNat, up_eq, up_p, up_k, sN,  z0 ]
  have hci : CI S (CR μ 1) := gc_ci hS hG
  obtain ⟨ρ1, μ1, c1, c2, c3, c4⟩ := X_byNumbers (ρ := ρ) (cs := cs) (d := d + 17) (w := w) hx hρ hb hX hS
  have hK := c3 _ hG
  have hX1 := xs_fr hX (μ' := μ1) (fun q k a e => c2 q k (by omega) (by omega))
  have hW1 := xw_fr hW (μ' := μ1) (fun q k a e => c2 q k (by omega) (by omega))
  have e1 : am_E (d + 20) 97 0 [some (.inr (.inr 0)), some (.inl n), none] [] (SH, ρ, μ, cs) = am_E (d + 20) 97 45 [some (.inr (.inr 0)), some (.inl n), some (.inl 0)] [] (SH, ρ1, μ1, cs) := by
    simp (disch := omega) only [e97_0, e97_43, bif_d, if_pos, if_neg, xk_0, isk_t, bif_t, hn5, xk_wd0 hw, y0, w_t, hgs, xm_0_9 hx, xk_73, c4, Option.bind_some, Option.toList_none, List.nil_append]
  by_cases cn : n = 0
  · subst cn
    have hx1 := c1.1
    have hn51 := (xm_0_5 hx1).trans hw46.symm
    have y1 := xw_day hW1
    have ra := ra_q (μ' := am_up μ1 99 0 0) ⟨h0, r2, r3, r4, r5, r6, r7, r8⟩ c1.2.2.1 (frq_tr (fry_q (fry_c c2)) (frq_t0 μ1 0))
    have z1 : μ1 121 0 = W 0 0 0 := by rw [c2 121 0 (by omega) (by omega)]; exact z0
    have hρ1 := c1.2.1
    refine ⟨.inl (W 0 0 0), ρ1, μ1, am_up μ1 99 0 0, ?_, ?_, b, w, u, S, W, ra⟩
    · show am_E (d + 20) 97 0 [some (.inr (.inr 0)), some (.inl 0), none] [] (SH, ρ, μ, cs) = _
      rw [e1, e97_45]
      simp (disch := omega) only [bif_d, if_pos, xk_0, isk_t, bif_t, hn51, xk_wd0 hw, y1]
    · clear hρ
      have hρ := hρ1
      simp (disch := (first | omega | (simp (disch := omega) only [sr_up, wr_up_o]; omega))) only [e218_0, e218_43, ks_121, ks_99, rm_day hρ, ite_self, Bool.false_eq_true, eq_self, isk_t, i20_t, w20_t, l23_t, b21_t, b22_t, w_t, bif_t, bif_f, bif_d, if_pos, if_neg, if_true, if_false, not_true_eq_false, not_false_eq_true, Option.bind_some, Option.toList_some, Option.toList_none, List.cons_append, List.nil_append, Int.toNat_natCast, Int.reduceToNat, up_eq, up_p, up_k, sN,  z1 ]
  · obtain ⟨μ2, k1, k2, k3⟩ := X_go_loop (ρ := ρ1) (cs := cs) (d := d + 13) (N := n) hS hci (by rw [hG.1]; exact kN_3 S) (by omega) c.1.2 c1.1 hb (by rw [c1.2.2.1 _ _ (by omega)]; exact hgs) hw ((xm_0_5 c1.1).trans hw46.symm) c1.2.2.2.1 c1.2.2.2.2 n.toNat 0 (W 0 0 0) W μ1 hX1 hW1 hK r8 (by omega) (by omega) (by omega)
    have hρ1 := c1.2.1
    generalize hμa : am_up (am_up (am_up μ2 77 0 0) 99 0 0) 99 48 0 = μa
    have fa : ∀ q k, ¬ (q = 77 ∧ k = 0) → ¬ (q = 99 ∧ (k = 0 ∨ k = 48)) → ¬ (w ≤ q ∧ q < w + 9) → ¬ (73 ≤ q ∧ q ≤ 76) → μa q k = μ q k := fun q k a1 a2 a3 a4 => by rw [← hμa, am_up_no (by omega), am_up_no (by omega), am_up_no (by omega), k1 q k a3 (by omega) (by omega), c2 q k (by omega) (by omega)]
    have sa : SR μa = S := by
      rw [← hSR]
      funext a k
      unfold SR
      by_cases q : a < 18
      · rw [if_pos q, if_pos q]
        exact fa _ _ (by omega) (by omega) (by omega) (by omega)
      · rw [if_neg q, if_neg q]
    have wa : WR μa 0 = W := by rw [← hWR]; exact WR_s (by omega) (fun q k hq => fa q k (by omega) (by omega) (by omega) (by omega))
    have ca : CR μa 1 = CR μ 1 := CR_ext (by rw [sa, hSR]) (fun k a1 a2 => fa _ _ (by omega) (by omega) (by omega) (by omega)) 1
    obtain ⟨μ3, l1, l2, l3⟩ := R_go_loop (ρ := ρ1) (cs := cs) (d := d + 12) (N := n) hρ1 hS hci (fun _ => rfl) c.1.2 n.toNat 0 (W 0 0 0) W μa sa ca wa (by rw [fa _ _ (by omega) (by omega) (by omega) (by omega)]; exact h53) r8 (by omega) (by omega) (by omega)
    have hWV := wi_daysW hS hci n.toNat r8
    have hd := daysW_0 (S := S) (C := CR μ 1) n.toNat (W := W)
    have hWV2 : WI S (daysW S (CR μ 1) n.toNat W 0 0 0) (daysW S (CR μ 1) n.toNat W) := by rw [hd]; exact hWV
    generalize hVe : daysW S (CR μ 1) n.toNat W = V at k2 k3 l2 l3 hWV hWV2 hd
    have f3 : ∀ q k, ¬ (q = 77 ∧ k = 0) → ¬ (q = 99 ∧ (k = 0 ∨ k = 36 ∨ k = 48)) → ¬ (w ≤ q ∧ q < w + 9) → ¬ (73 ≤ q ∧ q ≤ 76) → ¬ FrT 0 q k → q ≠ 119 → q ≠ 120 → μ3 q k = μ q k := fun q k a1 a2 a3 a4 a5 a6 a7 => by rw [l1 q k a5 (by omega), fa q k a1 (by omega) a3 a4]
    refine ⟨.inl (V 0 0 0), ρ1, am_up μ2 77 0 0, μ3, ?_, ?_, b, w, u, S, V, rl_new h0 c1.2.2.1 (fun q k hq => f3 q k (by omega) (by omega) (by omega) (by omega) (by omega) (by omega) (by omega)) (by rw [f3 _ _ (by omega) (by omega) (by omega) (by omega) (by omega) (by omega) (by omega)]; exact h49) (by rw [f3 _ _ (by omega) (by omega) (by omega) (by omega) (by omega) (by omega) (by omega)]; exact h51) (by rw [f3 _ _ (by omega) (by omega) (by omega) (by omega) (by omega) (by omega) (by omega)]; exact h53) l2 (xw_fr k2 (fun q k a e => by rw [l1 q k (by omega) (by omega), ← hμa, up_p (by omega), up_p (by omega), up_p (by omega)])) (WI_mono hWV2 (by omega)) (by omega), und_0 ?_ ?_, img_fr r3 (f3 _ _ (by omega) (by omega) (by omega) (by omega) (by omega) (by omega) (by omega)) (f3 _ _ (by omega) (by omega) (by omega) (by omega) (by omega) (by omega) (by omega)) (fun q k _ _ => f3 _ _ (by omega) (by omega) (by omega) (by omega) (by omega) (by omega) (by omega)) (WR_s (by omega) (fun q k hq => f3 _ _ (by omega) (by omega) (by omega) (by omega) (by omega) (by omega) (by omega))), ?_⟩
    · show am_E (d + 20) 97 0 [some (.inr (.inr 0)), some (.inl n), none] [] (SH, ρ, μ, cs) = _
      rw [e1]
      exact k3
    · have zz : (am_up μ2 77 0 0) 121 0 = W 0 0 0 := by rw [up_p (by omega), k1 121 0 (by omega) (by omega) (by omega), c2 121 0 (by omega) (by omega)]; exact z0
      have zz2 : μ2 121 0 = W 0 0 0 := by rw [up_p (by omega)] at zz; exact zz
      clear hρ
      have hρ := hρ1
      show am_E (d + 20) 218 0 [some (.inr (.inr 99)), some (.inl n), none] [] (SH, ρ1, am_up μ2 77 0 0, cs) = _
      rw [← l3, ← hμa]
      simp (disch := (first | omega | (simp (disch := omega) only [sr_up, wr_up_o]; omega))) only [e218_0, ks_121, ks_99, rm_day hρ, ite_self, Bool.false_eq_true, eq_self, isk_t, i20_t, w20_t, l23_t, b21_t, b22_t, w_t, bif_t, bif_f, bif_d, if_pos, if_neg, if_true, if_false, not_true_eq_false, not_false_eq_true, Option.bind_some, Option.toList_some, Option.toList_none, List.cons_append, List.nil_append, Int.toNat_natCast, Int.reduceToNat, up_eq, up_p, up_k, sN,  zz2 ]
    · rw [l1 77 0 (by omega) (by omega), ← hμa, up_p (by omega), up_p (by omega), up_eq]
    · rw [l1 99 48 (by omega) (by omega), ← hμa, up_eq]
    · obtain ⟨e1, e2, e3, e4⟩ := ra_rest r4 r5 r6 r7 (c1.2.2.1 0 4 (by omega)) (fun q k hq => f3 q k (by omega) (by omega) (by omega) (by omega) (by omega) (by omega) (by omega))
      exact ⟨e1, e2, e3, e4, hWV2⟩
end CK
