/-! CALLS that change and can be undone: tell, forget, undo -/
section CE2
variable {ρ ρ' : Nat → Nat → Nat} {μ μc μr : Nat → Nat → Int} {cs : Nat × Nat × Nat} {d b w u : Nat} {S : MS} {W W' V : MW} {C : MC}
theorem sr_ext {μ μ' : Nat → Nat → Int} (h : ∀ q k, 101 ≤ q → q ≤ 118 → μ' q k = μ q k) : SR μ' = SR μ := by
  funext a k
  unfold SR
  by_cases q : a < 18
  · rw [if_pos q, if_pos q]; exact h _ _ (by omega) (by omega)
  · rw [if_neg q, if_neg q]
theorem dv_fr {μ1 μ3 : Nat → Nat → Int} {M : Nat} {p t : Int} (h : DV μ1 μ w M p t) (hf : ∀ q k, 77 ≤ q → q ≤ 86 → μ3 q k = μ1 q k) : DV μ3 μ w M p t := by
  obtain ⟨d1, d2, d3, d4, d5, d6, d7, d8, d9⟩ := h
  exact ⟨by rw [hf _ _ (by omega) (by omega)]; exact d1, by rw [hf _ _ (by omega) (by omega)]; exact d2, by rw [hf _ _ (by omega) (by omega)]; exact d3, by rw [hf _ _ (by omega) (by omega)]; exact d4, by rw [hf _ _ (by omega) (by omega)]; exact d5, by rw [hf _ _ (by omega) (by omega)]; exact d6, by rw [hf _ _ (by omega) (by omega)]; exact d7, by rw [hf _ _ (by omega) (by omega)]; exact d8, by rw [hf _ _ (by omega) (by omega)]; exact d9⟩
theorem C_tell (h : RA ρ μ) {p t : Int} : BT ρ μ cs (fun H => am_E (d + 20) 95 0 [some (.inr (.inr 0)), some (.inl p), some (.inl t)] [] H) (fun H => am_E (d + 20) 216 0 [some (.inr (.inr 99)), some (.inl p), some (.inl t)] [] H) := by
  obtain ⟨b, w, u, S, W, h⟩ := h
  have hR := h
  obtain ⟨h, r2, r3, r4, r5, r6, r7, r8⟩ := h
  have h0 := h
  have hG := (cr_gc h).1
  obtain ⟨hx, hρ, hb, hgs, hw46, hu64, hSR, hS, hX, hWR, hWI, hW, hday, h49, h51, h53⟩ := h; have hw : w = 46 ∨ w = 55 ∨ w = 64 := Or.inl hw46; have hu : u = 46 ∨ u = 55 ∨ u = 64 := Or.inr (Or.inr hu64); have hn5 := (xm_0_5 hx).trans hw46.symm; have hn7 := (xm_0_7 hx).trans hu64.symm; have b0 := hS.1; have b1 := hS.2.1
  have hno : ∀ (v : Int) (hx1 : am_E (d + 20) 95 0 [some (.inr (.inr 0)), some (.inl p), some (.inl t)] [] (SH, ρ, μ, cs) = some (some (.inl v), (SH, ρ, μ, cs))) (hx2 : am_E (d + 20) 216 0 [some (.inr (.inr 99)), some (.inl p), some (.inl t)] [] (SH, ρ, μ, cs) = some (some (.inl v), (SH, ρ, am_up μ 99 0 0, cs))), BT ρ μ cs (fun H => am_E (d + 20) 95 0 [some (.inr (.inr 0)), some (.inl p), some (.inl t)] [] H) (fun H => am_E (d + 20) 216 0 [some (.inr (.inr 99)), some (.inl p), some (.inl t)] [] H) := fun v hx1 hx2 => ⟨.inl v, ρ, μ, am_up μ 99 0 0, hx1, hx2, b, w, u, S, W, ra_q hR (frr_rf ρ) (frq_t0 μ 0)⟩
  by_cases c1 : 0 ≤ p ∧ p < S 0 0
  rotate_left
  · refine hno (-1) ?_ ?_
    · simp (disch := omega) only [e95_0, e95_5, hgs, hn5, xk_0, xk_1, xk_40, xk_41, xk_42, xk_43, xk_44, xk_45, xk_46, xk_47, xk_48, xk_49, xk_50, xk_51, xk_52, xk_53, xk_54, xk_55, xk_56, xk_57, xk_58, xk_59, xk_60, xk_61, xk_62, xk_63, xk_64, xk_65, xk_66, xk_67, xk_68, xk_69, xk_70, xk_71, xk_72, xk_73, xk_74, xk_75, xk_76, xk_77, xk_78, xk_79, xk_80, xk_81, xk_82, xk_83, xk_84, xk_85, xk_86, xk_87, xk_88, xk_89, xk_90, xk_91, xk_92, xk_93, xk_94, xk_95, xk_96, xk_97, xk_98, xk_st0 hb, xk_st1 hb, xk_st10 hb, xk_st11 hb, xk_st12 hb, xk_st13 hb, xk_st14 hb, xk_st15 hb, xk_st16 hb, xk_st17 hb, xk_st18 hb, xk_st2 hb, xk_st3 hb, xk_st4 hb, xk_st5 hb, xk_st6 hb, xk_st7 hb, xk_st8 hb, xk_st9 hb, xk_wd0 hw, xk_wd1 hw, xk_wd2 hw, xk_wd3 hw, xk_wd4 hw, xk_wd5 hw, xk_wd6 hw, xk_wd7 hw, xk_wd8 hw, xm_0_0 hx, xm_0_10 hx, xm_0_11 hx, xm_0_12 hx, xm_0_13 hx, xm_0_14 hx, xm_0_15 hx, xm_0_2 hx, xm_0_9 hx, xm_40_0 hx, xm_40_1 hx, xm_41_0 hx, xm_44_0 hx, xm_44_1 hx, xm_73_4 hx, xm_73_5 hx, xm_73_6 hx, xm_77_1 hx, xm_77_2 hx, xm_77_3 hx, xm_77_4 hx, xm_77_5 hx, xm_77_6 hx, xm_77_7 hx, xm_77_8 hx, xm_77_9 hx, xm_87_2 hx, xm_87_3 hx, xm_87_4 hx, xm_87_5 hx, xm_87_6 hx, xm_87_7 hx, xm_87_8 hx, xm_lw2 hx hb, xm_lw3 hx hb, xm_lw4 hx hb, xm_lw5 hx hb, xm_st1 hx hb, xm_st10 hx hb, xm_st11 hx hb, xm_st13 hx hb, xm_st14 hx hb, xm_st15 hx hb, xm_st16 hx hb, xm_st17 hx hb, xm_st2 hx hb, xm_st4 hx hb, xm_st5 hx hb, xm_st6 hx hb, xm_st7 hx hb, xm_st9 hx hb, xm_wd10 hx hw, xm_wd11 hx hw, xm_wd4 hx hw, xm_wd5 hx hw, xm_wd6 hx hw, xm_wd7 hx hw, xm_wd8 hx hw, xm_wd9 hx hw, ite_self, Bool.false_eq_true, eq_self, isk_t, i20_t, w20_t, l23_t, b21_t, b22_t, w_t, bif_t, bif_f, bif_d, if_pos, if_neg, if_true, if_false, not_true_eq_false, not_false_eq_true, Option.bind_some, Option.toList_some, Option.toList_none, List.cons_append, List.nil_append, Int.toNat_natCast, Int.reduceToNat, up_eq, up_p, up_k, sN,  X_isMan hx hb hgs hX, X_isThing hx hb hgs hX ]
    · simp (disch := (first | omega | (simp (disch := omega) only [sr_up, wr_up_o]; omega))) only [e216_0, e216_10, ks_99, ite_self, Bool.false_eq_true, eq_self, isk_t, i20_t, w20_t, l23_t, b21_t, b22_t, w_t, bif_t, bif_f, bif_d, if_pos, if_neg, if_true, if_false, not_true_eq_false, not_false_eq_true, Option.bind_some, Option.toList_some, Option.toList_none, List.cons_append, List.nil_append, Int.toNat_natCast, Int.reduceToNat, up_eq, up_p, up_k, sN,  R_isMan hρ, R_isThing hρ, sr_up, hSR, wr_up_o, hWR ]
  by_cases c4 : 0 ≤ t ∧ t < S 0 1
  rotate_left
  · refine hno (-1) ?_ ?_
    · simp (disch := omega) only [e95_0, e95_5, e95_13, hgs, hn5, xk_0, xk_1, xk_40, xk_41, xk_42, xk_43, xk_44, xk_45, xk_46, xk_47, xk_48, xk_49, xk_50, xk_51, xk_52, xk_53, xk_54, xk_55, xk_56, xk_57, xk_58, xk_59, xk_60, xk_61, xk_62, xk_63, xk_64, xk_65, xk_66, xk_67, xk_68, xk_69, xk_70, xk_71, xk_72, xk_73, xk_74, xk_75, xk_76, xk_77, xk_78, xk_79, xk_80, xk_81, xk_82, xk_83, xk_84, xk_85, xk_86, xk_87, xk_88, xk_89, xk_90, xk_91, xk_92, xk_93, xk_94, xk_95, xk_96, xk_97, xk_98, xk_st0 hb, xk_st1 hb, xk_st10 hb, xk_st11 hb, xk_st12 hb, xk_st13 hb, xk_st14 hb, xk_st15 hb, xk_st16 hb, xk_st17 hb, xk_st18 hb, xk_st2 hb, xk_st3 hb, xk_st4 hb, xk_st5 hb, xk_st6 hb, xk_st7 hb, xk_st8 hb, xk_st9 hb, xk_wd0 hw, xk_wd1 hw, xk_wd2 hw, xk_wd3 hw, xk_wd4 hw, xk_wd5 hw, xk_wd6 hw, xk_wd7 hw, xk_wd8 hw, xm_0_0 hx, xm_0_10 hx, xm_0_11 hx, xm_0_12 hx, xm_0_13 hx, xm_0_14 hx, xm_0_15 hx, xm_0_2 hx, xm_0_9 hx, xm_40_0 hx, xm_40_1 hx, xm_41_0 hx, xm_44_0 hx, xm_44_1 hx, xm_73_4 hx, xm_73_5 hx, xm_73_6 hx, xm_77_1 hx, xm_77_2 hx, xm_77_3 hx, xm_77_4 hx, xm_77_5 hx, xm_77_6 hx, xm_77_7 hx, xm_77_8 hx, xm_77_9 hx, xm_87_2 hx, xm_87_3 hx, xm_87_4 hx, xm_87_5 hx, xm_87_6 hx, xm_87_7 hx, xm_87_8 hx, xm_lw2 hx hb, xm_lw3 hx hb, xm_lw4 hx hb, xm_lw5 hx hb, xm_st1 hx hb, xm_st10 hx hb, xm_st11 hx hb, xm_st13 hx hb, xm_st14 hx hb, xm_st15 hx hb, xm_st16 hx hb, xm_st17 hx hb, xm_st2 hx hb, xm_st4 hx hb, xm_st5 hx hb, xm_st6 hx hb, xm_st7 hx hb, xm_st9 hx hb, xm_wd10 hx hw, xm_wd11 hx hw, xm_wd4 hx hw, xm_wd5 hx hw, xm_wd6 hx hw, xm_wd7 hx hw, xm_wd8 hx hw, xm_wd9 hx hw, ite_self, Bool.false_eq_true, eq_self, isk_t, i20_t, w20_t, l23_t, b21_t, b22_t, w_t, bif_t, bif_f, bif_d, if_pos, if_neg, if_true, if_false, not_true_eq_false, not_false_eq_true, Option.bind_some, Option.toList_some, Option.toList_none, List.cons_append, List.nil_append, Int.toNat_natCast, Int.reduceToNat, up_eq, up_p, up_k, sN,  X_isMan hx hb hgs hX, X_isThing hx hb hgs hX ]
    · simp (disch := (first | omega | (simp (disch := omega) only [sr_up, wr_up_o]; omega))) only [e216_0, e216_10, e216_18, ks_99, ite_self, Bool.false_eq_true, eq_self, isk_t, i20_t, w20_t, l23_t, b21_t, b22_t, w_t, bif_t, bif_f, bif_d, if_pos, if_neg, if_true, if_false, not_true_eq_false, not_false_eq_true, Option.bind_some, Option.toList_some, Option.toList_none, List.cons_append, List.nil_append, Int.toNat_natCast, Int.reduceToNat, up_eq, up_p, up_k, sN,  R_isMan hρ, R_isThing hρ, sr_up, hSR, wr_up_o, hWR ]
  have t6 : t < 6 := by omega
  have p7 : p < 7 := by omega
  have hmp := fun d => X_mayPrint (ρ := ρ) (cs := cs) (d := d) hx hw hW c1.1 p7 c4.1 t6
  by_cases c5 : W 5 p t = -1
  · rw [if_neg (by omega)] at hmp
    refine hno (-2) ?_ ?_
    · simp (disch := omega) only [e95_0, e95_5, e95_13, e95_27, hgs, hn5, xk_0, xk_1, xk_40, xk_41, xk_42, xk_43, xk_44, xk_45, xk_46, xk_47, xk_48, xk_49, xk_50, xk_51, xk_52, xk_53, xk_54, xk_55, xk_56, xk_57, xk_58, xk_59, xk_60, xk_61, xk_62, xk_63, xk_64, xk_65, xk_66, xk_67, xk_68, xk_69, xk_70, xk_71, xk_72, xk_73, xk_74, xk_75, xk_76, xk_77, xk_78, xk_79, xk_80, xk_81, xk_82, xk_83, xk_84, xk_85, xk_86, xk_87, xk_88, xk_89, xk_90, xk_91, xk_92, xk_93, xk_94, xk_95, xk_96, xk_97, xk_98, xk_st0 hb, xk_st1 hb, xk_st10 hb, xk_st11 hb, xk_st12 hb, xk_st13 hb, xk_st14 hb, xk_st15 hb, xk_st16 hb, xk_st17 hb, xk_st18 hb, xk_st2 hb, xk_st3 hb, xk_st4 hb, xk_st5 hb, xk_st6 hb, xk_st7 hb, xk_st8 hb, xk_st9 hb, xk_wd0 hw, xk_wd1 hw, xk_wd2 hw, xk_wd3 hw, xk_wd4 hw, xk_wd5 hw, xk_wd6 hw, xk_wd7 hw, xk_wd8 hw, xm_0_0 hx, xm_0_10 hx, xm_0_11 hx, xm_0_12 hx, xm_0_13 hx, xm_0_14 hx, xm_0_15 hx, xm_0_2 hx, xm_0_9 hx, xm_40_0 hx, xm_40_1 hx, xm_41_0 hx, xm_44_0 hx, xm_44_1 hx, xm_73_4 hx, xm_73_5 hx, xm_73_6 hx, xm_77_1 hx, xm_77_2 hx, xm_77_3 hx, xm_77_4 hx, xm_77_5 hx, xm_77_6 hx, xm_77_7 hx, xm_77_8 hx, xm_77_9 hx, xm_87_2 hx, xm_87_3 hx, xm_87_4 hx, xm_87_5 hx, xm_87_6 hx, xm_87_7 hx, xm_87_8 hx, xm_lw2 hx hb, xm_lw3 hx hb, xm_lw4 hx hb, xm_lw5 hx hb, xm_st1 hx hb, xm_st10 hx hb, xm_st11 hx hb, xm_st13 hx hb, xm_st14 hx hb, xm_st15 hx hb, xm_st16 hx hb, xm_st17 hx hb, xm_st2 hx hb, xm_st4 hx hb, xm_st5 hx hb, xm_st6 hx hb, xm_st7 hx hb, xm_st9 hx hb, xm_wd10 hx hw, xm_wd11 hx hw, xm_wd4 hx hw, xm_wd5 hx hw, xm_wd6 hx hw, xm_wd7 hx hw, xm_wd8 hx hw, xm_wd9 hx hw, ite_self, Bool.false_eq_true, eq_self, isk_t, i20_t, w20_t, l23_t, b21_t, b22_t, w_t, bif_t, bif_f, bif_d, if_pos, if_neg, if_true, if_false, not_true_eq_false, not_false_eq_true, Option.bind_some, Option.toList_some, Option.toList_none, List.cons_append, List.nil_append, Int.toNat_natCast, Int.reduceToNat, up_eq, up_p, up_k, sN,  X_isMan hx hb hgs hX, X_isThing hx hb hgs hX, hmp ]
    · simp (disch := (first | omega | (simp (disch := omega) only [sr_up, wr_up_o]; omega))) only [e216_0, e216_10, e216_18, e216_30, ks_99, ite_self, Bool.false_eq_true, eq_self, isk_t, i20_t, w20_t, l23_t, b21_t, b22_t, w_t, bif_t, bif_f, bif_d, if_pos, if_neg, if_true, if_false, not_true_eq_false, not_false_eq_true, Option.bind_some, Option.toList_some, Option.toList_none, List.cons_append, List.nil_append, Int.toNat_natCast, Int.reduceToNat, up_eq, up_p, up_k, sN,  R_isMan hρ, R_isThing hρ, sr_up, hSR, wr_up_o, hWR, R_doesHave hρ, c5 ]
  by_cases c6 : W 8 p t = -2
  rotate_left
  · rw [if_neg (by omega)] at hmp
    refine hno (-2) ?_ ?_
    · simp (disch := omega) only [e95_0, e95_5, e95_13, e95_27, hgs, hn5, xk_0, xk_1, xk_40, xk_41, xk_42, xk_43, xk_44, xk_45, xk_46, xk_47, xk_48, xk_49, xk_50, xk_51, xk_52, xk_53, xk_54, xk_55, xk_56, xk_57, xk_58, xk_59, xk_60, xk_61, xk_62, xk_63, xk_64, xk_65, xk_66, xk_67, xk_68, xk_69, xk_70, xk_71, xk_72, xk_73, xk_74, xk_75, xk_76, xk_77, xk_78, xk_79, xk_80, xk_81, xk_82, xk_83, xk_84, xk_85, xk_86, xk_87, xk_88, xk_89, xk_90, xk_91, xk_92, xk_93, xk_94, xk_95, xk_96, xk_97, xk_98, xk_st0 hb, xk_st1 hb, xk_st10 hb, xk_st11 hb, xk_st12 hb, xk_st13 hb, xk_st14 hb, xk_st15 hb, xk_st16 hb, xk_st17 hb, xk_st18 hb, xk_st2 hb, xk_st3 hb, xk_st4 hb, xk_st5 hb, xk_st6 hb, xk_st7 hb, xk_st8 hb, xk_st9 hb, xk_wd0 hw, xk_wd1 hw, xk_wd2 hw, xk_wd3 hw, xk_wd4 hw, xk_wd5 hw, xk_wd6 hw, xk_wd7 hw, xk_wd8 hw, xm_0_0 hx, xm_0_10 hx, xm_0_11 hx, xm_0_12 hx, xm_0_13 hx, xm_0_14 hx, xm_0_15 hx, xm_0_2 hx, xm_0_9 hx, xm_40_0 hx, xm_40_1 hx, xm_41_0 hx, xm_44_0 hx, xm_44_1 hx, xm_73_4 hx, xm_73_5 hx, xm_73_6 hx, xm_77_1 hx, xm_77_2 hx, xm_77_3 hx, xm_77_4 hx, xm_77_5 hx, xm_77_6 hx, xm_77_7 hx, xm_77_8 hx, xm_77_9 hx, xm_87_2 hx, xm_87_3 hx, xm_87_4 hx, xm_87_5 hx, xm_87_6 hx, xm_87_7 hx, xm_87_8 hx, xm_lw2 hx hb, xm_lw3 hx hb, xm_lw4 hx hb, xm_lw5 hx hb, xm_st1 hx hb, xm_st10 hx hb, xm_st11 hx hb, xm_st13 hx hb, xm_st14 hx hb, xm_st15 hx hb, xm_st16 hx hb, xm_st17 hx hb, xm_st2 hx hb, xm_st4 hx hb, xm_st5 hx hb, xm_st6 hx hb, xm_st7 hx hb, xm_st9 hx hb, xm_wd10 hx hw, xm_wd11 hx hw, xm_wd4 hx hw, xm_wd5 hx hw, xm_wd6 hx hw, xm_wd7 hx hw, xm_wd8 hx hw, xm_wd9 hx hw, ite_self, Bool.false_eq_true, eq_self, isk_t, i20_t, w20_t, l23_t, b21_t, b22_t, w_t, bif_t, bif_f, bif_d, if_pos, if_neg, if_true, if_false, not_true_eq_false, not_false_eq_true, Option.bind_some, Option.toList_some, Option.toList_none, List.cons_append, List.nil_append, Int.toNat_natCast, Int.reduceToNat, up_eq, up_p, up_k, sN,  X_isMan hx hb hgs hX, X_isThing hx hb hgs hX, hmp ]
    · simp (disch := (first | omega | (simp (disch := omega) only [sr_up, wr_up_o]; omega))) only [e216_0, e216_10, e216_18, e216_30, e216_40, ks_99, ite_self, Bool.false_eq_true, eq_self, isk_t, i20_t, w20_t, l23_t, b21_t, b22_t, w_t, bif_t, bif_f, bif_d, if_pos, if_neg, if_true, if_false, not_true_eq_false, not_false_eq_true, Option.bind_some, Option.toList_some, Option.toList_none, List.cons_append, List.nil_append, Int.toNat_natCast, Int.reduceToNat, up_eq, up_p, up_k, sN,  R_isMan hρ, R_isThing hρ, sr_up, hSR, wr_up_o, hWR, R_doesHave hρ, R_isPrinted hρ, c5, c6 ]
  rw [if_pos ⟨c5, c6⟩] at hmp
  obtain ⟨N, hN⟩ : ∃ N : Nat, μ 99 48 = (N : Int) := ⟨(μ 99 48).toNat, by have := r2.2.1; omega⟩
  have hN20 : N ≤ 20 := by have := r2.2.2.1; omega
  have hci : CI S (CR μ 0) := gc_ci hS hG
  obtain ⟨μ1, M, s, n1, n2, n3, n4, n5, n6, n7, n8⟩ := X_note (ρ := ρ) (μ := μ) (cs := cs) (d := d + 17) hx hw c1.1 p7 c4.1 t6 hN20 (by rw [r2.1]; exact hN)
  have hX1 := xs_fr hX (μ' := μ1) (fun q k a e => n4 q k (by omega))
  have hW1 := xw_fr hW (μ' := μ1) (fun q k a e => n4 q k (by omega))
  obtain ⟨ρ1, μ2, q1, q2, q3, q4⟩ := X_asItGoes (ρ := ρ) (cs := cs) (d := d + 18) (w := w) hx hρ hb hX1 hS
  have hK2 := q3 _ hG
  have hX2 := xs_fr hX1 (μ' := μ2) (fun q k a e => q2 q k (by omega) (by omega))
  have hW2 := xw_fr hW1 (μ' := μ2) (fun q k a e => q2 q k (by omega) (by omega))
  obtain ⟨μ3, k1, k2, k3⟩ := X_printTelling (ρ := ρ1) (cs := cs) (d := d + 14) q1.1 hb hw q1.2.2.2.1 q1.2.2.2.2 hS hci (show (10000 : Int) ≤ 20000 by omega) hWI hX2 hW2 hK2 c1.1 c1.2 c4.1 c4.2 c5
  have e1 : am_E (d + 20) 95 0 [some (.inr (.inr 0)), some (.inl p), some (.inl t)] [] (SH, ρ, μ, cs) = am_E (d + 20) 95 61 [some (.inr (.inr 0)), some (.inl p), some (.inl t)] [] (SH, ρ1, μ2, cs) := by
    simp (disch := omega) only [e95_0, e95_5, e95_13, e95_27, e95_46, hgs, hn5, xk_0, xk_1, xk_40, xk_41, xk_42, xk_43, xk_44, xk_45, xk_46, xk_47, xk_48, xk_49, xk_50, xk_51, xk_52, xk_53, xk_54, xk_55, xk_56, xk_57, xk_58, xk_59, xk_60, xk_61, xk_62, xk_63, xk_64, xk_65, xk_66, xk_67, xk_68, xk_69, xk_70, xk_71, xk_72, xk_73, xk_74, xk_75, xk_76, xk_77, xk_78, xk_79, xk_80, xk_81, xk_82, xk_83, xk_84, xk_85, xk_86, xk_87, xk_88, xk_89, xk_90, xk_91, xk_92, xk_93, xk_94, xk_95, xk_96, xk_97, xk_98, xk_st0 hb, xk_st1 hb, xk_st10 hb, xk_st11 hb, xk_st12 hb, xk_st13 hb, xk_st14 hb, xk_st15 hb, xk_st16 hb, xk_st17 hb, xk_st18 hb, xk_st2 hb, xk_st3 hb, xk_st4 hb, xk_st5 hb, xk_st6 hb, xk_st7 hb, xk_st8 hb, xk_st9 hb, xk_wd0 hw, xk_wd1 hw, xk_wd2 hw, xk_wd3 hw, xk_wd4 hw, xk_wd5 hw, xk_wd6 hw, xk_wd7 hw, xk_wd8 hw, xm_0_0 hx, xm_0_10 hx, xm_0_11 hx, xm_0_12 hx, xm_0_13 hx, xm_0_14 hx, xm_0_15 hx, xm_0_2 hx, xm_0_9 hx, xm_40_0 hx, xm_40_1 hx, xm_41_0 hx, xm_44_0 hx, xm_44_1 hx, xm_73_4 hx, xm_73_5 hx, xm_73_6 hx, xm_77_1 hx, xm_77_2 hx, xm_77_3 hx, xm_77_4 hx, xm_77_5 hx, xm_77_6 hx, xm_77_7 hx, xm_77_8 hx, xm_77_9 hx, xm_87_2 hx, xm_87_3 hx, xm_87_4 hx, xm_87_5 hx, xm_87_6 hx, xm_87_7 hx, xm_87_8 hx, xm_lw2 hx hb, xm_lw3 hx hb, xm_lw4 hx hb, xm_lw5 hx hb, xm_st1 hx hb, xm_st10 hx hb, xm_st11 hx hb, xm_st13 hx hb, xm_st14 hx hb, xm_st15 hx hb, xm_st16 hx hb, xm_st17 hx hb, xm_st2 hx hb, xm_st4 hx hb, xm_st5 hx hb, xm_st6 hx hb, xm_st7 hx hb, xm_st9 hx hb, xm_wd10 hx hw, xm_wd11 hx hw, xm_wd4 hx hw, xm_wd5 hx hw, xm_wd6 hx hw, xm_wd7 hx hw, xm_wd8 hx hw, xm_wd9 hx hw, ite_self, Bool.false_eq_true, eq_self, isk_t, i20_t, w20_t, l23_t, b21_t, b22_t, w_t, bif_t, bif_f, bif_d, if_pos, if_neg, if_true, if_false, not_true_eq_false, not_false_eq_true, Option.bind_some, Option.toList_some, Option.toList_none, List.cons_append, List.nil_append, Int.toNat_natCast, Int.reduceToNat, up_eq, up_p, up_k, sN,  X_isMan hx hb hgs hX, X_isThing hx hb hgs hX, hmp, n8, q4 ]
  have e2 : am_E (d + 20) 95 0 [some (.inr (.inr 0)), some (.inl p), some (.inl t)] [] (SH, ρ, μ, cs) = some (some (.inl (if fitOf S (CR μ 0) W p t = -1 then 0 else 1)), (SH, ρ1, μ3, cs)) := by
    rw [e1]
    have hx := q1.1
    have hn5 := (xm_0_5 hx).trans hw46.symm
    have hgs : ρ1 0 3 = b := by rw [q1.2.2.1 _ _ (by omega)]; assumption
    by_cases cf : fitOf S (CR μ 0) W p t = -1
    · rw [if_pos cf] at k3
      simp (disch := omega) only [e95_61, e95_70, hgs, hn5, xk_0, xk_1, xk_40, xk_41, xk_42, xk_43, xk_44, xk_45, xk_46, xk_47, xk_48, xk_49, xk_50, xk_51, xk_52, xk_53, xk_54, xk_55, xk_56, xk_57, xk_58, xk_59, xk_60, xk_61, xk_62, xk_63, xk_64, xk_65, xk_66, xk_67, xk_68, xk_69, xk_70, xk_71, xk_72, xk_73, xk_74, xk_75, xk_76, xk_77, xk_78, xk_79, xk_80, xk_81, xk_82, xk_83, xk_84, xk_85, xk_86, xk_87, xk_88, xk_89, xk_90, xk_91, xk_92, xk_93, xk_94, xk_95, xk_96, xk_97, xk_98, xk_st0 hb, xk_st1 hb, xk_st10 hb, xk_st11 hb, xk_st12 hb, xk_st13 hb, xk_st14 hb, xk_st15 hb, xk_st16 hb, xk_st17 hb, xk_st18 hb, xk_st2 hb, xk_st3 hb, xk_st4 hb, xk_st5 hb, xk_st6 hb, xk_st7 hb, xk_st8 hb, xk_st9 hb, xk_wd0 hw, xk_wd1 hw, xk_wd2 hw, xk_wd3 hw, xk_wd4 hw, xk_wd5 hw, xk_wd6 hw, xk_wd7 hw, xk_wd8 hw, xm_0_0 hx, xm_0_10 hx, xm_0_11 hx, xm_0_12 hx, xm_0_13 hx, xm_0_14 hx, xm_0_15 hx, xm_0_2 hx, xm_0_9 hx, xm_40_0 hx, xm_40_1 hx, xm_41_0 hx, xm_44_0 hx, xm_44_1 hx, xm_73_4 hx, xm_73_5 hx, xm_73_6 hx, xm_77_1 hx, xm_77_2 hx, xm_77_3 hx, xm_77_4 hx, xm_77_5 hx, xm_77_6 hx, xm_77_7 hx, xm_77_8 hx, xm_77_9 hx, xm_87_2 hx, xm_87_3 hx, xm_87_4 hx, xm_87_5 hx, xm_87_6 hx, xm_87_7 hx, xm_87_8 hx, xm_lw2 hx hb, xm_lw3 hx hb, xm_lw4 hx hb, xm_lw5 hx hb, xm_st1 hx hb, xm_st10 hx hb, xm_st11 hx hb, xm_st13 hx hb, xm_st14 hx hb, xm_st15 hx hb, xm_st16 hx hb, xm_st17 hx hb, xm_st2 hx hb, xm_st4 hx hb, xm_st5 hx hb, xm_st6 hx hb, xm_st7 hx hb, xm_st9 hx hb, xm_wd10 hx hw, xm_wd11 hx hw, xm_wd4 hx hw, xm_wd5 hx hw, xm_wd6 hx hw, xm_wd7 hx hw, xm_wd8 hx hw, xm_wd9 hx hw, ite_self, Bool.false_eq_true, eq_self, isk_t, i20_t, w20_t, l23_t, b21_t, b22_t, w_t, bif_t, bif_f, bif_d, if_pos, if_neg, if_true, if_false, not_true_eq_false, not_false_eq_true, Option.bind_some, Option.toList_some, Option.toList_none, List.cons_append, List.nil_append, Int.toNat_natCast, Int.reduceToNat, up_eq, up_p, up_k, sN,  k3 ]
    · rw [if_neg cf] at k3
      simp (disch := omega) only [e95_61, e95_70, hgs, hn5, xk_0, xk_1, xk_40, xk_41, xk_42, xk_43, xk_44, xk_45, xk_46, xk_47, xk_48, xk_49, xk_50, xk_51, xk_52, xk_53, xk_54, xk_55, xk_56, xk_57, xk_58, xk_59, xk_60, xk_61, xk_62, xk_63, xk_64, xk_65, xk_66, xk_67, xk_68, xk_69, xk_70, xk_71, xk_72, xk_73, xk_74, xk_75, xk_76, xk_77, xk_78, xk_79, xk_80, xk_81, xk_82, xk_83, xk_84, xk_85, xk_86, xk_87, xk_88, xk_89, xk_90, xk_91, xk_92, xk_93, xk_94, xk_95, xk_96, xk_97, xk_98, xk_st0 hb, xk_st1 hb, xk_st10 hb, xk_st11 hb, xk_st12 hb, xk_st13 hb, xk_st14 hb, xk_st15 hb, xk_st16 hb, xk_st17 hb, xk_st18 hb, xk_st2 hb, xk_st3 hb, xk_st4 hb, xk_st5 hb, xk_st6 hb, xk_st7 hb, xk_st8 hb, xk_st9 hb, xk_wd0 hw, xk_wd1 hw, xk_wd2 hw, xk_wd3 hw, xk_wd4 hw, xk_wd5 hw, xk_wd6 hw, xk_wd7 hw, xk_wd8 hw, xm_0_0 hx, xm_0_10 hx, xm_0_11 hx, xm_0_12 hx, xm_0_13 hx, xm_0_14 hx, xm_0_15 hx, xm_0_2 hx, xm_0_9 hx, xm_40_0 hx, xm_40_1 hx, xm_41_0 hx, xm_44_0 hx, xm_44_1 hx, xm_73_4 hx, xm_73_5 hx, xm_73_6 hx, xm_77_1 hx, xm_77_2 hx, xm_77_3 hx, xm_77_4 hx, xm_77_5 hx, xm_77_6 hx, xm_77_7 hx, xm_77_8 hx, xm_77_9 hx, xm_87_2 hx, xm_87_3 hx, xm_87_4 hx, xm_87_5 hx, xm_87_6 hx, xm_87_7 hx, xm_87_8 hx, xm_lw2 hx hb, xm_lw3 hx hb, xm_lw4 hx hb, xm_lw5 hx hb, xm_st1 hx hb, xm_st10 hx hb, xm_st11 hx hb, xm_st13 hx hb, xm_st14 hx hb, xm_st15 hx hb, xm_st16 hx hb, xm_st17 hx hb, xm_st2 hx hb, xm_st4 hx hb, xm_st5 hx hb, xm_st6 hx hb, xm_st7 hx hb, xm_st9 hx hb, xm_wd10 hx hw, xm_wd11 hx hw, xm_wd4 hx hw, xm_wd5 hx hw, xm_wd6 hx hw, xm_wd7 hx hw, xm_wd8 hx hw, xm_wd9 hx hw, ite_self, Bool.false_eq_true, eq_self, isk_t, i20_t, w20_t, l23_t, b21_t, b22_t, w_t, bif_t, bif_f, bif_d, if_pos, if_neg, if_true, if_false, not_true_eq_false, not_false_eq_true, Option.bind_some, Option.toList_some, Option.toList_none, List.cons_append, List.nil_append, Int.toNat_natCast, Int.reduceToNat, up_eq, up_p, up_k, sN,  k3 ]
  have hρ1 := q1.2.1
  have f3 : ∀ q k, ¬ (77 ≤ q ∧ q ≤ 86) → ¬ (w ≤ q ∧ q < w + 9) → ¬ (73 ≤ q ∧ q ≤ 76) → μ3 q k = μ q k := fun q k g1 g2 g3 => by rw [k1 q k g2 (by omega) (by omega), q2 q k (by omega) (by omega), n4 q k g1]
  have f3d : ∀ q k, 77 ≤ q → q ≤ 86 → μ3 q k = μ1 q k := fun q k g1 g2 => by rw [k1 q k (by omega) (by omega) (by omega), q2 q k (by omega) (by omega)]
  have s3 : SR μ3 = S := by rw [← hSR]; exact sr_ext (fun q k _ _ => f3 _ _ (by omega) (by omega) (by omega))
  have w3 : WR μ3 0 = W := by rw [← hWR]; exact WR_s (by omega) (fun q k hq => f3 q k (by omega) (by omega) (by omega))
  obtain ⟨ν1, M', s', v1, v2, v3, v4, v5, v6, v7, v8⟩ := R_keepNow (ρ := ρ1) (μ := am_up μ3 99 0 0) (cs := cs) (d := d + 18) hρ1 hN20 (by rw [up_k (by omega), f3 _ _ (by omega) (by omega) (by omega)]; exact hN)
  have s4 : SR ν1 = S := by rw [← s3]; exact sr_ext (fun q k _ _ => by rw [v4 _ _ (by omega) (by omega) (by omega), up_p (by omega)])
  have w4 : WR ν1 0 = W := by rw [← w3]; exact WR_s (by omega) (fun q k hq => by rw [v4 q k (by omega) (by omega) (by omega), up_p (by omega)])
  have c4' : CR ν1 0 = CR μ 0 := CR_ext (by rw [s4, hSR]) (fun k g0 g1 => by rw [v4 _ _ (by omega) (by omega) (by omega), up_k (by omega), f3 _ _ (by omega) (by omega) (by omega)]) 0
  obtain ⟨ν2, x1, x2, x3⟩ := R_tells (ρ := ρ1) (cs := cs) (d := d + 13) (s := 0) (b := 0) (D := 10000) (S := S) (C := CR μ 0) (W := W) (p := p) (t := t) hρ1 (by omega) (by omega) c1.1 c1.2 c4.1 c4.2 hS hci (by omega) hWI s4 c4' w4
  refine ⟨.inl (if fitOf S (CR μ 0) W p t = -1 then 0 else 1), ρ1, μ3, ν2, e2, ?_, b, w, u, S, tellW S (CR μ 0) W p t, ?_⟩
  · clear hρ hSR hWR
    have hρ := hρ1
    show am_E (d + 20) 216 0 [some (.inr (.inr 99)), some (.inl p), some (.inl t)] [] (SH, ρ1, μ3, cs) = _
    by_cases cf : fitOf S (CR μ 0) W p t = -1
    · rw [if_pos cf] at x3 ⊢
      simp (disch := (first | omega | (simp (disch := omega) only [sr_up, wr_up_o]; omega))) only [e216_0, e216_10, e216_18, e216_30, e216_40, e216_50, e216_57, ks_99, ite_self, Bool.false_eq_true, eq_self, isk_t, i20_t, w20_t, l23_t, b21_t, b22_t, w_t, bif_t, bif_f, bif_d, if_pos, if_neg, if_true, if_false, not_true_eq_false, not_false_eq_true, Option.bind_some, Option.toList_some, Option.toList_none, List.cons_append, List.nil_append, Int.toNat_natCast, Int.reduceToNat, up_eq, up_p, up_k, sN,  R_isMan hρ, R_isThing hρ, sr_up, s3, wr_up_o, w3, R_doesHave hρ, R_isPrinted hρ, c5, c6, v8, x3 ]
    · rw [if_neg cf] at x3 ⊢
      simp (disch := (first | omega | (simp (disch := omega) only [sr_up, wr_up_o]; omega))) only [e216_0, e216_10, e216_18, e216_30, e216_40, e216_50, e216_57, ks_99, ite_self, Bool.false_eq_true, eq_self, isk_t, i20_t, w20_t, l23_t, b21_t, b22_t, w_t, bif_t, bif_f, bif_d, if_pos, if_neg, if_true, if_false, not_true_eq_false, not_false_eq_true, Option.bind_some, Option.toList_some, Option.toList_none, List.cons_append, List.nil_append, Int.toNat_natCast, Int.reduceToNat, up_eq, up_p, up_k, sN,  R_isMan hρ, R_isThing hρ, sr_up, s3, wr_up_o, w3, R_doesHave hρ, R_isPrinted hρ, c5, c6, v8, x3 ]
  · refine ra_deed hR hN n1 n2 n3 v1 v2 v3 c1.1 c1.2 c4.1 c4.2 q1.2.2.1 f3 (fun i hi q g0 g1 => by rw [f3d q i (by omega) g1]; exact n5 i hi q g0 g1) (by rw [f3d _ _ (by omega) (by omega)]; exact n6) (dv_fr n7 f3d) k2 (fun q k g1 g2 g3 g4 => by rw [x1 q k g4 g2, v4 q k g1 g2 (by omega), am_up_no (by omega)]) (fun i hi => by rw [frw_WR x1 (by omega) (by omega) (by omega), v5 i hi, wr_up_o (by omega)]) (by rw [frw_WR x1 (by omega) (by omega) (by omega), v6, wr_up_o (by omega)]) (by rw [x1 99 48 (by omega) (by omega)]; exact v7) x2 ?_ ?_ ?_ ?_ (fun t' g0 g1 g2 => ?_) (fun g => absurd c6 g) (fun a p' t' g0 g1 g2 g3 g4 g5 g6 => ?_)
    · have e0 : tellW S (CR μ 0) W p t 0 0 0 = W 0 0 0 := tell_o (by omega)
      rw [e0]
      exact wi_tell hS r8 c1.1 c1.2 c4.1 c4.2 c5
    · rw [tell_o (by omega)]
    · rw [tell_o (by omega)]
    · rw [tell_o (by omega)]
    · exact (tell_ot (fun e => g2 e.symm)).2.1.symm
    · rw [tell_at, if_neg (by omega), if_neg (by omega), news_o (by omega)]
theorem wi_forget {D : Int} {W : MW} {p t : Int} (hW : WI S D W) : WI S D (wp W 5 p t (-1)) := by
  obtain ⟨a0, a1, a2, a3, a4, a5⟩ := hW
  refine ⟨?_, ?_, ?_, ?_, fun t' h0 h1 => ?_, fun p' t' h0 h1 h2 h3 => ?_⟩
  · rw [wp_o (by omega)]; exact a0
  · rw [wp_o (by omega)]; exact a1
  · rw [wp_o (by omega)]; exact a2
  · rw [wp_o (by omega)]; exact a3
  · rw [wp_o (by omega)]; exact a4 t' h0 h1
  · rw [wp_at, wp_o (by omega), wp_o (by omega), wp_o (by omega), wp_o (by omega)]
    have := a5 p' t' h0 h1 h2 h3
    split <;> omega
theorem xw_forget (hw : w = 46 ∨ w = 55 ∨ w = 64) (hW : XW μ w W) {p t : Int} (p0 : 0 ≤ p) (p1 : p < 7) (t0 : 0 ≤ t) (t1 : t < 6) : XW (am_up μ (w + 2) p.toNat ((((μ (w + 2) p.toNat).toNat &&& (63 ^^^ 2 ^ t.toNat) : Nat)) : Int)) w (wp W 5 p t (-1)) := by
  obtain ⟨⟨a1, a2, a3, a4⟩, c1, c2, c3⟩ := hW
  have bz := c2 p p0 p1
  have hl : (μ (w + 2) p.toNat).toNat &&& (63 ^^^ 2 ^ t.toNat) < 64 := Nat.lt_of_le_of_lt Nat.and_le_left (by omega)
  refine ⟨⟨?_, ?_, ?_, ?_⟩, fun t' h0 h1 => ?_, fun p' h0 h1 => ?_, fun p' t' h0 h1 h2 h3 => ?_⟩
  · rw [up_p (by omega), wp_o (by omega)]; exact a1
  · rw [up_p (by omega), wp_o (by omega)]; exact a2
  · rw [up_p (by omega), wp_o (by omega)]; exact a3
  · rw [up_p (by omega), wp_o (by omega)]; exact a4
  · rw [up_p (by omega), up_p (by omega), wp_o (by omega)]; exact c1 t' h0 h1
  · by_cases c : p' = p
    · subst c
      rw [up_eq]
      generalize (μ (w + 2) p'.toNat).toNat &&& (63 ^^^ 2 ^ t.toNat) = z at hl
      omega
    · rw [up_k (by omega)]; exact c2 p' h0 h1
  · have c := c3 p' t' h0 h1 h2 h3
    simp (disch := omega) only [up_p]
    rw [wp_o (a := 5) (a' := 6) (by omega), wp_o (a := 5) (a' := 7) (by omega), wp_o (a := 5) (a' := 8) (by omega), wp_o (a := 5) (a' := 9) (by omega), wp_at]
    by_cases cc : p' = p ∧ t' = t
    · obtain ⟨rfl, rfl⟩ := cc
      rw [if_pos ⟨rfl, rfl, rfl⟩, up_eq, Int.toNat_natCast]
      refine ⟨?_, c.2.1, fun g => absurd rfl g, c.2.2.2⟩
      rw [Nat.testBit_and, Nat.testBit_xor, Nat.testBit_two_pow]
      have e63 : (63 : Nat).testBit t'.toNat = true := by
        have e : (63 : Nat) = 2 ^ 6 - 1 := rfl
        rw [e, Nat.testBit_two_pow_sub_one]
        exact decide_eq_true (by omega)
      rw [e63]
      simp
    · rw [if_neg (fun g => cc g.2)]
      refine ⟨?_, c.2⟩
      by_cases c5 : p' = p
      · subst c5
        rw [up_eq, Int.toNat_natCast, Nat.testBit_and, Nat.testBit_xor, Nat.testBit_two_pow, c.1]
        have e63 : (63 : Nat).testBit t'.toNat = true := by
          have e : (63 : Nat) = 2 ^ 6 - 1 := rfl
          rw [e, Nat.testBit_two_pow_sub_one]
          exact decide_eq_true (by omega)
        have ne : ¬ t.toNat = t'.toNat := by omega
        rw [e63, decide_eq_false ne]
        simp
      · rw [up_k (by omega)]; exact c.1
theorem C_forget (h : RA ρ μ) {p t : Int} : BT ρ μ cs (fun H => am_E (d + 20) 96 0 [some (.inr (.inr 0)), some (.inl p), some (.inl t)] [] H) (fun H => am_E (d + 20) 217 0 [some (.inr (.inr 99)), some (.inl p), some (.inl t)] [] H) := by
  obtain ⟨b, w, u, S, W, h⟩ := h
  have hR := h
  obtain ⟨h, r2, r3, r4, r5, r6, r7, r8⟩ := h
  have h0 := h
  obtain ⟨hx, hρ, hb, hgs, hw46, hu64, hSR, hS, hX, hWR, hWI, hW, hday, h49, h51, h53⟩ := h; have hw : w = 46 ∨ w = 55 ∨ w = 64 := Or.inl hw46; have hu : u = 46 ∨ u = 55 ∨ u = 64 := Or.inr (Or.inr hu64); have hn5 := (xm_0_5 hx).trans hw46.symm; have hn7 := (xm_0_7 hx).trans hu64.symm; have b0 := hS.1; have b1 := hS.2.1
  have hno : ∀ (hx1 : am_E (d + 20) 96 0 [some (.inr (.inr 0)), some (.inl p), some (.inl t)] [] (SH, ρ, μ, cs) = some (some (.inl 0), (SH, ρ, μ, cs))) (hx2 : am_E (d + 20) 217 0 [some (.inr (.inr 99)), some (.inl p), some (.inl t)] [] (SH, ρ, μ, cs) = some (some (.inl 0), (SH, ρ, am_up μ 99 0 0, cs))), BT ρ μ cs (fun H => am_E (d + 20) 96 0 [some (.inr (.inr 0)), some (.inl p), some (.inl t)] [] H) (fun H => am_E (d + 20) 217 0 [some (.inr (.inr 99)), some (.inl p), some (.inl t)] [] H) := fun hx1 hx2 => ⟨.inl 0, ρ, μ, am_up μ 99 0 0, hx1, hx2, b, w, u, S, W, ra_q hR (frr_rf ρ) (frq_t0 μ 0)⟩
  by_cases c1 : 0 ≤ p ∧ p < S 0 0
  rotate_left
  · refine hno ?_ ?_
    · simp (disch := omega) only [e96_0, e96_5, hgs, hn5, xk_0, xk_1, xk_40, xk_41, xk_42, xk_43, xk_44, xk_45, xk_46, xk_47, xk_48, xk_49, xk_50, xk_51, xk_52, xk_53, xk_54, xk_55, xk_56, xk_57, xk_58, xk_59, xk_60, xk_61, xk_62, xk_63, xk_64, xk_65, xk_66, xk_67, xk_68, xk_69, xk_70, xk_71, xk_72, xk_73, xk_74, xk_75, xk_76, xk_77, xk_78, xk_79, xk_80, xk_81, xk_82, xk_83, xk_84, xk_85, xk_86, xk_87, xk_88, xk_89, xk_90, xk_91, xk_92, xk_93, xk_94, xk_95, xk_96, xk_97, xk_98, xk_st0 hb, xk_st1 hb, xk_st10 hb, xk_st11 hb, xk_st12 hb, xk_st13 hb, xk_st14 hb, xk_st15 hb, xk_st16 hb, xk_st17 hb, xk_st18 hb, xk_st2 hb, xk_st3 hb, xk_st4 hb, xk_st5 hb, xk_st6 hb, xk_st7 hb, xk_st8 hb, xk_st9 hb, xk_wd0 hw, xk_wd1 hw, xk_wd2 hw, xk_wd3 hw, xk_wd4 hw, xk_wd5 hw, xk_wd6 hw, xk_wd7 hw, xk_wd8 hw, xm_0_0 hx, xm_0_10 hx, xm_0_11 hx, xm_0_12 hx, xm_0_13 hx, xm_0_14 hx, xm_0_15 hx, xm_0_2 hx, xm_0_9 hx, xm_40_0 hx, xm_40_1 hx, xm_41_0 hx, xm_44_0 hx, xm_44_1 hx, xm_73_4 hx, xm_73_5 hx, xm_73_6 hx, xm_77_1 hx, xm_77_2 hx, xm_77_3 hx, xm_77_4 hx, xm_77_5 hx, xm_77_6 hx, xm_77_7 hx, xm_77_8 hx, xm_77_9 hx, xm_87_2 hx, xm_87_3 hx, xm_87_4 hx, xm_87_5 hx, xm_87_6 hx, xm_87_7 hx, xm_87_8 hx, xm_lw2 hx hb, xm_lw3 hx hb, xm_lw4 hx hb, xm_lw5 hx hb, xm_st1 hx hb, xm_st10 hx hb, xm_st11 hx hb, xm_st13 hx hb, xm_st14 hx hb, xm_st15 hx hb, xm_st16 hx hb, xm_st17 hx hb, xm_st2 hx hb, xm_st4 hx hb, xm_st5 hx hb, xm_st6 hx hb, xm_st7 hx hb, xm_st9 hx hb, xm_wd10 hx hw, xm_wd11 hx hw, xm_wd4 hx hw, xm_wd5 hx hw, xm_wd6 hx hw, xm_wd7 hx hw, xm_wd8 hx hw, xm_wd9 hx hw, ite_self, Bool.false_eq_true, eq_self, isk_t, i20_t, w20_t, l23_t, b21_t, b22_t, w_t, bif_t, bif_f, bif_d, if_pos, if_neg, if_true, if_false, not_true_eq_false, not_false_eq_true, Option.bind_some, Option.toList_some, Option.toList_none, List.cons_append, List.nil_append, Int.toNat_natCast, Int.reduceToNat, up_eq, up_p, up_k, sN,  X_isMan hx hb hgs hX, X_isThing hx hb hgs hX ]
    · simp (disch := (first | omega | (simp (disch := omega) only [sr_up, wr_up_o]; omega))) only [e217_0, e217_10, ks_99, ite_self, Bool.false_eq_true, eq_self, isk_t, i20_t, w20_t, l23_t, b21_t, b22_t, w_t, bif_t, bif_f, bif_d, if_pos, if_neg, if_true, if_false, not_true_eq_false, not_false_eq_true, Option.bind_some, Option.toList_some, Option.toList_none, List.cons_append, List.nil_append, Int.toNat_natCast, Int.reduceToNat, up_eq, up_p, up_k, sN,  R_isMan hρ, R_isThing hρ, sr_up, hSR, wr_up_o, hWR ]
  by_cases c4 : 0 ≤ t ∧ t < S 0 1
  rotate_left
  · refine hno ?_ ?_
    · simp (disch := omega) only [e96_0, e96_5, e96_13, hgs, hn5, xk_0, xk_1, xk_40, xk_41, xk_42, xk_43, xk_44, xk_45, xk_46, xk_47, xk_48, xk_49, xk_50, xk_51, xk_52, xk_53, xk_54, xk_55, xk_56, xk_57, xk_58, xk_59, xk_60, xk_61, xk_62, xk_63, xk_64, xk_65, xk_66, xk_67, xk_68, xk_69, xk_70, xk_71, xk_72, xk_73, xk_74, xk_75, xk_76, xk_77, xk_78, xk_79, xk_80, xk_81, xk_82, xk_83, xk_84, xk_85, xk_86, xk_87, xk_88, xk_89, xk_90, xk_91, xk_92, xk_93, xk_94, xk_95, xk_96, xk_97, xk_98, xk_st0 hb, xk_st1 hb, xk_st10 hb, xk_st11 hb, xk_st12 hb, xk_st13 hb, xk_st14 hb, xk_st15 hb, xk_st16 hb, xk_st17 hb, xk_st18 hb, xk_st2 hb, xk_st3 hb, xk_st4 hb, xk_st5 hb, xk_st6 hb, xk_st7 hb, xk_st8 hb, xk_st9 hb, xk_wd0 hw, xk_wd1 hw, xk_wd2 hw, xk_wd3 hw, xk_wd4 hw, xk_wd5 hw, xk_wd6 hw, xk_wd7 hw, xk_wd8 hw, xm_0_0 hx, xm_0_10 hx, xm_0_11 hx, xm_0_12 hx, xm_0_13 hx, xm_0_14 hx, xm_0_15 hx, xm_0_2 hx, xm_0_9 hx, xm_40_0 hx, xm_40_1 hx, xm_41_0 hx, xm_44_0 hx, xm_44_1 hx, xm_73_4 hx, xm_73_5 hx, xm_73_6 hx, xm_77_1 hx, xm_77_2 hx, xm_77_3 hx, xm_77_4 hx, xm_77_5 hx, xm_77_6 hx, xm_77_7 hx, xm_77_8 hx, xm_77_9 hx, xm_87_2 hx, xm_87_3 hx, xm_87_4 hx, xm_87_5 hx, xm_87_6 hx, xm_87_7 hx, xm_87_8 hx, xm_lw2 hx hb, xm_lw3 hx hb, xm_lw4 hx hb, xm_lw5 hx hb, xm_st1 hx hb, xm_st10 hx hb, xm_st11 hx hb, xm_st13 hx hb, xm_st14 hx hb, xm_st15 hx hb, xm_st16 hx hb, xm_st17 hx hb, xm_st2 hx hb, xm_st4 hx hb, xm_st5 hx hb, xm_st6 hx hb, xm_st7 hx hb, xm_st9 hx hb, xm_wd10 hx hw, xm_wd11 hx hw, xm_wd4 hx hw, xm_wd5 hx hw, xm_wd6 hx hw, xm_wd7 hx hw, xm_wd8 hx hw, xm_wd9 hx hw, ite_self, Bool.false_eq_true, eq_self, isk_t, i20_t, w20_t, l23_t, b21_t, b22_t, w_t, bif_t, bif_f, bif_d, if_pos, if_neg, if_true, if_false, not_true_eq_false, not_false_eq_true, Option.bind_some, Option.toList_some, Option.toList_none, List.cons_append, List.nil_append, Int.toNat_natCast, Int.reduceToNat, up_eq, up_p, up_k, sN,  X_isMan hx hb hgs hX, X_isThing hx hb hgs hX ]
    · simp (disch := (first | omega | (simp (disch := omega) only [sr_up, wr_up_o]; omega))) only [e217_0, e217_10, e217_18, ks_99, ite_self, Bool.false_eq_true, eq_self, isk_t, i20_t, w20_t, l23_t, b21_t, b22_t, w_t, bif_t, bif_f, bif_d, if_pos, if_neg, if_true, if_false, not_true_eq_false, not_false_eq_true, Option.bind_some, Option.toList_some, Option.toList_none, List.cons_append, List.nil_append, Int.toNat_natCast, Int.reduceToNat, up_eq, up_p, up_k, sN,  R_isMan hρ, R_isThing hρ, sr_up, hSR, wr_up_o, hWR ]
  have t6 : t < 6 := by omega
  have p7 : p < 7 := by omega
  by_cases c5 : W 5 p t = -1
  · refine hno ?_ ?_
    · simp (disch := omega) only [e96_0, e96_5, e96_13, e96_25, hgs, hn5, xk_0, xk_1, xk_40, xk_41, xk_42, xk_43, xk_44, xk_45, xk_46, xk_47, xk_48, xk_49, xk_50, xk_51, xk_52, xk_53, xk_54, xk_55, xk_56, xk_57, xk_58, xk_59, xk_60, xk_61, xk_62, xk_63, xk_64, xk_65, xk_66, xk_67, xk_68, xk_69, xk_70, xk_71, xk_72, xk_73, xk_74, xk_75, xk_76, xk_77, xk_78, xk_79, xk_80, xk_81, xk_82, xk_83, xk_84, xk_85, xk_86, xk_87, xk_88, xk_89, xk_90, xk_91, xk_92, xk_93, xk_94, xk_95, xk_96, xk_97, xk_98, xk_st0 hb, xk_st1 hb, xk_st10 hb, xk_st11 hb, xk_st12 hb, xk_st13 hb, xk_st14 hb, xk_st15 hb, xk_st16 hb, xk_st17 hb, xk_st18 hb, xk_st2 hb, xk_st3 hb, xk_st4 hb, xk_st5 hb, xk_st6 hb, xk_st7 hb, xk_st8 hb, xk_st9 hb, xk_wd0 hw, xk_wd1 hw, xk_wd2 hw, xk_wd3 hw, xk_wd4 hw, xk_wd5 hw, xk_wd6 hw, xk_wd7 hw, xk_wd8 hw, xm_0_0 hx, xm_0_10 hx, xm_0_11 hx, xm_0_12 hx, xm_0_13 hx, xm_0_14 hx, xm_0_15 hx, xm_0_2 hx, xm_0_9 hx, xm_40_0 hx, xm_40_1 hx, xm_41_0 hx, xm_44_0 hx, xm_44_1 hx, xm_73_4 hx, xm_73_5 hx, xm_73_6 hx, xm_77_1 hx, xm_77_2 hx, xm_77_3 hx, xm_77_4 hx, xm_77_5 hx, xm_77_6 hx, xm_77_7 hx, xm_77_8 hx, xm_77_9 hx, xm_87_2 hx, xm_87_3 hx, xm_87_4 hx, xm_87_5 hx, xm_87_6 hx, xm_87_7 hx, xm_87_8 hx, xm_lw2 hx hb, xm_lw3 hx hb, xm_lw4 hx hb, xm_lw5 hx hb, xm_st1 hx hb, xm_st10 hx hb, xm_st11 hx hb, xm_st13 hx hb, xm_st14 hx hb, xm_st15 hx hb, xm_st16 hx hb, xm_st17 hx hb, xm_st2 hx hb, xm_st4 hx hb, xm_st5 hx hb, xm_st6 hx hb, xm_st7 hx hb, xm_st9 hx hb, xm_wd10 hx hw, xm_wd11 hx hw, xm_wd4 hx hw, xm_wd5 hx hw, xm_wd6 hx hw, xm_wd7 hx hw, xm_wd8 hx hw, xm_wd9 hx hw, ite_self, Bool.false_eq_true, eq_self, isk_t, i20_t, w20_t, l23_t, b21_t, b22_t, w_t, bif_t, bif_f, bif_d, if_pos, if_neg, if_true, if_false, not_true_eq_false, not_false_eq_true, Option.bind_some, Option.toList_some, Option.toList_none, List.cons_append, List.nil_append, Int.toNat_natCast, Int.reduceToNat, up_eq, up_p, up_k, sN,  X_isMan hx hb hgs hX, X_isThing hx hb hgs hX, X_holds hx hw hW, c5 ]
    · simp (disch := (first | omega | (simp (disch := omega) only [sr_up, wr_up_o]; omega))) only [e217_0, e217_10, e217_18, e217_28, ks_99, ite_self, Bool.false_eq_true, eq_self, isk_t, i20_t, w20_t, l23_t, b21_t, b22_t, w_t, bif_t, bif_f, bif_d, if_pos, if_neg, if_true, if_false, not_true_eq_false, not_false_eq_true, Option.bind_some, Option.toList_some, Option.toList_none, List.cons_append, List.nil_append, Int.toNat_natCast, Int.reduceToNat, up_eq, up_p, up_k, sN,  R_isMan hρ, R_isThing hρ, sr_up, hSR, wr_up_o, hWR, R_doesHave hρ, c5 ]
  obtain ⟨N, hN⟩ : ∃ N : Nat, μ 99 48 = (N : Int) := ⟨(μ 99 48).toNat, by have := r2.2.1; omega⟩
  have hN20 : N ≤ 20 := by have := r2.2.2.1; omega
  obtain ⟨μ1, M, s, n1, n2, n3, n4, n5, n6, n7, n8⟩ := X_note (ρ := ρ) (μ := μ) (cs := cs) (d := d + 17) hx hw c1.1 p7 c4.1 t6 hN20 (by rw [r2.1]; exact hN)
  have hW1 := xw_fr hW (μ' := μ1) (fun q k a e => n4 q k (by omega))
  have hbz := hW1.2.2.1 p c1.1 p7
  have hxw := xw_forget hw hW1 c1.1 p7 c4.1 t6
  have hp64 : 2 ^ t.toNat < 64 := Nat.lt_of_lt_of_le (Nat.pow_lt_pow_right (by decide) (show t.toNat < 6 by omega)) (by decide)
  have hmask : am_and (μ1 (w + 2) p.toNat) (am_xor (am_shl 1 t) (-1)) = (((μ1 (w + 2) p.toNat).toNat &&& (63 ^^^ 2 ^ t.toNat) : Nat) : Int) := by
    have e1 := and_not (μ1 (w + 2) p.toNat).toNat (by omega) (2 ^ t.toNat) hp64
    rw [Int.toNat_of_nonneg hbz.1] at e1
    rw [ib_one c4.1 (by omega)]
    exact e1
  generalize hμ3 : am_up μ1 (w + 2) p.toNat (((μ1 (w + 2) p.toNat).toNat &&& (63 ^^^ 2 ^ t.toNat) : Nat) : Int) = μ3 at hxw
  have e2 : am_E (d + 20) 96 0 [some (.inr (.inr 0)), some (.inl p), some (.inl t)] [] (SH, ρ, μ, cs) = some (some (.inl 1), (SH, ρ, μ3, cs)) := by
    rw [← hμ3, ← hmask]
    simp (disch := omega) only [e96_0, e96_5, e96_13, e96_25, e96_43, hgs, hn5, xk_0, xk_1, xk_40, xk_41, xk_42, xk_43, xk_44, xk_45, xk_46, xk_47, xk_48, xk_49, xk_50, xk_51, xk_52, xk_53, xk_54, xk_55, xk_56, xk_57, xk_58, xk_59, xk_60, xk_61, xk_62, xk_63, xk_64, xk_65, xk_66, xk_67, xk_68, xk_69, xk_70, xk_71, xk_72, xk_73, xk_74, xk_75, xk_76, xk_77, xk_78, xk_79, xk_80, xk_81, xk_82, xk_83, xk_84, xk_85, xk_86, xk_87, xk_88, xk_89, xk_90, xk_91, xk_92, xk_93, xk_94, xk_95, xk_96, xk_97, xk_98, xk_st0 hb, xk_st1 hb, xk_st10 hb, xk_st11 hb, xk_st12 hb, xk_st13 hb, xk_st14 hb, xk_st15 hb, xk_st16 hb, xk_st17 hb, xk_st18 hb, xk_st2 hb, xk_st3 hb, xk_st4 hb, xk_st5 hb, xk_st6 hb, xk_st7 hb, xk_st8 hb, xk_st9 hb, xk_wd0 hw, xk_wd1 hw, xk_wd2 hw, xk_wd3 hw, xk_wd4 hw, xk_wd5 hw, xk_wd6 hw, xk_wd7 hw, xk_wd8 hw, xm_0_0 hx, xm_0_10 hx, xm_0_11 hx, xm_0_12 hx, xm_0_13 hx, xm_0_14 hx, xm_0_15 hx, xm_0_2 hx, xm_0_9 hx, xm_40_0 hx, xm_40_1 hx, xm_41_0 hx, xm_44_0 hx, xm_44_1 hx, xm_73_4 hx, xm_73_5 hx, xm_73_6 hx, xm_77_1 hx, xm_77_2 hx, xm_77_3 hx, xm_77_4 hx, xm_77_5 hx, xm_77_6 hx, xm_77_7 hx, xm_77_8 hx, xm_77_9 hx, xm_87_2 hx, xm_87_3 hx, xm_87_4 hx, xm_87_5 hx, xm_87_6 hx, xm_87_7 hx, xm_87_8 hx, xm_lw2 hx hb, xm_lw3 hx hb, xm_lw4 hx hb, xm_lw5 hx hb, xm_st1 hx hb, xm_st10 hx hb, xm_st11 hx hb, xm_st13 hx hb, xm_st14 hx hb, xm_st15 hx hb, xm_st16 hx hb, xm_st17 hx hb, xm_st2 hx hb, xm_st4 hx hb, xm_st5 hx hb, xm_st6 hx hb, xm_st7 hx hb, xm_st9 hx hb, xm_wd10 hx hw, xm_wd11 hx hw, xm_wd4 hx hw, xm_wd5 hx hw, xm_wd6 hx hw, xm_wd7 hx hw, xm_wd8 hx hw, xm_wd9 hx hw, ite_self, Bool.false_eq_true, eq_self, isk_t, i20_t, w20_t, l23_t, b21_t, b22_t, w_t, bif_t, bif_f, bif_d, if_pos, if_neg, if_true, if_false, not_true_eq_false, not_false_eq_true, Option.bind_some, Option.toList_some, Option.toList_none, List.cons_append, List.nil_append, Int.toNat_natCast, Int.reduceToNat, up_eq, up_p, up_k, sN,  X_isMan hx hb hgs hX, X_isThing hx hb hgs hX, X_holds hx hw hW, c5, n8 ]
  have f3 : ∀ q k, ¬ (77 ≤ q ∧ q ≤ 86) → ¬ (w ≤ q ∧ q < w + 9) → ¬ (73 ≤ q ∧ q ≤ 76) → μ3 q k = μ q k := fun q k g1 g2 g3 => by rw [← hμ3, up_p (by omega), n4 q k g1]
  have f3d : ∀ q k, 77 ≤ q → q ≤ 86 → μ3 q k = μ1 q k := fun q k g1 g2 => by rw [← hμ3, up_p (by omega)]
  have s3 : SR μ3 = S := by rw [← hSR]; exact sr_ext (fun q k _ _ => f3 _ _ (by omega) (by omega) (by omega))
  have w3 : WR μ3 0 = W := by rw [← hWR]; exact WR_s (by omega) (fun q k hq => f3 q k (by omega) (by omega) (by omega))
  obtain ⟨ν1, M', s', v1, v2, v3, v4, v5, v6, v7, v8⟩ := R_keepNow (ρ := ρ) (μ := am_up μ3 99 0 0) (cs := cs) (d := d + 18) hρ hN20 (by rw [up_k (by omega), f3 _ _ (by omega) (by omega) (by omega)]; exact hN)
  have w4 : WR ν1 0 = W := by rw [← w3]; exact WR_s (by omega) (fun q k hq => by rw [v4 q k (by omega) (by omega) (by omega), up_p (by omega)])
  have x1 : FrW 0 ν1 (am_up ν1 125 (sI 0 p t) (-1)) := frw_up (frw_rf 0 ν1) (by left; right; right; unfold sI; omega)
  have x2 : WR (am_up ν1 125 (sI 0 p t) (-1)) 0 = wp W 5 p t (-1) := by rw [wr_up_hats (by omega) c4.1 t6 c1.1 p7, w4]
  refine ⟨.inl 1, ρ, μ3, am_up ν1 125 (sI 0 p t) (-1), e2, ?_, b, w, u, S, wp W 5 p t (-1), ?_⟩
  · clear hSR hWR
    show am_E (d + 20) 217 0 [some (.inr (.inr 99)), some (.inl p), some (.inl t)] [] (SH, ρ, μ3, cs) = _
    simp (disch := (first | omega | (simp (disch := omega) only [sr_up, wr_up_o]; omega))) only [e217_0, e217_10, e217_18, e217_28, e217_37, e217_47, ks_125, ks_99, rm_hatsOf hρ, ite_self, Bool.false_eq_true, eq_self, isk_t, i20_t, w20_t, l23_t, b21_t, b22_t, w_t, bif_t, bif_f, bif_d, if_pos, if_neg, if_true, if_false, not_true_eq_false, not_false_eq_true, Option.bind_some, Option.toList_some, Option.toList_none, List.cons_append, List.nil_append, Int.toNat_natCast, Int.reduceToNat, up_eq, up_p, up_k, sN,  R_isMan hρ, R_isThing hρ, sr_up, s3, wr_up_o, w3, R_doesHave hρ, c5, v8, R_slot, w20_s, ks_125 ]
  · refine ra_deed hR hN n1 n2 n3 v1 v2 v3 c1.1 c1.2 c4.1 c4.2 (frr_rf ρ) f3 (fun i hi q g0 g1 => by rw [f3d q i (by omega) g1]; exact n5 i hi q g0 g1) (by rw [f3d _ _ (by omega) (by omega)]; exact n6) (dv_fr n7 f3d) hxw (fun q k g1 g2 g3 g4 => by rw [x1 q k g4 g2, v4 q k g1 g2 (by omega), am_up_no (by omega)]) (fun i hi => by rw [frw_WR x1 (by omega) (by omega) (by omega), v5 i hi, wr_up_o (by omega)]) (by rw [frw_WR x1 (by omega) (by omega) (by omega), v6, wr_up_o (by omega)]) (by rw [x1 99 48 (by omega) (by omega)]; exact v7) x2 ?_ ?_ ?_ ?_ (fun t' g0 g1 g2 => ?_) (fun g => ?_) (fun a p' t' g0 g1 g2 g3 g4 g5 g6 => ?_)
    · rw [wp_o (by omega)]; exact wi_forget r8
    · rw [wp_o (by omega)]
    · rw [wp_o (by omega)]
    · rw [wp_o (by omega)]
    · rw [wp_o (by omega)]
    · rw [wp_o (by omega), wp_o (by omega)]; exact ⟨rfl, rfl⟩
    · rw [wp_at, if_neg (fun g => g6 g.2)]
/-- the latest deed is taken back -/
theorem xw_back (hw : w = 46 ∨ w = 55 ∨ w = 64) {A : MW} {i : Nat} (hW : XW μ w W) (hD : DD μ i A W) : XW (am_up (am_up (am_up (am_up (am_up (am_up (am_up μ (w + 2) (μ 78 i).toNat (μ 80 i)) (w + 4) (cI (μ 78 i) (μ 79 i)) (μ 81 i)) (w + 5) (cI (μ 78 i) (μ 79 i)) (μ 82 i)) (w + 6) (cI (μ 78 i) (μ 79 i)) (μ 83 i)) (w + 3) (μ 79 i).toNat (μ 84 i)) (w + 1) (μ 79 i).toNat (μ 85 i)) w 2 (μ 86 i)) w A := by
  unfold DD at hD
  generalize μ 78 i = m at hD ⊢
  generalize μ 79 i = t at hD ⊢
  generalize μ 80 i = x80 at hD ⊢
  generalize μ 81 i = x81 at hD ⊢
  generalize μ 82 i = x82 at hD ⊢
  generalize μ 83 i = x83 at hD ⊢
  generalize μ 84 i = x84 at hD ⊢
  generalize μ 85 i = x85 at hD ⊢
  generalize μ 86 i = x86 at hD ⊢
  obtain ⟨d1, d2, d3, d4, d5, d6, d7, d8, d9⟩ := hD
  obtain ⟨⟨a1, a2, a3, a4⟩, c1, c2, c3⟩ := hW
  refine ⟨⟨?_, ?_, ?_, ?_⟩, fun t' h0 h1 => ?_, fun p' h0 h1 => ?_, fun p' t' h0 h1 h2 h3 => ?_⟩
  · simp (disch := omega) only [up_p, up_k]; rw [a1]; exact d3.1.symm
  · simp (disch := omega) only [up_p, up_k]; rw [a2]; exact d3.2.1.symm
  · rw [up_eq]; exact d3.2.2.2.symm
  · simp (disch := omega) only [up_p, up_k]; rw [a4]; exact d3.2.2.1.symm
  · simp (disch := omega) only [up_p]
    have c := c1 t' h0 h1
    by_cases e : t' = t
    · subst e
      rw [up_eq, up_eq]
      exact ⟨d4.1.symm, d6.1⟩
    · simp (disch := omega) only [up_p, up_k]
      exact ⟨by rw [c.1]; exact (d4.2 t' h0 h1 e).symm, c.2⟩
  · simp (disch := omega) only [up_p]
    by_cases e : p' = m
    · subst e; rw [up_eq]; exact d5.1
    · rw [up_k (by omega)]; exact c2 p' h0 h1
  · have c := c3 p' t' h0 h1 h2 h3
    have ci : cI p' t' = cI m t ↔ p' = m ∧ t' = t := by unfold cI; omega
    simp (disch := omega) only [up_p]
    by_cases e : p' = m ∧ t' = t
    · obtain ⟨rfl, rfl⟩ := e
      simp only [up_eq]
      refine ⟨d5.2 t' h2 h3, d6.2 p' h0 h1, fun g => d7 g, fun g => ?_⟩
      have g2 := d8 g
      have g3 := c.2.2.2 (by rw [← g2.1]; exact g)
      exact ⟨g3.1.trans g2.1.symm, g3.2.trans g2.2.symm⟩
    · have ci' : cI p' t' ≠ cI m t := fun g => e (ci.mp g)
      have f5 := d9 5 p' t' (by omega) (by omega) h0 h1 h2 h3 e
      have f6 := d9 6 p' t' (by omega) (by omega) h0 h1 h2 h3 e
      have f7 := d9 7 p' t' (by omega) (by omega) h0 h1 h2 h3 e
      have f8 := d9 8 p' t' (by omega) (by omega) h0 h1 h2 h3 e
      have f9 := d9 9 p' t' (by omega) (by omega) h0 h1 h2 h3 e
      rw [up_k (p := w + 4) ci', up_k (p := w + 5) ci', up_k (p := w + 6) ci']
      simp (disch := omega) only [up_p]
      refine ⟨?_, ?_, ?_, ?_⟩
      · by_cases e2 : p' = m
        · subst e2; rw [up_eq]; exact d5.2 t' h2 h3
        · rw [up_k (by omega)]; rw [f5]; exact c.1
      · by_cases e2 : t' = t
        · subst e2; rw [up_eq]; exact d6.2 p' h0 h1
        · rw [up_k (by omega)]; simp (disch := omega) only [up_p]; rw [f8]; exact c.2.1
      · rw [f5, f6, f7]; exact c.2.2.1
      · rw [f8, f9]; exact c.2.2.2
theorem C_undo (h : RA ρ μ) : BT ρ μ cs (fun H => am_E (d + 20) 130 0 [some (.inr (.inr 0))] [] H) (fun H => am_E (d + 20) 253 0 [some (.inr (.inr 99))] [] H) := by
  obtain ⟨b, w, u, S, W, h⟩ := h
  have hR := h
  obtain ⟨h, r2, r3, r4, r5, r6, r7, r8⟩ := h
  have h0 := h
  obtain ⟨hx, hρ, hb, hgs, hw46, hu64, hSR, hS, hX, hWR, hWI, hW, hday, h49, h51, h53⟩ := h; have hw : w = 46 ∨ w = 55 ∨ w = 64 := Or.inl hw46; have hu : u = 46 ∨ u = 55 ∨ u = 64 := Or.inr (Or.inr hu64); have hn5 := (xm_0_5 hx).trans hw46.symm; have hn7 := (xm_0_7 hx).trans hu64.symm; have b0 := hS.1; have b1 := hS.2.1
  obtain ⟨N, hN⟩ : ∃ N : Nat, μ 99 48 = (N : Int) := ⟨(μ 99 48).toNat, by have := r2.2.1; omega⟩
  have hN20 : N ≤ 20 := by have := r2.2.2.1; omega
  have h77 : μ 77 0 = (N : Int) := by rw [r2.1]; exact hN
  by_cases c0 : N = 0
  · refine ⟨.inl (-1), ρ, μ, am_up μ 99 0 0, ?_, ?_, b, w, u, S, W, ra_q hR (frr_rf ρ) (frq_t0 μ 0)⟩
    · simp (disch := omega) only [e130_0, hgs, hn5, xk_0, xk_1, xk_40, xk_41, xk_42, xk_43, xk_44, xk_45, xk_46, xk_47, xk_48, xk_49, xk_50, xk_51, xk_52, xk_53, xk_54, xk_55, xk_56, xk_57, xk_58, xk_59, xk_60, xk_61, xk_62, xk_63, xk_64, xk_65, xk_66, xk_67, xk_68, xk_69, xk_70, xk_71, xk_72, xk_73, xk_74, xk_75, xk_76, xk_77, xk_78, xk_79, xk_80, xk_81, xk_82, xk_83, xk_84, xk_85, xk_86, xk_87, xk_88, xk_89, xk_90, xk_91, xk_92, xk_93, xk_94, xk_95, xk_96, xk_97, xk_98, xk_st0 hb, xk_st1 hb, xk_st10 hb, xk_st11 hb, xk_st12 hb, xk_st13 hb, xk_st14 hb, xk_st15 hb, xk_st16 hb, xk_st17 hb, xk_st18 hb, xk_st2 hb, xk_st3 hb, xk_st4 hb, xk_st5 hb, xk_st6 hb, xk_st7 hb, xk_st8 hb, xk_st9 hb, xk_wd0 hw, xk_wd1 hw, xk_wd2 hw, xk_wd3 hw, xk_wd4 hw, xk_wd5 hw, xk_wd6 hw, xk_wd7 hw, xk_wd8 hw, xm_0_0 hx, xm_0_10 hx, xm_0_11 hx, xm_0_12 hx, xm_0_13 hx, xm_0_14 hx, xm_0_15 hx, xm_0_2 hx, xm_0_9 hx, xm_40_0 hx, xm_40_1 hx, xm_41_0 hx, xm_44_0 hx, xm_44_1 hx, xm_73_4 hx, xm_73_5 hx, xm_73_6 hx, xm_77_1 hx, xm_77_2 hx, xm_77_3 hx, xm_77_4 hx, xm_77_5 hx, xm_77_6 hx, xm_77_7 hx, xm_77_8 hx, xm_77_9 hx, xm_87_2 hx, xm_87_3 hx, xm_87_4 hx, xm_87_5 hx, xm_87_6 hx, xm_87_7 hx, xm_87_8 hx, xm_lw2 hx hb, xm_lw3 hx hb, xm_lw4 hx hb, xm_lw5 hx hb, xm_st1 hx hb, xm_st10 hx hb, xm_st11 hx hb, xm_st13 hx hb, xm_st14 hx hb, xm_st15 hx hb, xm_st16 hx hb, xm_st17 hx hb, xm_st2 hx hb, xm_st4 hx hb, xm_st5 hx hb, xm_st6 hx hb, xm_st7 hx hb, xm_st9 hx hb, xm_wd10 hx hw, xm_wd11 hx hw, xm_wd4 hx hw, xm_wd5 hx hw, xm_wd6 hx hw, xm_wd7 hx hw, xm_wd8 hx hw, xm_wd9 hx hw, ite_self, Bool.false_eq_true, eq_self, isk_t, i20_t, w20_t, l23_t, b21_t, b22_t, w_t, bif_t, bif_f, bif_d, if_pos, if_neg, if_true, if_false, not_true_eq_false, not_false_eq_true, Option.bind_some, Option.toList_some, Option.toList_none, List.cons_append, List.nil_append, Int.toNat_natCast, Int.reduceToNat, up_eq, up_p, up_k, sN,  h77 ]
    · simp (disch := (first | omega | (simp (disch := omega) only [sr_up, wr_up_o]; omega))) only [e253_0, ks_99, ite_self, Bool.false_eq_true, eq_self, isk_t, i20_t, w20_t, l23_t, b21_t, b22_t, w_t, bif_t, bif_f, bif_d, if_pos, if_neg, if_true, if_false, not_true_eq_false, not_false_eq_true, Option.bind_some, Option.toList_some, Option.toList_none, List.cons_append, List.nil_append, Int.toNat_natCast, Int.reduceToNat, up_eq, up_p, up_k, sN,  hN ]
  obtain ⟨i, rfl⟩ : ∃ i, N = i + 1 := ⟨N - 1, by omega⟩
  have g := r2.2.2.2 i (by omega)
  have en : nxt μ W i = W := by unfold nxt; rw [if_neg (by omega)]
  rw [en] at g
  generalize hA : WR μ (3 + (i : Int)) = A at g
  have hxw := xw_back hw hW g.2.2
  have dm := g.2.2.1
  have dt := g.2.2.2.1
  have e1 : (((i + 1 : Nat) : Int)) - 1 = (i : Int) := by omega
  generalize hμ3 : am_up (am_up (am_up (am_up (am_up (am_up (am_up μ (w + 2) (μ 78 i).toNat (μ 80 i)) (w + 4) (cI (μ 78 i) (μ 79 i)) (μ 81 i)) (w + 5) (cI (μ 78 i) (μ 79 i)) (μ 82 i)) (w + 6) (cI (μ 78 i) (μ 79 i)) (μ 83 i)) (w + 3) (μ 79 i).toNat (μ 84 i)) (w + 1) (μ 79 i).toNat (μ 85 i)) w 2 (μ 86 i) = μ3 at hxw
  obtain ⟨μ4, e2, e3⟩ : ∃ μ4, (∀ q k, μ4 q k = if q = 77 ∧ k = 0 then (i : Int) else μ3 q k) ∧ am_E (d + 20) 130 0 [some (.inr (.inr 0))] [] (SH, ρ, μ, cs) = some (some (.inl (i : Int)), (SH, ρ, μ4, cs)) := by
    refine ⟨am_up (am_up (am_up (am_up (am_up (am_up (am_up (am_up μ 77 0 (i : Int)) (w + 2) (μ 78 i).toNat (μ 80 i)) (w + 4) (cI (μ 78 i) (μ 79 i)) (μ 81 i)) (w + 5) (cI (μ 78 i) (μ 79 i)) (μ 82 i)) (w + 6) (cI (μ 78 i) (μ 79 i)) (μ 83 i)) (w + 3) (μ 79 i).toNat (μ 84 i)) (w + 1) (μ 79 i).toNat (μ 85 i)) w 2 (μ 86 i), fun q k => ?_, ?_⟩
    · by_cases c : q = 77 ∧ k = 0
      · obtain ⟨rfl, rfl⟩ := c
        rw [if_pos ⟨rfl, rfl⟩]
        simp (disch := omega) only [up_p, up_eq]
      · rw [if_neg c, ← hμ3]
        unfold am_up
        by_cases c1 : q = w ∧ k = 2
        · rw [if_pos c1, if_pos c1]
        · rw [if_neg c1, if_neg c1]
          by_cases c2 : q = w + 1 ∧ k = (μ 79 i).toNat
          · rw [if_pos c2, if_pos c2]
          · rw [if_neg c2, if_neg c2]
            by_cases c3 : q = w + 3 ∧ k = (μ 79 i).toNat
            · rw [if_pos c3, if_pos c3]
            · rw [if_neg c3, if_neg c3]
              by_cases c4 : q = w + 6 ∧ k = cI (μ 78 i) (μ 79 i)
              · rw [if_pos c4, if_pos c4]
              · rw [if_neg c4, if_neg c4]
                by_cases c5 : q = w + 5 ∧ k = cI (μ 78 i) (μ 79 i)
                · rw [if_pos c5, if_pos c5]
                · rw [if_neg c5, if_neg c5]
                  by_cases c6 : q = w + 4 ∧ k = cI (μ 78 i) (μ 79 i)
                  · rw [if_pos c6, if_pos c6]
                  · rw [if_neg c6, if_neg c6]
                    by_cases c7 : q = w + 2 ∧ k = (μ 78 i).toNat
                    · rw [if_pos c7, if_pos c7]
                    · rw [if_neg c7, if_neg c7, if_neg c]
    · have dm0 := dm.1
      have dt0 := dt.1
      have hin : ¬ (((i + 1 : Nat) : Int)) = 0 := by omega
      simp (disch := omega) only [e130_0, e130_23, e19_0, e19_43, e19_108, hgs, hn5, xk_0, xk_1, xk_40, xk_41, xk_42, xk_43, xk_44, xk_45, xk_46, xk_47, xk_48, xk_49, xk_50, xk_51, xk_52, xk_53, xk_54, xk_55, xk_56, xk_57, xk_58, xk_59, xk_60, xk_61, xk_62, xk_63, xk_64, xk_65, xk_66, xk_67, xk_68, xk_69, xk_70, xk_71, xk_72, xk_73, xk_74, xk_75, xk_76, xk_77, xk_78, xk_79, xk_80, xk_81, xk_82, xk_83, xk_84, xk_85, xk_86, xk_87, xk_88, xk_89, xk_90, xk_91, xk_92, xk_93, xk_94, xk_95, xk_96, xk_97, xk_98, xk_st0 hb, xk_st1 hb, xk_st10 hb, xk_st11 hb, xk_st12 hb, xk_st13 hb, xk_st14 hb, xk_st15 hb, xk_st16 hb, xk_st17 hb, xk_st18 hb, xk_st2 hb, xk_st3 hb, xk_st4 hb, xk_st5 hb, xk_st6 hb, xk_st7 hb, xk_st8 hb, xk_st9 hb, xk_wd0 hw, xk_wd1 hw, xk_wd2 hw, xk_wd3 hw, xk_wd4 hw, xk_wd5 hw, xk_wd6 hw, xk_wd7 hw, xk_wd8 hw, xm_0_0 hx, xm_0_10 hx, xm_0_11 hx, xm_0_12 hx, xm_0_13 hx, xm_0_14 hx, xm_0_15 hx, xm_0_2 hx, xm_0_9 hx, xm_40_0 hx, xm_40_1 hx, xm_41_0 hx, xm_44_0 hx, xm_44_1 hx, xm_73_4 hx, xm_73_5 hx, xm_73_6 hx, xm_77_1 hx, xm_77_2 hx, xm_77_3 hx, xm_77_4 hx, xm_77_5 hx, xm_77_6 hx, xm_77_7 hx, xm_77_8 hx, xm_77_9 hx, xm_87_2 hx, xm_87_3 hx, xm_87_4 hx, xm_87_5 hx, xm_87_6 hx, xm_87_7 hx, xm_87_8 hx, xm_lw2 hx hb, xm_lw3 hx hb, xm_lw4 hx hb, xm_lw5 hx hb, xm_st1 hx hb, xm_st10 hx hb, xm_st11 hx hb, xm_st13 hx hb, xm_st14 hx hb, xm_st15 hx hb, xm_st16 hx hb, xm_st17 hx hb, xm_st2 hx hb, xm_st4 hx hb, xm_st5 hx hb, xm_st6 hx hb, xm_st7 hx hb, xm_st9 hx hb, xm_wd10 hx hw, xm_wd11 hx hw, xm_wd4 hx hw, xm_wd5 hx hw, xm_wd6 hx hw, xm_wd7 hx hw, xm_wd8 hx hw, xm_wd9 hx hw, ite_self, Bool.false_eq_true, eq_self, isk_t, i20_t, w20_t, l23_t, b21_t, b22_t, w_t, bif_t, bif_f, bif_d, if_pos, if_neg, if_true, if_false, not_true_eq_false, not_false_eq_true, Option.bind_some, Option.toList_some, Option.toList_none, List.cons_append, List.nil_append, Int.toNat_natCast, Int.reduceToNat, up_eq, up_p, up_k, sN,  h77, hin, e1, X_cell, w20_c, i20_c ]
  have f4 : ∀ q k, ¬ (q = 77 ∧ k = 0) → ¬ (w ≤ q ∧ q < w + 9) → μ4 q k = μ q k := fun q k g1 g2 => by
    rw [e2, if_neg g1, ← hμ3]
    simp (disch := omega) only [up_p]
  have w4s : ∀ z : Int, 0 ≤ z → WR μ4 z = WR μ z := fun z hz => WR_s hz (fun q k hq => f4 q k (by omega) (by omega))
  obtain ⟨ν, x1, x2, x3⟩ := R_copies (ρ := ρ) (cs := cs) (d := d + 19) (μ := am_up (am_up μ4 99 0 0) 99 48 (i : Int)) (s := 0) (s' := 3 + (i : Int)) hρ (by omega) (by omega) (by omega) (by omega) (by omega)
  have x2' : WR ν 0 = A := by rw [x2, wr_up_o (by omega), wr_up_o (by omega), w4s _ (by omega)]; exact hA
  have z48 : ν 99 48 = (i : Int) := by rw [x1 99 48 (by omega) (by omega), up_eq]
  have fa : ∀ q k, ¬ (q = 77 ∧ k = 0) → ¬ (w ≤ q ∧ q < w + 9) → ¬ FrT 0 q k → ¬ FrS q k → ¬ (q = 99 ∧ (k = 0 ∨ k = 48)) → ν q k = μ q k := fun q k g1 g2 g3 g4 g5 => by rw [x1 q k g3 g4, am_up_no (by omega), am_up_no (by omega), f4 q k g1 g2]
  refine ⟨.inl (i : Int), ρ, μ4, ν, e3, ?_, b, w, u, S, A, rl_new h0 (frr_rf ρ) (fun q k hq => fa q k (by omega) (by omega) (by omega) (by omega) (by omega)) (by rw [fa _ _ (by omega) (by omega) (by omega) (by omega) (by omega)]; exact h49) (by rw [fa _ _ (by omega) (by omega) (by omega) (by omega) (by omega)]; exact h51) (by rw [fa _ _ (by omega) (by omega) (by omega) (by omega) (by omega)]; exact h53) x2' (xw_fr hxw (fun q k a c => by rw [x1 q k (by omega) (by omega), up_p (by omega), up_p (by omega), e2, if_neg (by omega)])) (WI_mono g.1 (by omega)) g.2.1, ?_, img_fr r3 (fa _ _ (by omega) (by omega) (by omega) (by omega) (by omega)) (fa _ _ (by omega) (by omega) (by omega) (by omega) (by omega)) (fun q k _ _ => fa _ _ (by omega) (by omega) (by omega) (by omega) (by omega)) (WR_s (by omega) (fun q k hq => fa _ _ (by omega) (by omega) (by omega) (by omega) (by omega))), ?_⟩
  · have y48 : μ4 99 48 = ((i + 1 : Nat) : Int) := by rw [f4 _ _ (by omega) (by omega)]; exact hN
    have hin : ¬ (((i + 1 : Nat) : Int)) = 0 := by omega
    show am_E (d + 20) 253 0 [some (.inr (.inr 99))] [] (SH, ρ, μ4, cs) = _
    simp (disch := (first | omega | (simp (disch := omega) only [sr_up, wr_up_o]; omega))) only [e253_0, e253_35, ks_99, ite_self, Bool.false_eq_true, eq_self, isk_t, i20_t, w20_t, l23_t, b21_t, b22_t, w_t, bif_t, bif_f, bif_d, if_pos, if_neg, if_true, if_false, not_true_eq_false, not_false_eq_true, Option.bind_some, Option.toList_some, Option.toList_none, List.cons_append, List.nil_append, Int.toNat_natCast, Int.reduceToNat, up_eq, up_p, up_k, sN,  y48, hin, e1, x3, z48 ]
  · refine ⟨?_, by omega, by omega, fun j hj => ?_⟩
    · rw [z48, x1 77 0 (by omega) (by omega), up_p (by omega), up_p (by omega), e2, if_pos ⟨rfl, rfl⟩]
    · rw [z48] at hj
      have gj := r2.2.2.2 j (by omega)
      have ws : WR ν (3 + (j : Int)) = WR μ (3 + (j : Int)) := WR_s (by omega) (fun q k hq => fa q k (by omega) (by omega) (by omega) (by omega) (by omega))
      have wn : nxt ν A j = nxt μ W j := by
        unfold nxt
        rw [z48, hN, if_pos (c := (j : Int) + 1 < ((i + 1 : Nat) : Int)) (by omega)]
        by_cases c : (j : Int) + 1 < (i : Int)
        · rw [if_pos c]
          exact WR_s (by omega) (fun q k hq => fa q k (by omega) (by omega) (by omega) (by omega) (by omega))
        · rw [if_neg c]
          have e4 : (4 : Int) + (j : Int) = 3 + (i : Int) := by omega
          rw [e4, hA]
      rw [ws, wn]
      exact ⟨gj.1, gj.2.1, dd_fr gj.2.2 (fun q q0 q1 => fa q j (by omega) (by omega) (by omega) (by omega) (by omega))⟩
  · obtain ⟨e1, e2, e3, e4⟩ := ra_rest r4 r5 r6 r7 rfl (fun q k hq => fa q k (by omega) (by omega) (by omega) (by omega) (by omega))
    exact ⟨e1, e2, e3, e4, g.1⟩
end CE2
