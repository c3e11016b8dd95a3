/-! THE CLASS: a day goes by -/
section XD
variable {ρ : Nat → Nat → Nat} {cs : Nat × Nat × Nat} {d b w : Nat} {S : MS} {C : MC} {D : Int}
theorem X_within {sh : List (Nat × Nat)} {μ : Nat → Nat → Int} {v m : Int} (h0 : -1000000000000 ≤ v) (h1 : v ≤ 1000000000000) (m0 : 0 ≤ m) (m1 : m ≤ 10000) : am_E d 12 0 [some (.inr (.inl v)), none, some (.inl m)] [] (sh, ρ, μ, cs) = some (some (.inl (max 0 (min m v))), (sh, ρ, μ, cs)) := by
  by_cases q1 : 0 ≤ v
  · by_cases q2 : v ≤ m
    · simp (disch := omega) only [e12_0, lc_ge, lc_le, bif_d, if_pos, w_t]
      rw [show max 0 (min m v) = v by omega]
    · simp (disch := omega) only [e12_0, lc_ge, lc_le, bif_d, if_pos, if_neg]
      rw [show max 0 (min m v) = m by omega]
  · simp (disch := omega) only [e12_0, lc_ge, lc_le, bif_d, if_neg]
    rw [show max 0 (min m v) = 0 by omega]
theorem X_setFacts (hx : XM ρ) (hb : b = 2 ∨ b = 21) (hw : w = 46 ∨ w = 55 ∨ w = 64) (hst : ρ 73 0 = b) (hwd : ρ 73 1 = w) {W : MW} {μ : Nat → Nat → Int} (hS : SI S) (hC : CI S C) (hD : D ≤ 20000) (hWI : WI S D W) (hX : XS μ b S) (hW : XW μ w W) (hK : XC μ S C) {p t ap : Int} (p0 : 0 ≤ p) (p1 : p < S 0 0) (t0 : 0 ≤ t) (t1 : t < 6) (hh : W 5 p t ≠ -1) : am_E (d + 1) 13 0 [some (.inr (.inr 73)), some (.inl p), some (.inl t), some (.inl ap), none] [] (SH, ρ, μ, cs) = some (none, (SH, ρ, nax μ (factF S C W p t ap), cs)) := by
  have b0 := hS.1
  have b1 := hWI.2.2.2.2.2 p t p0 (by omega) t0 t1
  have b2 := hWI.1
  have p7 : p < 7 := by omega
  have hbl : bset (fun p => decide (W 5 p t ≠ -1)) 7 < 128 := bset_lt _ 7
  have hmany := many_7 hS hWI t0 t1
  have htold := told_7 hS hWI hW t0 t1
  have hb3 := hW.2.1 t t0 t1
  have e5 := xw_hats hW p0 p7 t0 t1 hh
  have e6 := xw_since hW p0 p7 t0 t1 hh
  have e0 := xw_day hW
  have ec := hK.2.2.1 p p0 p1
  have hW4 : XW (am_up (am_up (am_up (am_up μ 74 0 (W 5 p t)) 74 1 (C.1 p)) 74 2 (W 0 0 0 - W 6 p t)) 74 3 ap) w W := xw_fr hW (fun q k h0 h1 => by simp (disch := omega) only [up_p])
  have hho := fun d => X_holders (ρ := ρ) (cs := cs) (d := d) hx hw hW4 t0 t1
  simp (disch := omega) only [e13_0, e13_5, e13_83, e13_86, e13_88, e13_105, hst, hwd, xk_0, xk_1, xk_40, xk_41, xk_42, xk_43, xk_44, xk_45, xk_46, xk_47, xk_48, xk_49, xk_50, xk_51, xk_52, xk_53, xk_54, xk_55, xk_56, xk_57, xk_58, xk_59, xk_60, xk_61, xk_62, xk_63, xk_64, xk_65, xk_66, xk_67, xk_68, xk_69, xk_70, xk_71, xk_72, xk_73, xk_74, xk_75, xk_76, xk_77, xk_78, xk_79, xk_80, xk_81, xk_82, xk_83, xk_84, xk_85, xk_86, xk_87, xk_88, xk_89, xk_90, xk_91, xk_92, xk_93, xk_94, xk_95, xk_96, xk_97, xk_98, xk_st0 hb, xk_st1 hb, xk_st10 hb, xk_st11 hb, xk_st12 hb, xk_st13 hb, xk_st14 hb, xk_st15 hb, xk_st16 hb, xk_st17 hb, xk_st18 hb, xk_st2 hb, xk_st3 hb, xk_st4 hb, xk_st5 hb, xk_st6 hb, xk_st7 hb, xk_st8 hb, xk_st9 hb, xk_wd0 hw, xk_wd1 hw, xk_wd2 hw, xk_wd3 hw, xk_wd4 hw, xk_wd5 hw, xk_wd6 hw, xk_wd7 hw, xk_wd8 hw, xm_0_0 hx, xm_0_10 hx, xm_0_11 hx, xm_0_12 hx, xm_0_13 hx, xm_0_14 hx, xm_0_15 hx, xm_0_2 hx, xm_0_5 hx, xm_0_6 hx, xm_0_7 hx, xm_0_9 hx, xm_40_0 hx, xm_40_1 hx, xm_41_0 hx, xm_44_0 hx, xm_44_1 hx, xm_73_4 hx, xm_73_5 hx, xm_73_6 hx, xm_77_1 hx, xm_77_2 hx, xm_77_3 hx, xm_77_4 hx, xm_77_5 hx, xm_77_6 hx, xm_77_7 hx, xm_77_8 hx, xm_77_9 hx, xm_87_2 hx, xm_87_3 hx, xm_87_4 hx, xm_87_5 hx, xm_87_6 hx, xm_87_7 hx, xm_87_8 hx, xm_lw2 hx hb, xm_lw3 hx hb, xm_lw4 hx hb, xm_lw5 hx hb, xm_st1 hx hb, xm_st10 hx hb, xm_st11 hx hb, xm_st13 hx hb, xm_st14 hx hb, xm_st15 hx hb, xm_st16 hx hb, xm_st17 hx hb, xm_st2 hx hb, xm_st4 hx hb, xm_st5 hx hb, xm_st6 hx hb, xm_st7 hx hb, xm_st9 hx hb, xm_wd10 hx hw, xm_wd11 hx hw, xm_wd4 hx hw, xm_wd5 hx hw, xm_wd6 hx hw, xm_wd7 hx hw, xm_wd8 hx hw, xm_wd9 hx hw, Bool.false_eq_true, eq_self, isk_t, i20_t, w20_t, l23_t, b21_t, b22_t, w_t, bif_t, bif_f, bif_d, if_pos, if_neg, if_true, if_false, not_true_eq_false, not_false_eq_true, Option.bind_some, Option.toList_some, Option.toList_none, List.cons_append, List.nil_append, Int.toNat_natCast, Int.reduceToNat, up_eq, up_p, up_k, sN,  X_cell, i20_c, e5, e6, e0, ec, hho, X_bits, hmany, htold ]
  all_goals rfl
theorem X_fits (hx : XM ρ) (hb : b = 2 ∨ b = 21) (hw : w = 46 ∨ w = 55 ∨ w = 64) (hst : ρ 73 0 = b) (hwd : ρ 73 1 = w) {W : MW} {μ : Nat → Nat → Int} (hS : SI S) (hC : CI S C) (hD : D ≤ 20000) (hWI : WI S D W) (hX : XS μ b S) (hW : XW μ w W) (hK : XC μ S C) {p t hats : Int} {ch : Nat} (p0 : 0 ≤ p) (p1 : p < S 0 0) (t0 : 0 ≤ t) (t1 : t < 6) (hh : W 5 p t ≠ -1) (hh0 : -2 ≤ hats) (hh1 : hats ≤ 99) (hc : ch < 128) : ∃ μ', FrZ μ μ' ∧ am_E (d + 3) 11 0 [some (.inr (.inr 73)), some (.inl p), some (.inl t), some (.inl hats), some (.inl (ch : Int)), none, none, none] [] (SH, ρ, μ, cs) = some (some (.inl (if fitB S C W p t hats ch = true then 1 else 0)), (SH, ρ, μ', cs)) := by
  have b0 := hS.1
  have p7 : p < 7 := by omega
  have hcl := chain_lt hWI p0 p7 t0 t1
  have hch := fun d => X_chain (ρ := ρ) (cs := cs) (d := d) hx hw hW p0 p7 t0 t1 (wi_from hWI t0 t1)
  have b3 := hWI.2.2.2.2.2 p t p0 (by omega) t0 t1
  have hand := nb_and (a := chain W p t) (b := ch) (by omega) (by omega)
  have hfa := hK.2.1
  by_cases q1 : chain W p t &&& ch = 0
  · rw [q1] at hand
    by_cases q2 : C.2.1 = true
    · rw [if_pos q2] at hfa
      have hB : fitB S C W p t hats ch = match lawV S (factF S C W p t (Int.natAbs (W 5 p t - hats))) 1 with
          | none => decide (S 0 5 ≤ (Int.natAbs (W 5 p t - hats) : Int) ∧ (Int.natAbs (W 5 p t - hats) : Int) ≤ S 0 6)
          | some v => decide (v ≠ 0) := by
        unfold fitB
        rw [if_neg (fun g => g q1), if_neg (by rw [q2]; decide)]
        all_goals rfl
      rw [hB]
      clear hB
      have hap := fun d => X_apart (ρ := ρ) (cs := cs) (d := d) hx hw hW p0 p7 t0 t1 hh b3.1.1 b3.1.2 hh0 hh1
      have hA : (((W 5 p t - hats).natAbs : Nat) : Int) ≤ 200 := by omega
      have hsf := fun d => X_setFacts (ρ := ρ) (cs := cs) (d := d) (ap := ((W 5 p t - hats).natAbs : Int)) hx hb hw hst hwd hS hC hD hWI hX hW hK p0 p1 t0 t1 hh
      have hfb := fact_bd hS hC hD hWI p0 p1 t0 t1 (show 0 ≤ ((W 5 p t - hats).natAbs : Int) by omega) hA
      generalize hF : factF S C W p t ((W 5 p t - hats).natAbs : Int) = F at hsf hfb
      generalize hAe : ((W 5 p t - hats).natAbs : Int) = A at hap hA hsf
      have hz := frz_nax μ F
      obtain ⟨μ', g1, g2⟩ := X_worth (ρ := ρ) (cs := cs) (d := d) (r := 1) hx hb hst hS (by omega) (by omega) hfb (xs_z hX hb hz) (fun i h0 h1 => nax_at μ F h0 h1)
      have hz2 := frz_tr hz (frz_5 g1)
      refine ⟨μ', hz2, ?_⟩
      have n0 := (xs_z hX hb hz2).2.1.1
      have n1 := (xs_z hX hb hz2).2.1.2.1
      cases hl : lawV S F 1 with
      | none =>
        rw [hl] at g2
        have hj : jv none = -9223372036854775808 := rfl
        rw [hj] at g2
        by_cases q4 : A < S 0 5
        · rw [if_neg (by simp; omega)]
          simp (disch := omega) only [e11_0, e11_9, e11_36, e11_46, e11_51, hst, hwd, xk_0, xk_1, xk_40, xk_41, xk_42, xk_43, xk_44, xk_45, xk_46, xk_47, xk_48, xk_49, xk_50, xk_51, xk_52, xk_53, xk_54, xk_55, xk_56, xk_57, xk_58, xk_59, xk_60, xk_61, xk_62, xk_63, xk_64, xk_65, xk_66, xk_67, xk_68, xk_69, xk_70, xk_71, xk_72, xk_73, xk_74, xk_75, xk_76, xk_77, xk_78, xk_79, xk_80, xk_81, xk_82, xk_83, xk_84, xk_85, xk_86, xk_87, xk_88, xk_89, xk_90, xk_91, xk_92, xk_93, xk_94, xk_95, xk_96, xk_97, xk_98, xk_st0 hb, xk_st1 hb, xk_st10 hb, xk_st11 hb, xk_st12 hb, xk_st13 hb, xk_st14 hb, xk_st15 hb, xk_st16 hb, xk_st17 hb, xk_st18 hb, xk_st2 hb, xk_st3 hb, xk_st4 hb, xk_st5 hb, xk_st6 hb, xk_st7 hb, xk_st8 hb, xk_st9 hb, xk_wd0 hw, xk_wd1 hw, xk_wd2 hw, xk_wd3 hw, xk_wd4 hw, xk_wd5 hw, xk_wd6 hw, xk_wd7 hw, xk_wd8 hw, xm_0_0 hx, xm_0_10 hx, xm_0_11 hx, xm_0_12 hx, xm_0_13 hx, xm_0_14 hx, xm_0_15 hx, xm_0_2 hx, xm_0_5 hx, xm_0_6 hx, xm_0_7 hx, xm_0_9 hx, xm_40_0 hx, xm_40_1 hx, xm_41_0 hx, xm_44_0 hx, xm_44_1 hx, xm_73_4 hx, xm_73_5 hx, xm_73_6 hx, xm_77_1 hx, xm_77_2 hx, xm_77_3 hx, xm_77_4 hx, xm_77_5 hx, xm_77_6 hx, xm_77_7 hx, xm_77_8 hx, xm_77_9 hx, xm_87_2 hx, xm_87_3 hx, xm_87_4 hx, xm_87_5 hx, xm_87_6 hx, xm_87_7 hx, xm_87_8 hx, xm_lw2 hx hb, xm_lw3 hx hb, xm_lw4 hx hb, xm_lw5 hx hb, xm_st1 hx hb, xm_st10 hx hb, xm_st11 hx hb, xm_st13 hx hb, xm_st14 hx hb, xm_st15 hx hb, xm_st16 hx hb, xm_st17 hx hb, xm_st2 hx hb, xm_st4 hx hb, xm_st5 hx hb, xm_st6 hx hb, xm_st7 hx hb, xm_st9 hx hb, xm_wd10 hx hw, xm_wd11 hx hw, xm_wd4 hx hw, xm_wd5 hx hw, xm_wd6 hx hw, xm_wd7 hx hw, xm_wd8 hx hw, xm_wd9 hx hw, Bool.false_eq_true, eq_self, isk_t, i20_t, w20_t, l23_t, b21_t, b22_t, w_t, bif_t, bif_f, bif_d, if_pos, if_neg, if_true, if_false, not_true_eq_false, not_false_eq_true, Option.bind_some, Option.toList_some, Option.toList_none, List.cons_append, List.nil_append, Int.toNat_natCast, Int.reduceToNat, up_eq, up_p, up_k, sN,  hch, hand, hfa, hap, hsf, g2, lc_eq, n0, n1 ]
        · by_cases q5 : S 0 6 < A
          · rw [if_neg (by simp; omega)]
            simp (disch := omega) only [e11_0, e11_9, e11_36, e11_46, e11_51, hst, hwd, xk_0, xk_1, xk_40, xk_41, xk_42, xk_43, xk_44, xk_45, xk_46, xk_47, xk_48, xk_49, xk_50, xk_51, xk_52, xk_53, xk_54, xk_55, xk_56, xk_57, xk_58, xk_59, xk_60, xk_61, xk_62, xk_63, xk_64, xk_65, xk_66, xk_67, xk_68, xk_69, xk_70, xk_71, xk_72, xk_73, xk_74, xk_75, xk_76, xk_77, xk_78, xk_79, xk_80, xk_81, xk_82, xk_83, xk_84, xk_85, xk_86, xk_87, xk_88, xk_89, xk_90, xk_91, xk_92, xk_93, xk_94, xk_95, xk_96, xk_97, xk_98, xk_st0 hb, xk_st1 hb, xk_st10 hb, xk_st11 hb, xk_st12 hb, xk_st13 hb, xk_st14 hb, xk_st15 hb, xk_st16 hb, xk_st17 hb, xk_st18 hb, xk_st2 hb, xk_st3 hb, xk_st4 hb, xk_st5 hb, xk_st6 hb, xk_st7 hb, xk_st8 hb, xk_st9 hb, xk_wd0 hw, xk_wd1 hw, xk_wd2 hw, xk_wd3 hw, xk_wd4 hw, xk_wd5 hw, xk_wd6 hw, xk_wd7 hw, xk_wd8 hw, xm_0_0 hx, xm_0_10 hx, xm_0_11 hx, xm_0_12 hx, xm_0_13 hx, xm_0_14 hx, xm_0_15 hx, xm_0_2 hx, xm_0_5 hx, xm_0_6 hx, xm_0_7 hx, xm_0_9 hx, xm_40_0 hx, xm_40_1 hx, xm_41_0 hx, xm_44_0 hx, xm_44_1 hx, xm_73_4 hx, xm_73_5 hx, xm_73_6 hx, xm_77_1 hx, xm_77_2 hx, xm_77_3 hx, xm_77_4 hx, xm_77_5 hx, xm_77_6 hx, xm_77_7 hx, xm_77_8 hx, xm_77_9 hx, xm_87_2 hx, xm_87_3 hx, xm_87_4 hx, xm_87_5 hx, xm_87_6 hx, xm_87_7 hx, xm_87_8 hx, xm_lw2 hx hb, xm_lw3 hx hb, xm_lw4 hx hb, xm_lw5 hx hb, xm_st1 hx hb, xm_st10 hx hb, xm_st11 hx hb, xm_st13 hx hb, xm_st14 hx hb, xm_st15 hx hb, xm_st16 hx hb, xm_st17 hx hb, xm_st2 hx hb, xm_st4 hx hb, xm_st5 hx hb, xm_st6 hx hb, xm_st7 hx hb, xm_st9 hx hb, xm_wd10 hx hw, xm_wd11 hx hw, xm_wd4 hx hw, xm_wd5 hx hw, xm_wd6 hx hw, xm_wd7 hx hw, xm_wd8 hx hw, xm_wd9 hx hw, Bool.false_eq_true, eq_self, isk_t, i20_t, w20_t, l23_t, b21_t, b22_t, w_t, bif_t, bif_f, bif_d, if_pos, if_neg, if_true, if_false, not_true_eq_false, not_false_eq_true, Option.bind_some, Option.toList_some, Option.toList_none, List.cons_append, List.nil_append, Int.toNat_natCast, Int.reduceToNat, up_eq, up_p, up_k, sN,  hch, hand, hfa, hap, hsf, g2, lc_eq, n0, n1 ]
          · rw [if_pos (by simp; omega)]
            simp (disch := omega) only [e11_0, e11_9, e11_36, e11_46, e11_51, hst, hwd, xk_0, xk_1, xk_40, xk_41, xk_42, xk_43, xk_44, xk_45, xk_46, xk_47, xk_48, xk_49, xk_50, xk_51, xk_52, xk_53, xk_54, xk_55, xk_56, xk_57, xk_58, xk_59, xk_60, xk_61, xk_62, xk_63, xk_64, xk_65, xk_66, xk_67, xk_68, xk_69, xk_70, xk_71, xk_72, xk_73, xk_74, xk_75, xk_76, xk_77, xk_78, xk_79, xk_80, xk_81, xk_82, xk_83, xk_84, xk_85, xk_86, xk_87, xk_88, xk_89, xk_90, xk_91, xk_92, xk_93, xk_94, xk_95, xk_96, xk_97, xk_98, xk_st0 hb, xk_st1 hb, xk_st10 hb, xk_st11 hb, xk_st12 hb, xk_st13 hb, xk_st14 hb, xk_st15 hb, xk_st16 hb, xk_st17 hb, xk_st18 hb, xk_st2 hb, xk_st3 hb, xk_st4 hb, xk_st5 hb, xk_st6 hb, xk_st7 hb, xk_st8 hb, xk_st9 hb, xk_wd0 hw, xk_wd1 hw, xk_wd2 hw, xk_wd3 hw, xk_wd4 hw, xk_wd5 hw, xk_wd6 hw, xk_wd7 hw, xk_wd8 hw, xm_0_0 hx, xm_0_10 hx, xm_0_11 hx, xm_0_12 hx, xm_0_13 hx, xm_0_14 hx, xm_0_15 hx, xm_0_2 hx, xm_0_5 hx, xm_0_6 hx, xm_0_7 hx, xm_0_9 hx, xm_40_0 hx, xm_40_1 hx, xm_41_0 hx, xm_44_0 hx, xm_44_1 hx, xm_73_4 hx, xm_73_5 hx, xm_73_6 hx, xm_77_1 hx, xm_77_2 hx, xm_77_3 hx, xm_77_4 hx, xm_77_5 hx, xm_77_6 hx, xm_77_7 hx, xm_77_8 hx, xm_77_9 hx, xm_87_2 hx, xm_87_3 hx, xm_87_4 hx, xm_87_5 hx, xm_87_6 hx, xm_87_7 hx, xm_87_8 hx, xm_lw2 hx hb, xm_lw3 hx hb, xm_lw4 hx hb, xm_lw5 hx hb, xm_st1 hx hb, xm_st10 hx hb, xm_st11 hx hb, xm_st13 hx hb, xm_st14 hx hb, xm_st15 hx hb, xm_st16 hx hb, xm_st17 hx hb, xm_st2 hx hb, xm_st4 hx hb, xm_st5 hx hb, xm_st6 hx hb, xm_st7 hx hb, xm_st9 hx hb, xm_wd10 hx hw, xm_wd11 hx hw, xm_wd4 hx hw, xm_wd5 hx hw, xm_wd6 hx hw, xm_wd7 hx hw, xm_wd8 hx hw, xm_wd9 hx hw, Bool.false_eq_true, eq_self, isk_t, i20_t, w20_t, l23_t, b21_t, b22_t, w_t, bif_t, bif_f, bif_d, if_pos, if_neg, if_true, if_false, not_true_eq_false, not_false_eq_true, Option.bind_some, Option.toList_some, Option.toList_none, List.cons_append, List.nil_append, Int.toNat_natCast, Int.reduceToNat, up_eq, up_p, up_k, sN,  hch, hand, hfa, hap, hsf, g2, lc_eq, n0, n1 ]
      | some v =>
        rw [hl] at g2
        have hj : jv (some v) = v := rfl
        rw [hj] at g2
        have hvb := lawV_bd hS (by omega) (by omega) hfb hl
        by_cases q4 : v = 0
        · rw [if_neg (by simp [q4])]
          simp (disch := omega) only [e11_0, e11_9, e11_36, e11_46, e11_51, hst, hwd, xk_0, xk_1, xk_40, xk_41, xk_42, xk_43, xk_44, xk_45, xk_46, xk_47, xk_48, xk_49, xk_50, xk_51, xk_52, xk_53, xk_54, xk_55, xk_56, xk_57, xk_58, xk_59, xk_60, xk_61, xk_62, xk_63, xk_64, xk_65, xk_66, xk_67, xk_68, xk_69, xk_70, xk_71, xk_72, xk_73, xk_74, xk_75, xk_76, xk_77, xk_78, xk_79, xk_80, xk_81, xk_82, xk_83, xk_84, xk_85, xk_86, xk_87, xk_88, xk_89, xk_90, xk_91, xk_92, xk_93, xk_94, xk_95, xk_96, xk_97, xk_98, xk_st0 hb, xk_st1 hb, xk_st10 hb, xk_st11 hb, xk_st12 hb, xk_st13 hb, xk_st14 hb, xk_st15 hb, xk_st16 hb, xk_st17 hb, xk_st18 hb, xk_st2 hb, xk_st3 hb, xk_st4 hb, xk_st5 hb, xk_st6 hb, xk_st7 hb, xk_st8 hb, xk_st9 hb, xk_wd0 hw, xk_wd1 hw, xk_wd2 hw, xk_wd3 hw, xk_wd4 hw, xk_wd5 hw, xk_wd6 hw, xk_wd7 hw, xk_wd8 hw, xm_0_0 hx, xm_0_10 hx, xm_0_11 hx, xm_0_12 hx, xm_0_13 hx, xm_0_14 hx, xm_0_15 hx, xm_0_2 hx, xm_0_5 hx, xm_0_6 hx, xm_0_7 hx, xm_0_9 hx, xm_40_0 hx, xm_40_1 hx, xm_41_0 hx, xm_44_0 hx, xm_44_1 hx, xm_73_4 hx, xm_73_5 hx, xm_73_6 hx, xm_77_1 hx, xm_77_2 hx, xm_77_3 hx, xm_77_4 hx, xm_77_5 hx, xm_77_6 hx, xm_77_7 hx, xm_77_8 hx, xm_77_9 hx, xm_87_2 hx, xm_87_3 hx, xm_87_4 hx, xm_87_5 hx, xm_87_6 hx, xm_87_7 hx, xm_87_8 hx, xm_lw2 hx hb, xm_lw3 hx hb, xm_lw4 hx hb, xm_lw5 hx hb, xm_st1 hx hb, xm_st10 hx hb, xm_st11 hx hb, xm_st13 hx hb, xm_st14 hx hb, xm_st15 hx hb, xm_st16 hx hb, xm_st17 hx hb, xm_st2 hx hb, xm_st4 hx hb, xm_st5 hx hb, xm_st6 hx hb, xm_st7 hx hb, xm_st9 hx hb, xm_wd10 hx hw, xm_wd11 hx hw, xm_wd4 hx hw, xm_wd5 hx hw, xm_wd6 hx hw, xm_wd7 hx hw, xm_wd8 hx hw, xm_wd9 hx hw, Bool.false_eq_true, eq_self, isk_t, i20_t, w20_t, l23_t, b21_t, b22_t, w_t, bif_t, bif_f, bif_d, if_pos, if_neg, if_true, if_false, not_true_eq_false, not_false_eq_true, Option.bind_some, Option.toList_some, Option.toList_none, List.cons_append, List.nil_append, Int.toNat_natCast, Int.reduceToNat, up_eq, up_p, up_k, sN,  hch, hand, hfa, hap, hsf, g2, lc_eq ]
        · rw [if_pos (by simp [q4])]
          simp (disch := omega) only [e11_0, e11_9, e11_36, e11_46, e11_51, hst, hwd, xk_0, xk_1, xk_40, xk_41, xk_42, xk_43, xk_44, xk_45, xk_46, xk_47, xk_48, xk_49, xk_50, xk_51, xk_52, xk_53, xk_54, xk_55, xk_56, xk_57, xk_58, xk_59, xk_60, xk_61, xk_62, xk_63, xk_64, xk_65, xk_66, xk_67, xk_68, xk_69, xk_70, xk_71, xk_72, xk_73, xk_74, xk_75, xk_76, xk_77, xk_78, xk_79, xk_80, xk_81, xk_82, xk_83, xk_84, xk_85, xk_86, xk_87, xk_88, xk_89, xk_90, xk_91, xk_92, xk_93, xk_94, xk_95, xk_96, xk_97, xk_98, xk_st0 hb, xk_st1 hb, xk_st10 hb, xk_st11 hb, xk_st12 hb, xk_st13 hb, xk_st14 hb, xk_st15 hb, xk_st16 hb, xk_st17 hb, xk_st18 hb, xk_st2 hb, xk_st3 hb, xk_st4 hb, xk_st5 hb, xk_st6 hb, xk_st7 hb, xk_st8 hb, xk_st9 hb, xk_wd0 hw, xk_wd1 hw, xk_wd2 hw, xk_wd3 hw, xk_wd4 hw, xk_wd5 hw, xk_wd6 hw, xk_wd7 hw, xk_wd8 hw, xm_0_0 hx, xm_0_10 hx, xm_0_11 hx, xm_0_12 hx, xm_0_13 hx, xm_0_14 hx, xm_0_15 hx, xm_0_2 hx, xm_0_5 hx, xm_0_6 hx, xm_0_7 hx, xm_0_9 hx, xm_40_0 hx, xm_40_1 hx, xm_41_0 hx, xm_44_0 hx, xm_44_1 hx, xm_73_4 hx, xm_73_5 hx, xm_73_6 hx, xm_77_1 hx, xm_77_2 hx, xm_77_3 hx, xm_77_4 hx, xm_77_5 hx, xm_77_6 hx, xm_77_7 hx, xm_77_8 hx, xm_77_9 hx, xm_87_2 hx, xm_87_3 hx, xm_87_4 hx, xm_87_5 hx, xm_87_6 hx, xm_87_7 hx, xm_87_8 hx, xm_lw2 hx hb, xm_lw3 hx hb, xm_lw4 hx hb, xm_lw5 hx hb, xm_st1 hx hb, xm_st10 hx hb, xm_st11 hx hb, xm_st13 hx hb, xm_st14 hx hb, xm_st15 hx hb, xm_st16 hx hb, xm_st17 hx hb, xm_st2 hx hb, xm_st4 hx hb, xm_st5 hx hb, xm_st6 hx hb, xm_st7 hx hb, xm_st9 hx hb, xm_wd10 hx hw, xm_wd11 hx hw, xm_wd4 hx hw, xm_wd5 hx hw, xm_wd6 hx hw, xm_wd7 hx hw, xm_wd8 hx hw, xm_wd9 hx hw, Bool.false_eq_true, eq_self, isk_t, i20_t, w20_t, l23_t, b21_t, b22_t, w_t, bif_t, bif_f, bif_d, if_pos, if_neg, if_true, if_false, not_true_eq_false, not_false_eq_true, Option.bind_some, Option.toList_some, Option.toList_none, List.cons_append, List.nil_append, Int.toNat_natCast, Int.reduceToNat, up_eq, up_p, up_k, sN,  hch, hand, hfa, hap, hsf, g2, lc_eq ]
    · rw [if_neg q2] at hfa
      refine ⟨μ, frz_rf μ, ?_⟩
      have hB : fitB S C W p t hats ch = true := by
        unfold fitB
        rw [if_neg (fun g => g q1), if_pos (by simpa using q2)]
      rw [hB, if_pos rfl]
      simp (disch := omega) only [e11_0, e11_9, hst, hwd, xk_0, xk_1, xk_40, xk_41, xk_42, xk_43, xk_44, xk_45, xk_46, xk_47, xk_48, xk_49, xk_50, xk_51, xk_52, xk_53, xk_54, xk_55, xk_56, xk_57, xk_58, xk_59, xk_60, xk_61, xk_62, xk_63, xk_64, xk_65, xk_66, xk_67, xk_68, xk_69, xk_70, xk_71, xk_72, xk_73, xk_74, xk_75, xk_76, xk_77, xk_78, xk_79, xk_80, xk_81, xk_82, xk_83, xk_84, xk_85, xk_86, xk_87, xk_88, xk_89, xk_90, xk_91, xk_92, xk_93, xk_94, xk_95, xk_96, xk_97, xk_98, xk_st0 hb, xk_st1 hb, xk_st10 hb, xk_st11 hb, xk_st12 hb, xk_st13 hb, xk_st14 hb, xk_st15 hb, xk_st16 hb, xk_st17 hb, xk_st18 hb, xk_st2 hb, xk_st3 hb, xk_st4 hb, xk_st5 hb, xk_st6 hb, xk_st7 hb, xk_st8 hb, xk_st9 hb, xk_wd0 hw, xk_wd1 hw, xk_wd2 hw, xk_wd3 hw, xk_wd4 hw, xk_wd5 hw, xk_wd6 hw, xk_wd7 hw, xk_wd8 hw, xm_0_0 hx, xm_0_10 hx, xm_0_11 hx, xm_0_12 hx, xm_0_13 hx, xm_0_14 hx, xm_0_15 hx, xm_0_2 hx, xm_0_5 hx, xm_0_6 hx, xm_0_7 hx, xm_0_9 hx, xm_40_0 hx, xm_40_1 hx, xm_41_0 hx, xm_44_0 hx, xm_44_1 hx, xm_73_4 hx, xm_73_5 hx, xm_73_6 hx, xm_77_1 hx, xm_77_2 hx, xm_77_3 hx, xm_77_4 hx, xm_77_5 hx, xm_77_6 hx, xm_77_7 hx, xm_77_8 hx, xm_77_9 hx, xm_87_2 hx, xm_87_3 hx, xm_87_4 hx, xm_87_5 hx, xm_87_6 hx, xm_87_7 hx, xm_87_8 hx, xm_lw2 hx hb, xm_lw3 hx hb, xm_lw4 hx hb, xm_lw5 hx hb, xm_st1 hx hb, xm_st10 hx hb, xm_st11 hx hb, xm_st13 hx hb, xm_st14 hx hb, xm_st15 hx hb, xm_st16 hx hb, xm_st17 hx hb, xm_st2 hx hb, xm_st4 hx hb, xm_st5 hx hb, xm_st6 hx hb, xm_st7 hx hb, xm_st9 hx hb, xm_wd10 hx hw, xm_wd11 hx hw, xm_wd4 hx hw, xm_wd5 hx hw, xm_wd6 hx hw, xm_wd7 hx hw, xm_wd8 hx hw, xm_wd9 hx hw, Bool.false_eq_true, eq_self, isk_t, i20_t, w20_t, l23_t, b21_t, b22_t, w_t, bif_t, bif_f, bif_d, if_pos, if_neg, if_true, if_false, not_true_eq_false, not_false_eq_true, Option.bind_some, Option.toList_some, Option.toList_none, List.cons_append, List.nil_append, Int.toNat_natCast, Int.reduceToNat, up_eq, up_p, up_k, sN,  hch, hand, hfa ]
      all_goals rfl
  · refine ⟨μ, frz_rf μ, ?_⟩
    have hB : fitB S C W p t hats ch = false := by
      unfold fitB
      rw [if_pos q1]
    rw [hB, if_neg (by decide)]
    simp (disch := omega) only [e11_0, e11_9, hst, hwd, xk_0, xk_1, xk_40, xk_41, xk_42, xk_43, xk_44, xk_45, xk_46, xk_47, xk_48, xk_49, xk_50, xk_51, xk_52, xk_53, xk_54, xk_55, xk_56, xk_57, xk_58, xk_59, xk_60, xk_61, xk_62, xk_63, xk_64, xk_65, xk_66, xk_67, xk_68, xk_69, xk_70, xk_71, xk_72, xk_73, xk_74, xk_75, xk_76, xk_77, xk_78, xk_79, xk_80, xk_81, xk_82, xk_83, xk_84, xk_85, xk_86, xk_87, xk_88, xk_89, xk_90, xk_91, xk_92, xk_93, xk_94, xk_95, xk_96, xk_97, xk_98, xk_st0 hb, xk_st1 hb, xk_st10 hb, xk_st11 hb, xk_st12 hb, xk_st13 hb, xk_st14 hb, xk_st15 hb, xk_st16 hb, xk_st17 hb, xk_st18 hb, xk_st2 hb, xk_st3 hb, xk_st4 hb, xk_st5 hb, xk_st6 hb, xk_st7 hb, xk_st8 hb, xk_st9 hb, xk_wd0 hw, xk_wd1 hw, xk_wd2 hw, xk_wd3 hw, xk_wd4 hw, xk_wd5 hw, xk_wd6 hw, xk_wd7 hw, xk_wd8 hw, xm_0_0 hx, xm_0_10 hx, xm_0_11 hx, xm_0_12 hx, xm_0_13 hx, xm_0_14 hx, xm_0_15 hx, xm_0_2 hx, xm_0_5 hx, xm_0_6 hx, xm_0_7 hx, xm_0_9 hx, xm_40_0 hx, xm_40_1 hx, xm_41_0 hx, xm_44_0 hx, xm_44_1 hx, xm_73_4 hx, xm_73_5 hx, xm_73_6 hx, xm_77_1 hx, xm_77_2 hx, xm_77_3 hx, xm_77_4 hx, xm_77_5 hx, xm_77_6 hx, xm_77_7 hx, xm_77_8 hx, xm_77_9 hx, xm_87_2 hx, xm_87_3 hx, xm_87_4 hx, xm_87_5 hx, xm_87_6 hx, xm_87_7 hx, xm_87_8 hx, xm_lw2 hx hb, xm_lw3 hx hb, xm_lw4 hx hb, xm_lw5 hx hb, xm_st1 hx hb, xm_st10 hx hb, xm_st11 hx hb, xm_st13 hx hb, xm_st14 hx hb, xm_st15 hx hb, xm_st16 hx hb, xm_st17 hx hb, xm_st2 hx hb, xm_st4 hx hb, xm_st5 hx hb, xm_st6 hx hb, xm_st7 hx hb, xm_st9 hx hb, xm_wd10 hx hw, xm_wd11 hx hw, xm_wd4 hx hw, xm_wd5 hx hw, xm_wd6 hx hw, xm_wd7 hx hw, xm_wd8 hx hw, xm_wd9 hx hw, Bool.false_eq_true, eq_self, isk_t, i20_t, w20_t, l23_t, b21_t, b22_t, w_t, bif_t, bif_f, bif_d, if_pos, if_neg, if_true, if_false, not_true_eq_false, not_false_eq_true, Option.bind_some, Option.toList_some, Option.toList_none, List.cons_append, List.nil_append, Int.toNat_natCast, Int.reduceToNat, up_eq, up_p, up_k, sN,  hch, hand ]
theorem X_firstFitting_loop (hx : XM ρ) (hb : b = 2 ∨ b = 21) (hw : w = 46 ∨ w = 55 ∨ w = 64) (hst : ρ 73 0 = b) (hwd : ρ 73 1 = w) {W : MW} (hS : SI S) (hC : CI S C) (hD : D ≤ 20000) (hWI : WI S D W) {p t : Int} (p0 : 0 ≤ p) (p1 : p < S 0 0) (t0 : 0 ≤ t) (t1 : t < 6) (hh : W 5 p t ≠ -1) : ∀ (j : Nat) (q : Int) (μ : Nat → Nat → Int), XS μ b S → XW μ w W → XC μ S C → 0 ≤ q → q + j = S 0 0 → ∃ μ', FrZ μ μ' ∧ am_E (d + 4) 10 2 [some (.inr (.inr 73)), some (.inl p), some (.inl t), some (.inl q), none] [] (SH, ρ, μ, cs) = some (some (.inl (ffit S C W p t j q)), (SH, ρ, μ', cs)) := by
  intro j
  have b0 := hS.1
  induction j with
  | zero =>
    intro q μ hX hW hK q0 hq
    have hN := hX.1.1
    refine ⟨μ, frz_rf μ, ?_⟩
    rw [e10_2]; simp (disch := omega) only [hst, hwd, xk_0, xk_1, xk_40, xk_41, xk_42, xk_43, xk_44, xk_45, xk_46, xk_47, xk_48, xk_49, xk_50, xk_51, xk_52, xk_53, xk_54, xk_55, xk_56, xk_57, xk_58, xk_59, xk_60, xk_61, xk_62, xk_63, xk_64, xk_65, xk_66, xk_67, xk_68, xk_69, xk_70, xk_71, xk_72, xk_73, xk_74, xk_75, xk_76, xk_77, xk_78, xk_79, xk_80, xk_81, xk_82, xk_83, xk_84, xk_85, xk_86, xk_87, xk_88, xk_89, xk_90, xk_91, xk_92, xk_93, xk_94, xk_95, xk_96, xk_97, xk_98, xk_st0 hb, xk_st1 hb, xk_st10 hb, xk_st11 hb, xk_st12 hb, xk_st13 hb, xk_st14 hb, xk_st15 hb, xk_st16 hb, xk_st17 hb, xk_st18 hb, xk_st2 hb, xk_st3 hb, xk_st4 hb, xk_st5 hb, xk_st6 hb, xk_st7 hb, xk_st8 hb, xk_st9 hb, xk_wd0 hw, xk_wd1 hw, xk_wd2 hw, xk_wd3 hw, xk_wd4 hw, xk_wd5 hw, xk_wd6 hw, xk_wd7 hw, xk_wd8 hw, xm_0_0 hx, xm_0_10 hx, xm_0_11 hx, xm_0_12 hx, xm_0_13 hx, xm_0_14 hx, xm_0_15 hx, xm_0_2 hx, xm_0_5 hx, xm_0_6 hx, xm_0_7 hx, xm_0_9 hx, xm_40_0 hx, xm_40_1 hx, xm_41_0 hx, xm_44_0 hx, xm_44_1 hx, xm_73_4 hx, xm_73_5 hx, xm_73_6 hx, xm_77_1 hx, xm_77_2 hx, xm_77_3 hx, xm_77_4 hx, xm_77_5 hx, xm_77_6 hx, xm_77_7 hx, xm_77_8 hx, xm_77_9 hx, xm_87_2 hx, xm_87_3 hx, xm_87_4 hx, xm_87_5 hx, xm_87_6 hx, xm_87_7 hx, xm_87_8 hx, xm_lw2 hx hb, xm_lw3 hx hb, xm_lw4 hx hb, xm_lw5 hx hb, xm_st1 hx hb, xm_st10 hx hb, xm_st11 hx hb, xm_st13 hx hb, xm_st14 hx hb, xm_st15 hx hb, xm_st16 hx hb, xm_st17 hx hb, xm_st2 hx hb, xm_st4 hx hb, xm_st5 hx hb, xm_st6 hx hb, xm_st7 hx hb, xm_st9 hx hb, xm_wd10 hx hw, xm_wd11 hx hw, xm_wd4 hx hw, xm_wd5 hx hw, xm_wd6 hx hw, xm_wd7 hx hw, xm_wd8 hx hw, xm_wd9 hx hw, Bool.false_eq_true, eq_self, isk_t, i20_t, w20_t, l23_t, b21_t, b22_t, w_t, bif_t, bif_f, bif_d, if_pos, if_neg, if_true, if_false, not_true_eq_false, not_false_eq_true, Option.bind_some, Option.toList_some, Option.toList_none, List.cons_append, List.nil_append, Int.toNat_natCast, Int.reduceToNat, up_eq, up_p, up_k, sN,  hN ]
    all_goals rfl
  | succ j ih =>
    intro q μ hX hW hK q0 hq
    have hN := hX.1.1
    have bw := hWI.2.2.2.2.2 q t q0 (by omega) t0 t1
    have hf : ffit S C W p t (j + 1) q = if W 8 q t ≠ -2 ∧ fitB S C W p t (W 8 q t) (W 9 q t).toNat = true then q else ffit S C W p t j (q + 1) := rfl
    by_cases c1 : W 8 q t = -2
    · obtain ⟨μ', g1, g2⟩ := ih (q + 1) μ hX hW hK (by omega) (by omega)
      refine ⟨μ', g1, ?_⟩
      rw [hf, if_neg (fun g => g.1 c1)]
      rw [e10_2]; simp (disch := omega) only [e10_18, hst, hwd, xk_0, xk_1, xk_40, xk_41, xk_42, xk_43, xk_44, xk_45, xk_46, xk_47, xk_48, xk_49, xk_50, xk_51, xk_52, xk_53, xk_54, xk_55, xk_56, xk_57, xk_58, xk_59, xk_60, xk_61, xk_62, xk_63, xk_64, xk_65, xk_66, xk_67, xk_68, xk_69, xk_70, xk_71, xk_72, xk_73, xk_74, xk_75, xk_76, xk_77, xk_78, xk_79, xk_80, xk_81, xk_82, xk_83, xk_84, xk_85, xk_86, xk_87, xk_88, xk_89, xk_90, xk_91, xk_92, xk_93, xk_94, xk_95, xk_96, xk_97, xk_98, xk_st0 hb, xk_st1 hb, xk_st10 hb, xk_st11 hb, xk_st12 hb, xk_st13 hb, xk_st14 hb, xk_st15 hb, xk_st16 hb, xk_st17 hb, xk_st18 hb, xk_st2 hb, xk_st3 hb, xk_st4 hb, xk_st5 hb, xk_st6 hb, xk_st7 hb, xk_st8 hb, xk_st9 hb, xk_wd0 hw, xk_wd1 hw, xk_wd2 hw, xk_wd3 hw, xk_wd4 hw, xk_wd5 hw, xk_wd6 hw, xk_wd7 hw, xk_wd8 hw, xm_0_0 hx, xm_0_10 hx, xm_0_11 hx, xm_0_12 hx, xm_0_13 hx, xm_0_14 hx, xm_0_15 hx, xm_0_2 hx, xm_0_5 hx, xm_0_6 hx, xm_0_7 hx, xm_0_9 hx, xm_40_0 hx, xm_40_1 hx, xm_41_0 hx, xm_44_0 hx, xm_44_1 hx, xm_73_4 hx, xm_73_5 hx, xm_73_6 hx, xm_77_1 hx, xm_77_2 hx, xm_77_3 hx, xm_77_4 hx, xm_77_5 hx, xm_77_6 hx, xm_77_7 hx, xm_77_8 hx, xm_77_9 hx, xm_87_2 hx, xm_87_3 hx, xm_87_4 hx, xm_87_5 hx, xm_87_6 hx, xm_87_7 hx, xm_87_8 hx, xm_lw2 hx hb, xm_lw3 hx hb, xm_lw4 hx hb, xm_lw5 hx hb, xm_st1 hx hb, xm_st10 hx hb, xm_st11 hx hb, xm_st13 hx hb, xm_st14 hx hb, xm_st15 hx hb, xm_st16 hx hb, xm_st17 hx hb, xm_st2 hx hb, xm_st4 hx hb, xm_st5 hx hb, xm_st6 hx hb, xm_st7 hx hb, xm_st9 hx hb, xm_wd10 hx hw, xm_wd11 hx hw, xm_wd4 hx hw, xm_wd5 hx hw, xm_wd6 hx hw, xm_wd7 hx hw, xm_wd8 hx hw, xm_wd9 hx hw, Bool.false_eq_true, eq_self, isk_t, i20_t, w20_t, l23_t, b21_t, b22_t, w_t, bif_t, bif_f, bif_d, if_pos, if_neg, if_true, if_false, not_true_eq_false, not_false_eq_true, Option.bind_some, Option.toList_some, Option.toList_none, List.cons_append, List.nil_append, Int.toNat_natCast, Int.reduceToNat, up_eq, up_p, up_k, sN,  hN, X_cell, xw_prt hW, c1 ]
      exact am_E_le (am_lq_of _ _ (by simp [am_leb])) g2
    · have e7 := xw_pH hW q0 (by omega) t0 t1 c1
      have e8 := xw_pC hW q0 (by omega) t0 t1 c1
      obtain ⟨μ1, g1, g2⟩ := X_fits (ρ := ρ) (cs := cs) (d := d) (hats := W 8 q t) (ch := (W 9 q t).toNat) hx hb hw hst hwd hS hC hD hWI hX hW hK p0 p1 t0 t1 hh (by omega) (by omega) (by omega)
      rw [Int.toNat_of_nonneg (by omega)] at g2
      by_cases c2 : fitB S C W p t (W 8 q t) (W 9 q t).toNat = true
      · refine ⟨μ1, g1, ?_⟩
        rw [if_pos c2] at g2
        rw [hf, if_pos ⟨c1, c2⟩]
        rw [e10_2]; simp (disch := omega) only [e10_18, e10_63, hst, hwd, xk_0, xk_1, xk_40, xk_41, xk_42, xk_43, xk_44, xk_45, xk_46, xk_47, xk_48, xk_49, xk_50, xk_51, xk_52, xk_53, xk_54, xk_55, xk_56, xk_57, xk_58, xk_59, xk_60, xk_61, xk_62, xk_63, xk_64, xk_65, xk_66, xk_67, xk_68, xk_69, xk_70, xk_71, xk_72, xk_73, xk_74, xk_75, xk_76, xk_77, xk_78, xk_79, xk_80, xk_81, xk_82, xk_83, xk_84, xk_85, xk_86, xk_87, xk_88, xk_89, xk_90, xk_91, xk_92, xk_93, xk_94, xk_95, xk_96, xk_97, xk_98, xk_st0 hb, xk_st1 hb, xk_st10 hb, xk_st11 hb, xk_st12 hb, xk_st13 hb, xk_st14 hb, xk_st15 hb, xk_st16 hb, xk_st17 hb, xk_st18 hb, xk_st2 hb, xk_st3 hb, xk_st4 hb, xk_st5 hb, xk_st6 hb, xk_st7 hb, xk_st8 hb, xk_st9 hb, xk_wd0 hw, xk_wd1 hw, xk_wd2 hw, xk_wd3 hw, xk_wd4 hw, xk_wd5 hw, xk_wd6 hw, xk_wd7 hw, xk_wd8 hw, xm_0_0 hx, xm_0_10 hx, xm_0_11 hx, xm_0_12 hx, xm_0_13 hx, xm_0_14 hx, xm_0_15 hx, xm_0_2 hx, xm_0_5 hx, xm_0_6 hx, xm_0_7 hx, xm_0_9 hx, xm_40_0 hx, xm_40_1 hx, xm_41_0 hx, xm_44_0 hx, xm_44_1 hx, xm_73_4 hx, xm_73_5 hx, xm_73_6 hx, xm_77_1 hx, xm_77_2 hx, xm_77_3 hx, xm_77_4 hx, xm_77_5 hx, xm_77_6 hx, xm_77_7 hx, xm_77_8 hx, xm_77_9 hx, xm_87_2 hx, xm_87_3 hx, xm_87_4 hx, xm_87_5 hx, xm_87_6 hx, xm_87_7 hx, xm_87_8 hx, xm_lw2 hx hb, xm_lw3 hx hb, xm_lw4 hx hb, xm_lw5 hx hb, xm_st1 hx hb, xm_st10 hx hb, xm_st11 hx hb, xm_st13 hx hb, xm_st14 hx hb, xm_st15 hx hb, xm_st16 hx hb, xm_st17 hx hb, xm_st2 hx hb, xm_st4 hx hb, xm_st5 hx hb, xm_st6 hx hb, xm_st7 hx hb, xm_st9 hx hb, xm_wd10 hx hw, xm_wd11 hx hw, xm_wd4 hx hw, xm_wd5 hx hw, xm_wd6 hx hw, xm_wd7 hx hw, xm_wd8 hx hw, xm_wd9 hx hw, Bool.false_eq_true, eq_self, isk_t, i20_t, w20_t, l23_t, b21_t, b22_t, w_t, bif_t, bif_f, bif_d, if_pos, if_neg, if_true, if_false, not_true_eq_false, not_false_eq_true, Option.bind_some, Option.toList_some, Option.toList_none, List.cons_append, List.nil_append, Int.toNat_natCast, Int.reduceToNat, up_eq, up_p, up_k, sN,  hN, X_cell, xw_prt hW, i20_c, e7, e8, g2 ]
      · rw [if_neg c2] at g2
        obtain ⟨μ', g3, g4⟩ := ih (q + 1) μ1 (xs_z hX hb g1) (xw_z hW hw g1) (xc_z hK g1) (by omega) (by omega)
        refine ⟨μ', frz_tr g1 g3, ?_⟩
        rw [hf, if_neg (fun g => c2 g.2)]
        rw [e10_2]; simp (disch := omega) only [e10_18, e10_63, hst, hwd, xk_0, xk_1, xk_40, xk_41, xk_42, xk_43, xk_44, xk_45, xk_46, xk_47, xk_48, xk_49, xk_50, xk_51, xk_52, xk_53, xk_54, xk_55, xk_56, xk_57, xk_58, xk_59, xk_60, xk_61, xk_62, xk_63, xk_64, xk_65, xk_66, xk_67, xk_68, xk_69, xk_70, xk_71, xk_72, xk_73, xk_74, xk_75, xk_76, xk_77, xk_78, xk_79, xk_80, xk_81, xk_82, xk_83, xk_84, xk_85, xk_86, xk_87, xk_88, xk_89, xk_90, xk_91, xk_92, xk_93, xk_94, xk_95, xk_96, xk_97, xk_98, xk_st0 hb, xk_st1 hb, xk_st10 hb, xk_st11 hb, xk_st12 hb, xk_st13 hb, xk_st14 hb, xk_st15 hb, xk_st16 hb, xk_st17 hb, xk_st18 hb, xk_st2 hb, xk_st3 hb, xk_st4 hb, xk_st5 hb, xk_st6 hb, xk_st7 hb, xk_st8 hb, xk_st9 hb, xk_wd0 hw, xk_wd1 hw, xk_wd2 hw, xk_wd3 hw, xk_wd4 hw, xk_wd5 hw, xk_wd6 hw, xk_wd7 hw, xk_wd8 hw, xm_0_0 hx, xm_0_10 hx, xm_0_11 hx, xm_0_12 hx, xm_0_13 hx, xm_0_14 hx, xm_0_15 hx, xm_0_2 hx, xm_0_5 hx, xm_0_6 hx, xm_0_7 hx, xm_0_9 hx, xm_40_0 hx, xm_40_1 hx, xm_41_0 hx, xm_44_0 hx, xm_44_1 hx, xm_73_4 hx, xm_73_5 hx, xm_73_6 hx, xm_77_1 hx, xm_77_2 hx, xm_77_3 hx, xm_77_4 hx, xm_77_5 hx, xm_77_6 hx, xm_77_7 hx, xm_77_8 hx, xm_77_9 hx, xm_87_2 hx, xm_87_3 hx, xm_87_4 hx, xm_87_5 hx, xm_87_6 hx, xm_87_7 hx, xm_87_8 hx, xm_lw2 hx hb, xm_lw3 hx hb, xm_lw4 hx hb, xm_lw5 hx hb, xm_st1 hx hb, xm_st10 hx hb, xm_st11 hx hb, xm_st13 hx hb, xm_st14 hx hb, xm_st15 hx hb, xm_st16 hx hb, xm_st17 hx hb, xm_st2 hx hb, xm_st4 hx hb, xm_st5 hx hb, xm_st6 hx hb, xm_st7 hx hb, xm_st9 hx hb, xm_wd10 hx hw, xm_wd11 hx hw, xm_wd4 hx hw, xm_wd5 hx hw, xm_wd6 hx hw, xm_wd7 hx hw, xm_wd8 hx hw, xm_wd9 hx hw, Bool.false_eq_true, eq_self, isk_t, i20_t, w20_t, l23_t, b21_t, b22_t, w_t, bif_t, bif_f, bif_d, if_pos, if_neg, if_true, if_false, not_true_eq_false, not_false_eq_true, Option.bind_some, Option.toList_some, Option.toList_none, List.cons_append, List.nil_append, Int.toNat_natCast, Int.reduceToNat, up_eq, up_p, up_k, sN,  hN, X_cell, xw_prt hW, i20_c, e7, e8, g2 ]
        exact am_E_le (am_lq_of _ _ (by simp [am_leb])) g4
theorem X_firstFitting (hx : XM ρ) (hb : b = 2 ∨ b = 21) (hw : w = 46 ∨ w = 55 ∨ w = 64) (hst : ρ 73 0 = b) (hwd : ρ 73 1 = w) {W : MW} {μ : Nat → Nat → Int} (hS : SI S) (hC : CI S C) (hD : D ≤ 20000) (hWI : WI S D W) (hX : XS μ b S) (hW : XW μ w W) (hK : XC μ S C) {p t : Int} (p0 : 0 ≤ p) (p1 : p < S 0 0) (t0 : 0 ≤ t) (t1 : t < 6) (hh : W 5 p t ≠ -1) : ∃ μ', FrZ μ μ' ∧ am_E (d + 4) 10 0 [some (.inr (.inr 73)), some (.inl p), some (.inl t), none, none] [] (SH, ρ, μ, cs) = some (some (.inl (ffit S C W p t (men S) 0)), (SH, ρ, μ', cs)) := by
  rw [e10_0]
  exact X_firstFitting_loop hx hb hw hst hwd hS hC hD hWI p0 p1 t0 t1 hh (men S) 0 μ hX hW hK (Int.le_refl _) (by have := hS.1; unfold men; omega)
theorem X_handOver (hx : XM ρ) (hb : b = 2 ∨ b = 21) (hw : w = 46 ∨ w = 55 ∨ w = 64) (hst : ρ 73 0 = b) (hwd : ρ 73 1 = w) {W : MW} {μ : Nat → Nat → Int} (hS : SI S) (hC : CI S C) (hD : D ≤ 20000) (hWI : WI S D W) (hX : XS μ b S) (hW : XW μ w W) (hK : XC μ S C) {p q t : Int} (p0 : 0 ≤ p) (p1 : p < S 0 0) (t0 : 0 ≤ t) (t1 : t < 6) (q0 : 0 ≤ q) (q1 : q < S 0 0) (hh : W 5 p t ≠ -1) : ∃ μ', FrX w μ μ' ∧ XW μ' w (hearW S C W q p t) ∧ am_E (d + 3) 8 0 [some (.inr (.inr 73)), some (.inl p), some (.inl q), some (.inl t), none, none, none] [] (SH, ρ, μ, cs) = some (none, (SH, ρ, μ', cs)) := by
  have b0 := hS.1
  have p7 : p < 7 := by omega
  have b1 := hC p p0 p1
  have bw := hWI.2.2.2.2.2 p t p0 p7 t0 t1
  have hsf := fun d => X_setFacts (ρ := ρ) (cs := cs) (d := d) (ap := 0) hx hb hw hst hwd hS hC hD hWI hX hW hK p0 p1 t0 t1 hh
  have hfb := fact_bd hS hC hD hWI p0 p1 t0 t1 (show (0 : Int) ≤ 0 by omega) (by omega)
  have hcb := chg_bd hC hWI p0 p1 p7 t0 t1 hh
  rw [hear_gain]
  rw [chg_wth] at hcb ⊢
  generalize hF : factF S C W p t 0 = F at hsf hfb hcb
  have hz := frz_nax μ F
  obtain ⟨μ1, g1, g2⟩ := X_worth (ρ := ρ) (cs := cs) (d := d) (r := 0) hx hb hst hS (by omega) (by omega) hfb (xs_z hX hb hz) (fun i h0 h1 => nax_at μ F h0 h1)
  have hz2 := frz_tr hz (frz_5 g1)
  have hW1 := xw_z hW hw hz2
  have e5 := xw_hats hW1 p0 p7 t0 t1 hh
  have ec := (xc_z hK hz2).2.2.1 p p0 p1
  cases hl : lawV S F 0 with
  | none =>
    rw [hl] at g2 hcb
    have hj : jv none = -9223372036854775808 := rfl
    rw [hj] at g2
    have hv : wthn none 99 ((W 5 p t + C.1 p).tmod 100) = (W 5 p t + C.1 p).tmod 100 := rfl
    rw [hv] at hcb
    obtain ⟨μ2, k1, k2, k3⟩ := X_gainThing (ρ := ρ) (cs := cs) (d := d + 1) (fr := p) (h := (W 5 p t + C.1 p).tmod 100) hx hw hW1 q0 (show q < 7 by omega) t0 t1 (by omega)
    refine ⟨μ2, frx_tr (frz_x hz2) (frx_v k1), k2, ?_⟩
    simp (disch := omega) only [e8_0, e8_7, e8_12, e8_35, e8_72, hst, hwd, xk_0, xk_1, xk_40, xk_41, xk_42, xk_43, xk_44, xk_45, xk_46, xk_47, xk_48, xk_49, xk_50, xk_51, xk_52, xk_53, xk_54, xk_55, xk_56, xk_57, xk_58, xk_59, xk_60, xk_61, xk_62, xk_63, xk_64, xk_65, xk_66, xk_67, xk_68, xk_69, xk_70, xk_71, xk_72, xk_73, xk_74, xk_75, xk_76, xk_77, xk_78, xk_79, xk_80, xk_81, xk_82, xk_83, xk_84, xk_85, xk_86, xk_87, xk_88, xk_89, xk_90, xk_91, xk_92, xk_93, xk_94, xk_95, xk_96, xk_97, xk_98, xk_st0 hb, xk_st1 hb, xk_st10 hb, xk_st11 hb, xk_st12 hb, xk_st13 hb, xk_st14 hb, xk_st15 hb, xk_st16 hb, xk_st17 hb, xk_st18 hb, xk_st2 hb, xk_st3 hb, xk_st4 hb, xk_st5 hb, xk_st6 hb, xk_st7 hb, xk_st8 hb, xk_st9 hb, xk_wd0 hw, xk_wd1 hw, xk_wd2 hw, xk_wd3 hw, xk_wd4 hw, xk_wd5 hw, xk_wd6 hw, xk_wd7 hw, xk_wd8 hw, xm_0_0 hx, xm_0_10 hx, xm_0_11 hx, xm_0_12 hx, xm_0_13 hx, xm_0_14 hx, xm_0_15 hx, xm_0_2 hx, xm_0_5 hx, xm_0_6 hx, xm_0_7 hx, xm_0_9 hx, xm_40_0 hx, xm_40_1 hx, xm_41_0 hx, xm_44_0 hx, xm_44_1 hx, xm_73_4 hx, xm_73_5 hx, xm_73_6 hx, xm_77_1 hx, xm_77_2 hx, xm_77_3 hx, xm_77_4 hx, xm_77_5 hx, xm_77_6 hx, xm_77_7 hx, xm_77_8 hx, xm_77_9 hx, xm_87_2 hx, xm_87_3 hx, xm_87_4 hx, xm_87_5 hx, xm_87_6 hx, xm_87_7 hx, xm_87_8 hx, xm_lw2 hx hb, xm_lw3 hx hb, xm_lw4 hx hb, xm_lw5 hx hb, xm_st1 hx hb, xm_st10 hx hb, xm_st11 hx hb, xm_st13 hx hb, xm_st14 hx hb, xm_st15 hx hb, xm_st16 hx hb, xm_st17 hx hb, xm_st2 hx hb, xm_st4 hx hb, xm_st5 hx hb, xm_st6 hx hb, xm_st7 hx hb, xm_st9 hx hb, xm_wd10 hx hw, xm_wd11 hx hw, xm_wd4 hx hw, xm_wd5 hx hw, xm_wd6 hx hw, xm_wd7 hx hw, xm_wd8 hx hw, xm_wd9 hx hw, Bool.false_eq_true, eq_self, isk_t, i20_t, w20_t, l23_t, b21_t, b22_t, w_t, bif_t, bif_f, bif_d, if_pos, if_neg, if_true, if_false, not_true_eq_false, not_false_eq_true, Option.bind_some, Option.toList_some, Option.toList_none, List.cons_append, List.nil_append, Int.toNat_natCast, Int.reduceToNat, up_eq, up_p, up_k, sN,  hsf, g2, lc_eq, X_cell, i20_c, e5, ec, k3, ne_eq ]
  | some v =>
    rw [hl] at g2 hcb
    have hj : jv (some v) = v := rfl
    rw [hj] at g2
    have hvb := lawV_bd hS (by omega) (by omega) hfb hl
    have hv : wthn (some v) 99 ((W 5 p t + C.1 p).tmod 100) = max 0 (min 99 v) := rfl
    rw [hv] at hcb
    obtain ⟨μ2, k1, k2, k3⟩ := X_gainThing (ρ := ρ) (cs := cs) (d := d + 1) (fr := p) (h := max 0 (min 99 v)) hx hw hW1 q0 (show q < 7 by omega) t0 t1 (by omega)
    refine ⟨μ2, frx_tr (frz_x hz2) (frx_v k1), k2, ?_⟩
    simp (disch := omega) only [e8_0, e8_7, e8_12, e8_58, e8_72, hst, hwd, xk_0, xk_1, xk_40, xk_41, xk_42, xk_43, xk_44, xk_45, xk_46, xk_47, xk_48, xk_49, xk_50, xk_51, xk_52, xk_53, xk_54, xk_55, xk_56, xk_57, xk_58, xk_59, xk_60, xk_61, xk_62, xk_63, xk_64, xk_65, xk_66, xk_67, xk_68, xk_69, xk_70, xk_71, xk_72, xk_73, xk_74, xk_75, xk_76, xk_77, xk_78, xk_79, xk_80, xk_81, xk_82, xk_83, xk_84, xk_85, xk_86, xk_87, xk_88, xk_89, xk_90, xk_91, xk_92, xk_93, xk_94, xk_95, xk_96, xk_97, xk_98, xk_st0 hb, xk_st1 hb, xk_st10 hb, xk_st11 hb, xk_st12 hb, xk_st13 hb, xk_st14 hb, xk_st15 hb, xk_st16 hb, xk_st17 hb, xk_st18 hb, xk_st2 hb, xk_st3 hb, xk_st4 hb, xk_st5 hb, xk_st6 hb, xk_st7 hb, xk_st8 hb, xk_st9 hb, xk_wd0 hw, xk_wd1 hw, xk_wd2 hw, xk_wd3 hw, xk_wd4 hw, xk_wd5 hw, xk_wd6 hw, xk_wd7 hw, xk_wd8 hw, xm_0_0 hx, xm_0_10 hx, xm_0_11 hx, xm_0_12 hx, xm_0_13 hx, xm_0_14 hx, xm_0_15 hx, xm_0_2 hx, xm_0_5 hx, xm_0_6 hx, xm_0_7 hx, xm_0_9 hx, xm_40_0 hx, xm_40_1 hx, xm_41_0 hx, xm_44_0 hx, xm_44_1 hx, xm_73_4 hx, xm_73_5 hx, xm_73_6 hx, xm_77_1 hx, xm_77_2 hx, xm_77_3 hx, xm_77_4 hx, xm_77_5 hx, xm_77_6 hx, xm_77_7 hx, xm_77_8 hx, xm_77_9 hx, xm_87_2 hx, xm_87_3 hx, xm_87_4 hx, xm_87_5 hx, xm_87_6 hx, xm_87_7 hx, xm_87_8 hx, xm_lw2 hx hb, xm_lw3 hx hb, xm_lw4 hx hb, xm_lw5 hx hb, xm_st1 hx hb, xm_st10 hx hb, xm_st11 hx hb, xm_st13 hx hb, xm_st14 hx hb, xm_st15 hx hb, xm_st16 hx hb, xm_st17 hx hb, xm_st2 hx hb, xm_st4 hx hb, xm_st5 hx hb, xm_st6 hx hb, xm_st7 hx hb, xm_st9 hx hb, xm_wd10 hx hw, xm_wd11 hx hw, xm_wd4 hx hw, xm_wd5 hx hw, xm_wd6 hx hw, xm_wd7 hx hw, xm_wd8 hx hw, xm_wd9 hx hw, Bool.false_eq_true, eq_self, isk_t, i20_t, w20_t, l23_t, b21_t, b22_t, w_t, bif_t, bif_f, bif_d, if_pos, if_neg, if_true, if_false, not_true_eq_false, not_false_eq_true, Option.bind_some, Option.toList_some, Option.toList_none, List.cons_append, List.nil_append, Int.toNat_natCast, Int.reduceToNat, up_eq, up_p, up_k, sN,  hsf, g2, lc_eq, X_within, k3 ]
theorem land_max {z : Int} : am_land (am_w64 (am_w64 (z * 1103515245) + 12345)) 2147483647 = nextN z := by
  have h1 : am_w64 (am_w64 (z * 1103515245) + 12345) = am_w64 (z * 1103515245 + 12345) := by
    unfold am_w64
    exact Int.bmod_add_bmod
  rw [h1]
  unfold nextN
  generalize z * 1103515245 + 12345 = y
  show am_land (am_w64 y) 2147483647 = y % 2147483648
  unfold am_land
  have e3 : (Int64.ofInt (am_w64 y)).toBitVec = BitVec.ofInt 64 y := by
    show BitVec.ofInt 64 (Int.bmod y (2 ^ 64)) = _
    apply BitVec.eq_of_toInt_eq
    rw [BitVec.toInt_ofInt, BitVec.toInt_ofInt, Int.bmod_bmod]
  have e4 : (Int64.ofInt (am_w64 y) &&& Int64.ofInt 2147483647).toBitVec.toNat = (y % 2147483648).toNat := by
    rw [Int64.toBitVec_and, e3, BitVec.toNat_and]
    have e2 : (Int64.ofInt 2147483647).toBitVec.toNat = 2 ^ 31 - 1 := rfl
    rw [e2, Nat.and_two_pow_sub_one_eq_mod, BitVec.toNat_ofInt]
    omega
  have e5 : (Int64.ofInt (am_w64 y) &&& Int64.ofInt 2147483647).toInt = (Int64.ofInt (am_w64 y) &&& Int64.ofInt 2147483647).toBitVec.toInt := rfl
  rw [e5, BitVec.toInt_eq_toNat_cond, e4, if_pos (by omega)]
  omega
theorem X_talks (hx : XM ρ) (hb : b = 2 ∨ b = 21) (hw : w = 46 ∨ w = 55 ∨ w = 64) (hst : ρ 73 0 = b) (hwd : ρ 73 1 = w) {W : MW} {μ : Nat → Nat → Int} (hX : XS μ b S) (hW : XW μ w W) (hK : XC μ S C) (hS : SI S) (hn3 : C.2.2.1 < 3) : ∃ μ', FrV w μ μ' ∧ XW μ' w (talkW C W) ∧ am_E d 7 0 [some (.inr (.inr 73))] [] (SH, ρ, μ, cs) = some (some (.inl (if talkB S C W = true then 1 else 0)), (SH, ρ, μ', cs)) := by
  have ht := hK.1
  have e7 := hX.2.1.2.2.1
  have e1 := xw_num hW
  have b7 := hS.2.2.2.2.2.2.2.1
  have hn := next_bd (W 1 0 0)
  unfold talkB talkW
  by_cases q1 : C.2.2.1 = 1
  · refine ⟨μ, frv_rf w μ, by rw [if_pos q1]; exact hW, ?_⟩
    rw [q1] at ht
    rw [if_pos q1]
    simp (disch := omega) only [e7_0, hst, hwd, xk_0, xk_1, xk_40, xk_41, xk_42, xk_43, xk_44, xk_45, xk_46, xk_47, xk_48, xk_49, xk_50, xk_51, xk_52, xk_53, xk_54, xk_55, xk_56, xk_57, xk_58, xk_59, xk_60, xk_61, xk_62, xk_63, xk_64, xk_65, xk_66, xk_67, xk_68, xk_69, xk_70, xk_71, xk_72, xk_73, xk_74, xk_75, xk_76, xk_77, xk_78, xk_79, xk_80, xk_81, xk_82, xk_83, xk_84, xk_85, xk_86, xk_87, xk_88, xk_89, xk_90, xk_91, xk_92, xk_93, xk_94, xk_95, xk_96, xk_97, xk_98, xk_st0 hb, xk_st1 hb, xk_st10 hb, xk_st11 hb, xk_st12 hb, xk_st13 hb, xk_st14 hb, xk_st15 hb, xk_st16 hb, xk_st17 hb, xk_st18 hb, xk_st2 hb, xk_st3 hb, xk_st4 hb, xk_st5 hb, xk_st6 hb, xk_st7 hb, xk_st8 hb, xk_st9 hb, xk_wd0 hw, xk_wd1 hw, xk_wd2 hw, xk_wd3 hw, xk_wd4 hw, xk_wd5 hw, xk_wd6 hw, xk_wd7 hw, xk_wd8 hw, xm_0_0 hx, xm_0_10 hx, xm_0_11 hx, xm_0_12 hx, xm_0_13 hx, xm_0_14 hx, xm_0_15 hx, xm_0_2 hx, xm_0_5 hx, xm_0_6 hx, xm_0_7 hx, xm_0_9 hx, xm_40_0 hx, xm_40_1 hx, xm_41_0 hx, xm_44_0 hx, xm_44_1 hx, xm_73_4 hx, xm_73_5 hx, xm_73_6 hx, xm_77_1 hx, xm_77_2 hx, xm_77_3 hx, xm_77_4 hx, xm_77_5 hx, xm_77_6 hx, xm_77_7 hx, xm_77_8 hx, xm_77_9 hx, xm_87_2 hx, xm_87_3 hx, xm_87_4 hx, xm_87_5 hx, xm_87_6 hx, xm_87_7 hx, xm_87_8 hx, xm_lw2 hx hb, xm_lw3 hx hb, xm_lw4 hx hb, xm_lw5 hx hb, xm_st1 hx hb, xm_st10 hx hb, xm_st11 hx hb, xm_st13 hx hb, xm_st14 hx hb, xm_st15 hx hb, xm_st16 hx hb, xm_st17 hx hb, xm_st2 hx hb, xm_st4 hx hb, xm_st5 hx hb, xm_st6 hx hb, xm_st7 hx hb, xm_st9 hx hb, xm_wd10 hx hw, xm_wd11 hx hw, xm_wd4 hx hw, xm_wd5 hx hw, xm_wd6 hx hw, xm_wd7 hx hw, xm_wd8 hx hw, xm_wd9 hx hw, Bool.false_eq_true, eq_self, isk_t, i20_t, w20_t, l23_t, b21_t, b22_t, w_t, bif_t, bif_f, bif_d, if_pos, if_neg, if_true, if_false, not_true_eq_false, not_false_eq_true, Option.bind_some, Option.toList_some, Option.toList_none, List.cons_append, List.nil_append, Int.toNat_natCast, Int.reduceToNat, up_eq, up_p, up_k, sN,  ht ]
    all_goals rfl
  · by_cases q2 : C.2.2.1 = 2
    · refine ⟨μ, frv_rf w μ, by rw [if_neg q1, if_pos q2]; exact hW, ?_⟩
      rw [q2] at ht
      rw [if_neg q1, if_pos q2]
      simp (disch := omega) only [e7_0, hst, hwd, xk_0, xk_1, xk_40, xk_41, xk_42, xk_43, xk_44, xk_45, xk_46, xk_47, xk_48, xk_49, xk_50, xk_51, xk_52, xk_53, xk_54, xk_55, xk_56, xk_57, xk_58, xk_59, xk_60, xk_61, xk_62, xk_63, xk_64, xk_65, xk_66, xk_67, xk_68, xk_69, xk_70, xk_71, xk_72, xk_73, xk_74, xk_75, xk_76, xk_77, xk_78, xk_79, xk_80, xk_81, xk_82, xk_83, xk_84, xk_85, xk_86, xk_87, xk_88, xk_89, xk_90, xk_91, xk_92, xk_93, xk_94, xk_95, xk_96, xk_97, xk_98, xk_st0 hb, xk_st1 hb, xk_st10 hb, xk_st11 hb, xk_st12 hb, xk_st13 hb, xk_st14 hb, xk_st15 hb, xk_st16 hb, xk_st17 hb, xk_st18 hb, xk_st2 hb, xk_st3 hb, xk_st4 hb, xk_st5 hb, xk_st6 hb, xk_st7 hb, xk_st8 hb, xk_st9 hb, xk_wd0 hw, xk_wd1 hw, xk_wd2 hw, xk_wd3 hw, xk_wd4 hw, xk_wd5 hw, xk_wd6 hw, xk_wd7 hw, xk_wd8 hw, xm_0_0 hx, xm_0_10 hx, xm_0_11 hx, xm_0_12 hx, xm_0_13 hx, xm_0_14 hx, xm_0_15 hx, xm_0_2 hx, xm_0_5 hx, xm_0_6 hx, xm_0_7 hx, xm_0_9 hx, xm_40_0 hx, xm_40_1 hx, xm_41_0 hx, xm_44_0 hx, xm_44_1 hx, xm_73_4 hx, xm_73_5 hx, xm_73_6 hx, xm_77_1 hx, xm_77_2 hx, xm_77_3 hx, xm_77_4 hx, xm_77_5 hx, xm_77_6 hx, xm_77_7 hx, xm_77_8 hx, xm_77_9 hx, xm_87_2 hx, xm_87_3 hx, xm_87_4 hx, xm_87_5 hx, xm_87_6 hx, xm_87_7 hx, xm_87_8 hx, xm_lw2 hx hb, xm_lw3 hx hb, xm_lw4 hx hb, xm_lw5 hx hb, xm_st1 hx hb, xm_st10 hx hb, xm_st11 hx hb, xm_st13 hx hb, xm_st14 hx hb, xm_st15 hx hb, xm_st16 hx hb, xm_st17 hx hb, xm_st2 hx hb, xm_st4 hx hb, xm_st5 hx hb, xm_st6 hx hb, xm_st7 hx hb, xm_st9 hx hb, xm_wd10 hx hw, xm_wd11 hx hw, xm_wd4 hx hw, xm_wd5 hx hw, xm_wd6 hx hw, xm_wd7 hx hw, xm_wd8 hx hw, xm_wd9 hx hw, Bool.false_eq_true, eq_self, isk_t, i20_t, w20_t, l23_t, b21_t, b22_t, w_t, bif_t, bif_f, bif_d, if_pos, if_neg, if_true, if_false, not_true_eq_false, not_false_eq_true, Option.bind_some, Option.toList_some, Option.toList_none, List.cons_append, List.nil_append, Int.toNat_natCast, Int.reduceToNat, up_eq, up_p, up_k, sN,  ht ]
      all_goals rfl
    · have q3 : C.2.2.1 = 0 := by omega
      rw [q3] at ht
      refine ⟨am_up μ w 1 (nextN (W 1 0 0)), fun q k hq => up_p (by omega), by rw [if_neg q1, if_neg q2]; exact xw_up_sc hw hW (by omega), ?_⟩
      rw [if_neg q1, if_neg q2]
      have e8 : Int.tdiv (nextN (W 1 0 0)) 65536 = nextN (W 1 0 0) / 65536 := Int.tdiv_eq_ediv_of_nonneg hn.1
      by_cases q4 : Int.tmod (nextN (W 1 0 0) / 65536) 100 < S 0 7
      · rw [if_pos (by simp [q4])]
        simp (disch := omega) only [e7_0, hst, hwd, xk_0, xk_1, xk_40, xk_41, xk_42, xk_43, xk_44, xk_45, xk_46, xk_47, xk_48, xk_49, xk_50, xk_51, xk_52, xk_53, xk_54, xk_55, xk_56, xk_57, xk_58, xk_59, xk_60, xk_61, xk_62, xk_63, xk_64, xk_65, xk_66, xk_67, xk_68, xk_69, xk_70, xk_71, xk_72, xk_73, xk_74, xk_75, xk_76, xk_77, xk_78, xk_79, xk_80, xk_81, xk_82, xk_83, xk_84, xk_85, xk_86, xk_87, xk_88, xk_89, xk_90, xk_91, xk_92, xk_93, xk_94, xk_95, xk_96, xk_97, xk_98, xk_st0 hb, xk_st1 hb, xk_st10 hb, xk_st11 hb, xk_st12 hb, xk_st13 hb, xk_st14 hb, xk_st15 hb, xk_st16 hb, xk_st17 hb, xk_st18 hb, xk_st2 hb, xk_st3 hb, xk_st4 hb, xk_st5 hb, xk_st6 hb, xk_st7 hb, xk_st8 hb, xk_st9 hb, xk_wd0 hw, xk_wd1 hw, xk_wd2 hw, xk_wd3 hw, xk_wd4 hw, xk_wd5 hw, xk_wd6 hw, xk_wd7 hw, xk_wd8 hw, xm_0_0 hx, xm_0_10 hx, xm_0_11 hx, xm_0_12 hx, xm_0_13 hx, xm_0_14 hx, xm_0_15 hx, xm_0_2 hx, xm_0_5 hx, xm_0_6 hx, xm_0_7 hx, xm_0_9 hx, xm_40_0 hx, xm_40_1 hx, xm_41_0 hx, xm_44_0 hx, xm_44_1 hx, xm_73_4 hx, xm_73_5 hx, xm_73_6 hx, xm_77_1 hx, xm_77_2 hx, xm_77_3 hx, xm_77_4 hx, xm_77_5 hx, xm_77_6 hx, xm_77_7 hx, xm_77_8 hx, xm_77_9 hx, xm_87_2 hx, xm_87_3 hx, xm_87_4 hx, xm_87_5 hx, xm_87_6 hx, xm_87_7 hx, xm_87_8 hx, xm_lw2 hx hb, xm_lw3 hx hb, xm_lw4 hx hb, xm_lw5 hx hb, xm_st1 hx hb, xm_st10 hx hb, xm_st11 hx hb, xm_st13 hx hb, xm_st14 hx hb, xm_st15 hx hb, xm_st16 hx hb, xm_st17 hx hb, xm_st2 hx hb, xm_st4 hx hb, xm_st5 hx hb, xm_st6 hx hb, xm_st7 hx hb, xm_st9 hx hb, xm_wd10 hx hw, xm_wd11 hx hw, xm_wd4 hx hw, xm_wd5 hx hw, xm_wd6 hx hw, xm_wd7 hx hw, xm_wd8 hx hw, xm_wd9 hx hw, Bool.false_eq_true, eq_self, isk_t, i20_t, w20_t, l23_t, b21_t, b22_t, w_t, bif_t, bif_f, bif_d, if_pos, if_neg, if_true, if_false, not_true_eq_false, not_false_eq_true, Option.bind_some, Option.toList_some, Option.toList_none, List.cons_append, List.nil_append, Int.toNat_natCast, Int.reduceToNat, up_eq, up_p, up_k, sN,  ht, e1, land_max, e7, e8, w64_t, lc_ge, ne_eq ]
      · rw [if_neg (by simp [q4])]
        simp (disch := omega) only [e7_0, hst, hwd, xk_0, xk_1, xk_40, xk_41, xk_42, xk_43, xk_44, xk_45, xk_46, xk_47, xk_48, xk_49, xk_50, xk_51, xk_52, xk_53, xk_54, xk_55, xk_56, xk_57, xk_58, xk_59, xk_60, xk_61, xk_62, xk_63, xk_64, xk_65, xk_66, xk_67, xk_68, xk_69, xk_70, xk_71, xk_72, xk_73, xk_74, xk_75, xk_76, xk_77, xk_78, xk_79, xk_80, xk_81, xk_82, xk_83, xk_84, xk_85, xk_86, xk_87, xk_88, xk_89, xk_90, xk_91, xk_92, xk_93, xk_94, xk_95, xk_96, xk_97, xk_98, xk_st0 hb, xk_st1 hb, xk_st10 hb, xk_st11 hb, xk_st12 hb, xk_st13 hb, xk_st14 hb, xk_st15 hb, xk_st16 hb, xk_st17 hb, xk_st18 hb, xk_st2 hb, xk_st3 hb, xk_st4 hb, xk_st5 hb, xk_st6 hb, xk_st7 hb, xk_st8 hb, xk_st9 hb, xk_wd0 hw, xk_wd1 hw, xk_wd2 hw, xk_wd3 hw, xk_wd4 hw, xk_wd5 hw, xk_wd6 hw, xk_wd7 hw, xk_wd8 hw, xm_0_0 hx, xm_0_10 hx, xm_0_11 hx, xm_0_12 hx, xm_0_13 hx, xm_0_14 hx, xm_0_15 hx, xm_0_2 hx, xm_0_5 hx, xm_0_6 hx, xm_0_7 hx, xm_0_9 hx, xm_40_0 hx, xm_40_1 hx, xm_41_0 hx, xm_44_0 hx, xm_44_1 hx, xm_73_4 hx, xm_73_5 hx, xm_73_6 hx, xm_77_1 hx, xm_77_2 hx, xm_77_3 hx, xm_77_4 hx, xm_77_5 hx, xm_77_6 hx, xm_77_7 hx, xm_77_8 hx, xm_77_9 hx, xm_87_2 hx, xm_87_3 hx, xm_87_4 hx, xm_87_5 hx, xm_87_6 hx, xm_87_7 hx, xm_87_8 hx, xm_lw2 hx hb, xm_lw3 hx hb, xm_lw4 hx hb, xm_lw5 hx hb, xm_st1 hx hb, xm_st10 hx hb, xm_st11 hx hb, xm_st13 hx hb, xm_st14 hx hb, xm_st15 hx hb, xm_st16 hx hb, xm_st17 hx hb, xm_st2 hx hb, xm_st4 hx hb, xm_st5 hx hb, xm_st6 hx hb, xm_st7 hx hb, xm_st9 hx hb, xm_wd10 hx hw, xm_wd11 hx hw, xm_wd4 hx hw, xm_wd5 hx hw, xm_wd6 hx hw, xm_wd7 hx hw, xm_wd8 hx hw, xm_wd9 hx hw, Bool.false_eq_true, eq_self, isk_t, i20_t, w20_t, l23_t, b21_t, b22_t, w_t, bif_t, bif_f, bif_d, if_pos, if_neg, if_true, if_false, not_true_eq_false, not_false_eq_true, Option.bind_some, Option.toList_some, Option.toList_none, List.cons_append, List.nil_append, Int.toNat_natCast, Int.reduceToNat, up_eq, up_p, up_k, sN,  ht, e1, land_max, e7, e8, w64_t, lc_ge, ne_eq ]
theorem X_print_end (hx : XM ρ) (hw : w = 46 ∨ w = 55 ∨ w = 64) (hwd : ρ 73 1 = w) {W : MW} {μ : Nat → Nat → Int} (hW : XW μ w W) {p t x4 v : Int} {l5 l6 l7 : Option am_V} (p0 : 0 ≤ p) (p1 : p < 7) (t0 : 0 ≤ t) (t1 : t < 6) : ∃ μ', FrX w μ μ' ∧ XW μ' w (wp W 9 p t v) ∧ am_E (d + 1) 9 189 [some (.inr (.inr 73)), some (.inl p), some (.inl t), some (.inl ((cI p t : Nat) : Int)), some (.inl x4), l5, l6, l7] [.inl v, .inl ((cI p t : Nat) : Int), .inr (.inr (w + 8))] (SH, ρ, μ, cs) = some (some (.inl (if x4 < 0 then 0 else 1)), (SH, ρ, μ', cs)) := by
  refine ⟨am_up μ (w + 8) (cI p t) v, fun q k hq _ _ => up_p (by omega), xw_up_pC hw hW p0 p1 t0 t1, am_E_le (am_lq_of [some (.inr (.inr 73)), some (.inl p), some (.inl t), some (.inl ((cI p t : Nat) : Int)), some (.inl x4), none, none, none] _ (by simp [am_leb])) ?_⟩
  by_cases q : x4 < 0
  · simp (disch := omega) only [e9_189, e9_190, xk_wd8 hw, w20_c, bif_t, bif_d, if_pos, Int.toNat_natCast]
  · simp (disch := omega) only [e9_189, e9_190, xk_wd8 hw, w20_c, bif_t, bif_d, if_neg, Int.toNat_natCast]
theorem X_printTelling (hx : XM ρ) (hb : b = 2 ∨ b = 21) (hw : w = 46 ∨ w = 55 ∨ w = 64) (hst : ρ 73 0 = b) (hwd : ρ 73 1 = w) {W : MW} {μ : Nat → Nat → Int} (hS : SI S) (hC : CI S C) (hD : D ≤ 20000) (hWI : WI S D W) (hX : XS μ b S) (hW : XW μ w W) (hK : XC μ S C) {p t : Int} (p0 : 0 ≤ p) (p1 : p < S 0 0) (t0 : 0 ≤ t) (t1 : t < S 0 1) (hh : W 5 p t ≠ -1) : ∃ μ', FrX w μ μ' ∧ XW μ' w (tellW S C W p t) ∧ am_E (d + 5) 9 0 [some (.inr (.inr 73)), some (.inl p), some (.inl t), none, none, none, none, none] [] (SH, ρ, μ, cs) = some (some (.inl (if fitOf S C W p t = -1 then 0 else 1)), (SH, ρ, μ', cs)) := by
  have b0 := hS.1
  have bt := hS.2.1
  have t6 : t < 6 := by omega
  have p7 : p < 7 := by omega
  have bw := hWI.2.2.2.2.2 p t p0 p7 t0 t6
  have bn := hWI.2.2.2.2.1 t t0 t6
  have b2 := hWI.2.2.1
  have en := xw_news hW t0 t6
  have hcl := chain_lt hWI p0 p7 t0 t6
  obtain ⟨μ1, g1, g2⟩ : ∃ μ1, FrZ μ μ1 ∧ am_E (d + 5) 9 0 [some (.inr (.inr 73)), some (.inl p), some (.inl t), none, none, none, none, none] [] (SH, ρ, μ, cs) = am_E (d + 5) 9 28 [some (.inr (.inr 73)), some (.inl p), some (.inl t), some (.inl ((cI p t : Nat) : Int)), none, none, none, none] [.inl (fitOf S C W p t)] (SH, ρ, μ1, cs) := by
    by_cases q : W 4 0 t = -2
    · obtain ⟨μ1, g1, g2⟩ := X_firstFitting (ρ := ρ) (cs := cs) (d := d) hx hb hw hst hwd hS hC hD hWI hX hW hK p0 p1 t0 t6 hh
      have e : fitOf S C W p t = ffit S C W p t (men S) 0 := by unfold fitOf; rw [if_neg (fun g => g q)]
      refine ⟨μ1, g1, ?_⟩
      rw [e]
      simp (disch := omega) only [e9_0, e9_5, hst, hwd, xk_0, xk_1, xk_40, xk_41, xk_42, xk_43, xk_44, xk_45, xk_46, xk_47, xk_48, xk_49, xk_50, xk_51, xk_52, xk_53, xk_54, xk_55, xk_56, xk_57, xk_58, xk_59, xk_60, xk_61, xk_62, xk_63, xk_64, xk_65, xk_66, xk_67, xk_68, xk_69, xk_70, xk_71, xk_72, xk_73, xk_74, xk_75, xk_76, xk_77, xk_78, xk_79, xk_80, xk_81, xk_82, xk_83, xk_84, xk_85, xk_86, xk_87, xk_88, xk_89, xk_90, xk_91, xk_92, xk_93, xk_94, xk_95, xk_96, xk_97, xk_98, xk_wd0 hw, xk_wd1 hw, xk_wd2 hw, xk_wd3 hw, xk_wd4 hw, xk_wd5 hw, xk_wd6 hw, xk_wd7 hw, xk_wd8 hw, xm_0_0 hx, xm_0_10 hx, xm_0_11 hx, xm_0_12 hx, xm_0_13 hx, xm_0_14 hx, xm_0_15 hx, xm_0_2 hx, xm_0_5 hx, xm_0_6 hx, xm_0_7 hx, xm_0_9 hx, xm_40_0 hx, xm_40_1 hx, xm_41_0 hx, xm_44_0 hx, xm_44_1 hx, xm_73_4 hx, xm_73_5 hx, xm_73_6 hx, xm_77_1 hx, xm_77_2 hx, xm_77_3 hx, xm_77_4 hx, xm_77_5 hx, xm_77_6 hx, xm_77_7 hx, xm_77_8 hx, xm_77_9 hx, xm_87_2 hx, xm_87_3 hx, xm_87_4 hx, xm_87_5 hx, xm_87_6 hx, xm_87_7 hx, xm_87_8 hx, xm_wd10 hx hw, xm_wd11 hx hw, xm_wd4 hx hw, xm_wd5 hx hw, xm_wd6 hx hw, xm_wd7 hx hw, xm_wd8 hx hw, xm_wd9 hx hw, Bool.false_eq_true, eq_self, isk_t, i20_t, w20_t, l23_t, b21_t, b22_t, w_t, bif_t, bif_f, bif_d, if_pos, if_neg, if_true, if_false, not_true_eq_false, not_false_eq_true, Option.bind_some, Option.toList_some, Option.toList_none, List.cons_append, List.nil_append, Int.toNat_natCast, Int.reduceToNat, up_eq, up_p, up_k, sN,  X_cell, en, g2 ]
    · have e : fitOf S C W p t = -1 := by unfold fitOf; rw [if_pos q]
      refine ⟨μ, frz_rf μ, ?_⟩
      rw [e]
      simp (disch := omega) only [e9_0, e9_5, hst, hwd, xk_0, xk_1, xk_40, xk_41, xk_42, xk_43, xk_44, xk_45, xk_46, xk_47, xk_48, xk_49, xk_50, xk_51, xk_52, xk_53, xk_54, xk_55, xk_56, xk_57, xk_58, xk_59, xk_60, xk_61, xk_62, xk_63, xk_64, xk_65, xk_66, xk_67, xk_68, xk_69, xk_70, xk_71, xk_72, xk_73, xk_74, xk_75, xk_76, xk_77, xk_78, xk_79, xk_80, xk_81, xk_82, xk_83, xk_84, xk_85, xk_86, xk_87, xk_88, xk_89, xk_90, xk_91, xk_92, xk_93, xk_94, xk_95, xk_96, xk_97, xk_98, xk_wd0 hw, xk_wd1 hw, xk_wd2 hw, xk_wd3 hw, xk_wd4 hw, xk_wd5 hw, xk_wd6 hw, xk_wd7 hw, xk_wd8 hw, xm_0_0 hx, xm_0_10 hx, xm_0_11 hx, xm_0_12 hx, xm_0_13 hx, xm_0_14 hx, xm_0_15 hx, xm_0_2 hx, xm_0_5 hx, xm_0_6 hx, xm_0_7 hx, xm_0_9 hx, xm_40_0 hx, xm_40_1 hx, xm_41_0 hx, xm_44_0 hx, xm_44_1 hx, xm_73_4 hx, xm_73_5 hx, xm_73_6 hx, xm_77_1 hx, xm_77_2 hx, xm_77_3 hx, xm_77_4 hx, xm_77_5 hx, xm_77_6 hx, xm_77_7 hx, xm_77_8 hx, xm_77_9 hx, xm_87_2 hx, xm_87_3 hx, xm_87_4 hx, xm_87_5 hx, xm_87_6 hx, xm_87_7 hx, xm_87_8 hx, xm_wd10 hx hw, xm_wd11 hx hw, xm_wd4 hx hw, xm_wd5 hx hw, xm_wd6 hx hw, xm_wd7 hx hw, xm_wd8 hx hw, xm_wd9 hx hw, Bool.false_eq_true, eq_self, isk_t, i20_t, w20_t, l23_t, b21_t, b22_t, w_t, bif_t, bif_f, bif_d, if_pos, if_neg, if_true, if_false, not_true_eq_false, not_false_eq_true, Option.bind_some, Option.toList_some, Option.toList_none, List.cons_append, List.nil_append, Int.toNat_natCast, Int.reduceToNat, up_eq, up_p, up_k, sN,  X_cell, en ]
  rw [g2]
  have hX1 := xs_z hX hb g1
  have hW1 := xw_z hW hw g1
  have hK1 := xc_z hK g1
  rcases fitOf_bd (S := S) (C := C) (W := W) (p := p) (t := t) hS with hf | ⟨f0, f1, f2⟩
  · have e5 := xw_hats hW1 p0 p7 t0 t6 hh
    have hb3 := hW1.2.1 t t0 t6
    have hW2 := xw_up_print hw hW1 p0 p7 t0 t6 (v := W 5 p t) (by omega)
    have fr2 : FrX w μ1 (am_up (am_up μ1 (w + 3) t.toNat (((μ1 (w + 3) t.toNat).toNat ||| 2 ^ p.toNat : Nat) : Int)) (w + 7) (cI p t) (W 5 p t)) := fun q k hq _ _ => by simp (disch := omega) only [up_p]
    generalize hμ2 : am_up (am_up μ1 (w + 3) t.toNat (((μ1 (w + 3) t.toNat).toNat ||| 2 ^ p.toNat : Nat) : Int)) (w + 7) (cI p t) (W 5 p t) = μ2 at hW2 fr2
    generalize hW2e : wp (wp W 9 p t (μ1 (w + 8) (cI p t))) 8 p t (W 5 p t) = W2 at hW2
    have c5 : ∀ p', W2 5 p' t = W 5 p' t := fun p' => by rw [← hW2e, wp_o (by omega), wp_o (by omega)]
    have c7 : ∀ p', W2 7 p' t = W 7 p' t := fun p' => by rw [← hW2e, wp_o (by omega), wp_o (by omega)]
    have hch := fun d => X_chain (ρ := ρ) (cs := cs) (d := d) hx hw hW2 p0 p7 t0 t6 (fun p' h0 h1 => by rw [c7]; exact wi_from hWI t0 t6 p' h0 h1)
    rw [chain_congr (W := W) c5 c7] at hch
    obtain ⟨μ3, k1, k2, k3⟩ := X_print_end (ρ := ρ) (cs := cs) (d := d + 4) (x4 := -1) (v := (chain W p t : Int)) (l5 := none) (l6 := none) (l7 := none) hx hw hwd hW2 p0 p7 t0 t6
    refine ⟨μ3, frx_tr (frz_x g1) (frx_tr fr2 k1), ?_, ?_⟩
    · have e : tellW S C W p t = wp W2 9 p t (chain W p t) := by
        unfold tellW newsW
        rw [if_pos hf, ← hW2e, wp_comm (a := 8) (a' := 9) (by omega), wp_wp]
      rw [e]
      exact k2
    · rw [hf]
      rw [if_pos (by omega)] at k3
      simp (disch := omega) only [e9_28, hst, hwd, xk_0, xk_1, xk_40, xk_41, xk_42, xk_43, xk_44, xk_45, xk_46, xk_47, xk_48, xk_49, xk_50, xk_51, xk_52, xk_53, xk_54, xk_55, xk_56, xk_57, xk_58, xk_59, xk_60, xk_61, xk_62, xk_63, xk_64, xk_65, xk_66, xk_67, xk_68, xk_69, xk_70, xk_71, xk_72, xk_73, xk_74, xk_75, xk_76, xk_77, xk_78, xk_79, xk_80, xk_81, xk_82, xk_83, xk_84, xk_85, xk_86, xk_87, xk_88, xk_89, xk_90, xk_91, xk_92, xk_93, xk_94, xk_95, xk_96, xk_97, xk_98, xk_wd0 hw, xk_wd1 hw, xk_wd2 hw, xk_wd3 hw, xk_wd4 hw, xk_wd5 hw, xk_wd6 hw, xk_wd7 hw, xk_wd8 hw, xm_0_0 hx, xm_0_10 hx, xm_0_11 hx, xm_0_12 hx, xm_0_13 hx, xm_0_14 hx, xm_0_15 hx, xm_0_2 hx, xm_0_5 hx, xm_0_6 hx, xm_0_7 hx, xm_0_9 hx, xm_40_0 hx, xm_40_1 hx, xm_41_0 hx, xm_44_0 hx, xm_44_1 hx, xm_73_4 hx, xm_73_5 hx, xm_73_6 hx, xm_77_1 hx, xm_77_2 hx, xm_77_3 hx, xm_77_4 hx, xm_77_5 hx, xm_77_6 hx, xm_77_7 hx, xm_77_8 hx, xm_77_9 hx, xm_87_2 hx, xm_87_3 hx, xm_87_4 hx, xm_87_5 hx, xm_87_6 hx, xm_87_7 hx, xm_87_8 hx, xm_wd10 hx hw, xm_wd11 hx hw, xm_wd4 hx hw, xm_wd5 hx hw, xm_wd6 hx hw, xm_wd7 hx hw, xm_wd8 hx hw, xm_wd9 hx hw, Bool.false_eq_true, eq_self, isk_t, i20_t, w20_t, l23_t, b21_t, b22_t, w_t, bif_t, bif_f, bif_d, if_pos, if_neg, if_true, if_false, not_true_eq_false, not_false_eq_true, Option.bind_some, Option.toList_some, Option.toList_none, List.cons_append, List.nil_append, Int.toNat_natCast, Int.reduceToNat, up_eq, up_p, up_k, sN,  e5, zb_or1, w20_c, i20_c, hμ2, hch ]
      exact k3
  · generalize hfe : fitOf S C W p t = f at f0 f1 f2 ⊢
    have bf := hWI.2.2.2.2.2 f t f0 (by omega) t0 t6
    have e8 := xw_pH hW1 f0 (by omega) t0 t6 f2
    have ep : prtF S C W p t = wthn (lawV S (factF S C W p t (Int.natAbs (W 5 p t - W 8 f t))) 2) 999 1 := by rw [prt_wth, hfe]
    have pb := prt_bd (S := S) (C := C) (W := W) (p := p) (t := t)
    have hap := fun d => X_apart (ρ := ρ) (cs := cs) (d := d) (hh := W 8 f t) hx hw hW1 p0 p7 t0 t6 hh bw.1.1 bw.1.2 (by omega) (by omega)
    have hsf := fun d => X_setFacts (ρ := ρ) (cs := cs) (d := d) (ap := ((W 5 p t - W 8 f t).natAbs : Int)) hx hb hw hst hwd hS hC hD hWI hX1 hW1 hK1 p0 p1 t0 t6 hh
    have hfb := fact_bd hS hC hD hWI p0 p1 t0 t6 (show 0 ≤ ((W 5 p t - W 8 f t).natAbs : Int) by omega) (by omega)
    generalize hF : factF S C W p t ((W 5 p t - W 8 f t).natAbs : Int) = F at hsf hfb ep
    have hz := frz_nax μ1 F
    obtain ⟨μ2, g3, g4⟩ := X_worth (ρ := ρ) (cs := cs) (d := d + 2) (r := 2) hx hb hst hS (by omega) (by omega) hfb (xs_z hX1 hb hz) (fun i h0 h1 => nax_at μ1 F h0 h1)
    have hz2 := frz_tr hz (frz_5 g3)
    have hW2 := xw_z hW1 hw hz2
    have es := xw_space hW2
    have e0 := xw_day hW2
    have e5 := xw_hats hW2 p0 p7 t0 t6 hh
    have hb3 := hW2.2.1 t t0 t6
    have hW3 := xw_up_news hw (xw_up_sc hw hW2 (a := 2) (v := min 99999 (W 2 0 0 + prtF S C W p t)) (by omega)) t0 t6 (v := W 0 0 0)
    have hW4 := xw_up_print hw hW3 p0 p7 t0 t6 (v := W 5 p t) (by omega)
    have hu3 : am_up (am_up μ2 w 2 (min 99999 (W 2 0 0 + prtF S C W p t))) (w + 1) t.toNat (W 0 0 0) (w + 3) t.toNat = μ2 (w + 3) t.toNat := by simp (disch := omega) only [up_p]
    rw [hu3] at hW4
    have hu8 : am_up (am_up μ2 w 2 (min 99999 (W 2 0 0 + prtF S C W p t))) (w + 1) t.toNat (W 0 0 0) (w + 8) (cI p t) = μ2 (w + 8) (cI p t) := by simp (disch := omega) only [up_p]
    rw [hu8] at hW4
    have fr4 : FrX w μ2 (am_up (am_up (am_up (am_up μ2 w 2 (min 99999 (W 2 0 0 + prtF S C W p t))) (w + 1) t.toNat (W 0 0 0)) (w + 3) t.toNat (((μ2 (w + 3) t.toNat).toNat ||| 2 ^ p.toNat : Nat) : Int)) (w + 7) (cI p t) (W 5 p t)) := fun q k hq _ _ => by simp (disch := omega) only [up_p]
    generalize hμ4 : am_up (am_up (am_up (am_up μ2 w 2 (min 99999 (W 2 0 0 + prtF S C W p t))) (w + 1) t.toNat (W 0 0 0)) (w + 3) t.toNat (((μ2 (w + 3) t.toNat).toNat ||| 2 ^ p.toNat : Nat) : Int)) (w + 7) (cI p t) (W 5 p t) = μ4 at hW4 fr4
    generalize hW4e : wp (wp (wp (wp W 2 0 0 (min 99999 (W 2 0 0 + prtF S C W p t))) 4 0 t (W 0 0 0)) 9 p t (μ2 (w + 8) (cI p t))) 8 p t (W 5 p t) = W4 at hW4
    have c5 : ∀ p', W4 5 p' t = W 5 p' t := fun p' => by rw [← hW4e, wp_o (by omega), wp_o (by omega), wp_o (by omega), wp_o (by omega)]
    have c7 : ∀ p', W4 7 p' t = W 7 p' t := fun p' => by rw [← hW4e, wp_o (by omega), wp_o (by omega), wp_o (by omega), wp_o (by omega)]
    have hch := fun d => X_chain (ρ := ρ) (cs := cs) (d := d) hx hw hW4 p0 p7 t0 t6 (fun p' h0 h1 => by rw [c7]; exact wi_from hWI t0 t6 p' h0 h1)
    rw [chain_congr (W := W) c5 c7] at hch
    have etell : tellW S C W p t = wp W4 9 p t (chain W p t) := by
      unfold tellW newsW
      rw [if_neg (by rw [hfe]; omega), ← hW4e, wp_comm (a := 8) (a' := 9) (by omega), wp_wp, wp_comm (a := 2) (a' := 4) (by omega)]
    rw [etell]
    have hne : ¬ f = -1 := by omega
    have hnf : ¬ f < 0 := by omega
    rw [if_neg hne]
    cases hl : lawV S F 2 with
    | none =>
      rw [hl] at g4 ep
      have hj : jv none = -9223372036854775808 := rfl
      have hp : prtF S C W p t = 1 := ep
      rw [hj] at g4
      obtain ⟨μ5, k1, k2, k3⟩ := X_print_end (ρ := ρ) (cs := cs) (d := d + 4) (x4 := f) (v := (chain W p t : Int)) (l5 := some (.inr (.inl (-9223372036854775808)))) (l6 := none) (l7 := some (.inl (W 2 0 0 + 1))) hx hw hwd hW4 p0 p7 t0 t6
      rw [if_neg hnf] at k3
      refine ⟨μ5, frx_tr (frz_x g1) (frx_tr (frz_x hz2) (frx_tr fr4 k1)), k2, ?_⟩
      by_cases qs : W 2 0 0 + 1 ≤ 99999
      · have em : min 99999 (W 2 0 0 + prtF S C W p t) = W 2 0 0 + 1 := by omega
        rw [em] at hμ4
        simp (disch := omega) only [e9_28, e9_57, e9_61, e9_64, e9_69, e9_99, hst, hwd, xk_0, xk_1, xk_40, xk_41, xk_42, xk_43, xk_44, xk_45, xk_46, xk_47, xk_48, xk_49, xk_50, xk_51, xk_52, xk_53, xk_54, xk_55, xk_56, xk_57, xk_58, xk_59, xk_60, xk_61, xk_62, xk_63, xk_64, xk_65, xk_66, xk_67, xk_68, xk_69, xk_70, xk_71, xk_72, xk_73, xk_74, xk_75, xk_76, xk_77, xk_78, xk_79, xk_80, xk_81, xk_82, xk_83, xk_84, xk_85, xk_86, xk_87, xk_88, xk_89, xk_90, xk_91, xk_92, xk_93, xk_94, xk_95, xk_96, xk_97, xk_98, xk_wd0 hw, xk_wd1 hw, xk_wd2 hw, xk_wd3 hw, xk_wd4 hw, xk_wd5 hw, xk_wd6 hw, xk_wd7 hw, xk_wd8 hw, xm_0_0 hx, xm_0_10 hx, xm_0_11 hx, xm_0_12 hx, xm_0_13 hx, xm_0_14 hx, xm_0_15 hx, xm_0_2 hx, xm_0_5 hx, xm_0_6 hx, xm_0_7 hx, xm_0_9 hx, xm_40_0 hx, xm_40_1 hx, xm_41_0 hx, xm_44_0 hx, xm_44_1 hx, xm_73_4 hx, xm_73_5 hx, xm_73_6 hx, xm_77_1 hx, xm_77_2 hx, xm_77_3 hx, xm_77_4 hx, xm_77_5 hx, xm_77_6 hx, xm_77_7 hx, xm_77_8 hx, xm_77_9 hx, xm_87_2 hx, xm_87_3 hx, xm_87_4 hx, xm_87_5 hx, xm_87_6 hx, xm_87_7 hx, xm_87_8 hx, xm_wd10 hx hw, xm_wd11 hx hw, xm_wd4 hx hw, xm_wd5 hx hw, xm_wd6 hx hw, xm_wd7 hx hw, xm_wd8 hx hw, xm_wd9 hx hw, Bool.false_eq_true, eq_self, isk_t, i20_t, w20_t, l23_t, b21_t, b22_t, w_t, bif_t, bif_f, bif_d, if_pos, if_neg, if_true, if_false, not_true_eq_false, not_false_eq_true, Option.bind_some, Option.toList_some, Option.toList_none, List.cons_append, List.nil_append, Int.toNat_natCast, Int.reduceToNat, up_eq, up_p, up_k, sN,  X_cell, i20_c, w20_c, e8, hap, hsf, g4, lc_eq, es, e0, e5, zb_or1, hμ4, hch ]
        exact k3
      · have em : min 99999 (W 2 0 0 + prtF S C W p t) = 99999 := by omega
        rw [em] at hμ4
        simp (disch := omega) only [e9_28, e9_57, e9_61, e9_64, e9_69, e9_99, hst, hwd, xk_0, xk_1, xk_40, xk_41, xk_42, xk_43, xk_44, xk_45, xk_46, xk_47, xk_48, xk_49, xk_50, xk_51, xk_52, xk_53, xk_54, xk_55, xk_56, xk_57, xk_58, xk_59, xk_60, xk_61, xk_62, xk_63, xk_64, xk_65, xk_66, xk_67, xk_68, xk_69, xk_70, xk_71, xk_72, xk_73, xk_74, xk_75, xk_76, xk_77, xk_78, xk_79, xk_80, xk_81, xk_82, xk_83, xk_84, xk_85, xk_86, xk_87, xk_88, xk_89, xk_90, xk_91, xk_92, xk_93, xk_94, xk_95, xk_96, xk_97, xk_98, xk_wd0 hw, xk_wd1 hw, xk_wd2 hw, xk_wd3 hw, xk_wd4 hw, xk_wd5 hw, xk_wd6 hw, xk_wd7 hw, xk_wd8 hw, xm_0_0 hx, xm_0_10 hx, xm_0_11 hx, xm_0_12 hx, xm_0_13 hx, xm_0_14 hx, xm_0_15 hx, xm_0_2 hx, xm_0_5 hx, xm_0_6 hx, xm_0_7 hx, xm_0_9 hx, xm_40_0 hx, xm_40_1 hx, xm_41_0 hx, xm_44_0 hx, xm_44_1 hx, xm_73_4 hx, xm_73_5 hx, xm_73_6 hx, xm_77_1 hx, xm_77_2 hx, xm_77_3 hx, xm_77_4 hx, xm_77_5 hx, xm_77_6 hx, xm_77_7 hx, xm_77_8 hx, xm_77_9 hx, xm_87_2 hx, xm_87_3 hx, xm_87_4 hx, xm_87_5 hx, xm_87_6 hx, xm_87_7 hx, xm_87_8 hx, xm_wd10 hx hw, xm_wd11 hx hw, xm_wd4 hx hw, xm_wd5 hx hw, xm_wd6 hx hw, xm_wd7 hx hw, xm_wd8 hx hw, xm_wd9 hx hw, Bool.false_eq_true, eq_self, isk_t, i20_t, w20_t, l23_t, b21_t, b22_t, w_t, bif_t, bif_f, bif_d, if_pos, if_neg, if_true, if_false, not_true_eq_false, not_false_eq_true, Option.bind_some, Option.toList_some, Option.toList_none, List.cons_append, List.nil_append, Int.toNat_natCast, Int.reduceToNat, up_eq, up_p, up_k, sN,  X_cell, i20_c, w20_c, e8, hap, hsf, g4, lc_eq, es, e0, e5, zb_or1, hμ4, hch ]
        exact k3
    | some v =>
      rw [hl] at g4 ep
      have hj : jv (some v) = v := rfl
      have hp : prtF S C W p t = max 0 (min 999 v) := ep
      rw [hj] at g4
      have hvb := lawV_bd hS (by omega) (by omega) hfb hl
      obtain ⟨μ5, k1, k2, k3⟩ := X_print_end (ρ := ρ) (cs := cs) (d := d + 4) (x4 := f) (v := (chain W p t : Int)) (l5 := some (.inr (.inl v))) (l6 := none) (l7 := some (.inl (W 2 0 0 + max 0 (min 999 v)))) hx hw hwd hW4 p0 p7 t0 t6
      rw [if_neg hnf] at k3
      refine ⟨μ5, frx_tr (frz_x g1) (frx_tr (frz_x hz2) (frx_tr fr4 k1)), k2, ?_⟩
      by_cases qs : W 2 0 0 + max 0 (min 999 v) ≤ 99999
      · have em : min 99999 (W 2 0 0 + prtF S C W p t) = W 2 0 0 + max 0 (min 999 v) := by omega
        rw [em] at hμ4
        simp (disch := omega) only [e9_28, e9_57, e9_61, e9_64, e9_69, e9_99, hst, hwd, xk_0, xk_1, xk_40, xk_41, xk_42, xk_43, xk_44, xk_45, xk_46, xk_47, xk_48, xk_49, xk_50, xk_51, xk_52, xk_53, xk_54, xk_55, xk_56, xk_57, xk_58, xk_59, xk_60, xk_61, xk_62, xk_63, xk_64, xk_65, xk_66, xk_67, xk_68, xk_69, xk_70, xk_71, xk_72, xk_73, xk_74, xk_75, xk_76, xk_77, xk_78, xk_79, xk_80, xk_81, xk_82, xk_83, xk_84, xk_85, xk_86, xk_87, xk_88, xk_89, xk_90, xk_91, xk_92, xk_93, xk_94, xk_95, xk_96, xk_97, xk_98, xk_wd0 hw, xk_wd1 hw, xk_wd2 hw, xk_wd3 hw, xk_wd4 hw, xk_wd5 hw, xk_wd6 hw, xk_wd7 hw, xk_wd8 hw, xm_0_0 hx, xm_0_10 hx, xm_0_11 hx, xm_0_12 hx, xm_0_13 hx, xm_0_14 hx, xm_0_15 hx, xm_0_2 hx, xm_0_5 hx, xm_0_6 hx, xm_0_7 hx, xm_0_9 hx, xm_40_0 hx, xm_40_1 hx, xm_41_0 hx, xm_44_0 hx, xm_44_1 hx, xm_73_4 hx, xm_73_5 hx, xm_73_6 hx, xm_77_1 hx, xm_77_2 hx, xm_77_3 hx, xm_77_4 hx, xm_77_5 hx, xm_77_6 hx, xm_77_7 hx, xm_77_8 hx, xm_77_9 hx, xm_87_2 hx, xm_87_3 hx, xm_87_4 hx, xm_87_5 hx, xm_87_6 hx, xm_87_7 hx, xm_87_8 hx, xm_wd10 hx hw, xm_wd11 hx hw, xm_wd4 hx hw, xm_wd5 hx hw, xm_wd6 hx hw, xm_wd7 hx hw, xm_wd8 hx hw, xm_wd9 hx hw, Bool.false_eq_true, eq_self, isk_t, i20_t, w20_t, l23_t, b21_t, b22_t, w_t, bif_t, bif_f, bif_d, if_pos, if_neg, if_true, if_false, not_true_eq_false, not_false_eq_true, Option.bind_some, Option.toList_some, Option.toList_none, List.cons_append, List.nil_append, Int.toNat_natCast, Int.reduceToNat, up_eq, up_p, up_k, sN,  X_cell, i20_c, w20_c, e8, hap, hsf, g4, lc_eq, X_within, es, e0, e5, zb_or1, hμ4, hch ]
        exact k3
      · have em : min 99999 (W 2 0 0 + prtF S C W p t) = 99999 := by omega
        rw [em] at hμ4
        simp (disch := omega) only [e9_28, e9_57, e9_61, e9_64, e9_69, e9_99, hst, hwd, xk_0, xk_1, xk_40, xk_41, xk_42, xk_43, xk_44, xk_45, xk_46, xk_47, xk_48, xk_49, xk_50, xk_51, xk_52, xk_53, xk_54, xk_55, xk_56, xk_57, xk_58, xk_59, xk_60, xk_61, xk_62, xk_63, xk_64, xk_65, xk_66, xk_67, xk_68, xk_69, xk_70, xk_71, xk_72, xk_73, xk_74, xk_75, xk_76, xk_77, xk_78, xk_79, xk_80, xk_81, xk_82, xk_83, xk_84, xk_85, xk_86, xk_87, xk_88, xk_89, xk_90, xk_91, xk_92, xk_93, xk_94, xk_95, xk_96, xk_97, xk_98, xk_wd0 hw, xk_wd1 hw, xk_wd2 hw, xk_wd3 hw, xk_wd4 hw, xk_wd5 hw, xk_wd6 hw, xk_wd7 hw, xk_wd8 hw, xm_0_0 hx, xm_0_10 hx, xm_0_11 hx, xm_0_12 hx, xm_0_13 hx, xm_0_14 hx, xm_0_15 hx, xm_0_2 hx, xm_0_5 hx, xm_0_6 hx, xm_0_7 hx, xm_0_9 hx, xm_40_0 hx, xm_40_1 hx, xm_41_0 hx, xm_44_0 hx, xm_44_1 hx, xm_73_4 hx, xm_73_5 hx, xm_73_6 hx, xm_77_1 hx, xm_77_2 hx, xm_77_3 hx, xm_77_4 hx, xm_77_5 hx, xm_77_6 hx, xm_77_7 hx, xm_77_8 hx, xm_77_9 hx, xm_87_2 hx, xm_87_3 hx, xm_87_4 hx, xm_87_5 hx, xm_87_6 hx, xm_87_7 hx, xm_87_8 hx, xm_wd10 hx hw, xm_wd11 hx hw, xm_wd4 hx hw, xm_wd5 hx hw, xm_wd6 hx hw, xm_wd7 hx hw, xm_wd8 hx hw, xm_wd9 hx hw, Bool.false_eq_true, eq_self, isk_t, i20_t, w20_t, l23_t, b21_t, b22_t, w_t, bif_t, bif_f, bif_d, if_pos, if_neg, if_true, if_false, not_true_eq_false, not_false_eq_true, Option.bind_some, Option.toList_some, Option.toList_none, List.cons_append, List.nil_append, Int.toNat_natCast, Int.reduceToNat, up_eq, up_p, up_k, sN,  X_cell, i20_c, w20_c, e8, hap, hsf, g4, lc_eq, X_within, es, e0, e5, zb_or1, hμ4, hch ]
        exact k3
end XD
