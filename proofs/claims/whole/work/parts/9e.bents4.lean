/-! BENTS: the class's whole; the call -/
section BY
variable {ρ : Nat → Nat → Nat} {μ : Nat → Nat → Int} {cs : Nat × Nat × Nat} {d b w u : Nat} {S : MS} {W V : MW} {C : MC} {N a : Nat} {dy mn th ht is o : Nat → Int} {L g : Nat → Bool}
theorem si_b2 (hS : SI S) : ∀ p, 0 ≤ p → p < S 0 0 → 0 ≤ S 2 p ∧ S 2 p ≤ 9 := fun p p0 p1 => gc_ci hS (cG_gc S) p p0 p1
theorem X_bend_loop {p LD : Int} {N e : Nat} (p0 : 0 ≤ p) (p1 : p < S 0 0) (ha : a = N + e) (hLN : ∀ j, N ≤ j → L j = false) (hLth : ∀ j, L j = true → 0 ≤ th j ∧ th j < 6) (hL0 : 0 ≤ LD) (hLD : LD ≤ 60) {F : Nat → Bool} (hF : ∀ v : Nat, F v = fitF (soQ L dy mn th ht is N) S (cB S p v) LD.toNat 1 (startW S)) : ∀ (n v : Nat) (ρ : Nat → Nat → Nat) (μ : Nat → Nat → Int), RLq ρ μ b w u S W → XN μ a L dy mn th ht is → v + n = 10 → ∃ ρ' μ', FrR ρ ρ' ∧ FrA μ μ' ∧ am_E (d + 7) 124 20 [some (.inr (.inr 0)), some (.inl p), some (.inl LD), some (.inl ((bnt F v : Nat) : Int)), some (.inl (v : Int)), none, none] [] (SH, ρ, μ, cs) = some (some (.inl ((bnt F 10 : Nat) : Int)), (SH, ρ', μ', cs)) := by
  intro n
  induction n with
  | zero =>
    intro v ρ μ h hN hv
    have hv' : v = 10 := by omega
    subst hv'
    obtain ⟨hx, hρ, hb, hgs, hw46, hu64, hSR, hS, hX, hWR, hWI, hW, hday, h49, h51, h53⟩ := h; have hw : w = 46 ∨ w = 55 ∨ w = 64 := Or.inl hw46; have hu : u = 46 ∨ u = 55 ∨ u = 64 := Or.inr (Or.inr hu64); have hn5 := (xm_0_5 hx).trans hw46.symm; have hn7 := (xm_0_7 hx).trans hu64.symm; have b0 := hS.1; have b1 := hS.2.1
    refine ⟨ρ, μ, frr_rf ρ, fra_rf μ, ?_⟩
    rw [e124_20]; simp (disch := omega) only [hgs, hn5, hn7, xk_0, xk_1, xk_40, xk_41, xk_42, xk_43, xk_44, xk_45, xk_46, xk_47, xk_48, xk_49, xk_50, xk_51, xk_52, xk_53, xk_54, xk_55, xk_56, xk_57, xk_58, xk_59, xk_60, xk_61, xk_62, xk_63, xk_64, xk_65, xk_66, xk_67, xk_68, xk_69, xk_70, xk_71, xk_72, xk_73, xk_74, xk_75, xk_76, xk_77, xk_78, xk_79, xk_80, xk_81, xk_82, xk_83, xk_84, xk_85, xk_86, xk_87, xk_88, xk_89, xk_90, xk_91, xk_92, xk_93, xk_94, xk_95, xk_96, xk_97, xk_98, xk_st0 hb, xk_st1 hb, xk_st10 hb, xk_st11 hb, xk_st12 hb, xk_st13 hb, xk_st14 hb, xk_st15 hb, xk_st16 hb, xk_st17 hb, xk_st18 hb, xk_st2 hb, xk_st3 hb, xk_st4 hb, xk_st5 hb, xk_st6 hb, xk_st7 hb, xk_st8 hb, xk_st9 hb, xk_wd0 hu, xk_wd0 hw, xk_wd1 hu, xk_wd1 hw, xk_wd2 hu, xk_wd2 hw, xk_wd3 hu, xk_wd3 hw, xk_wd4 hu, xk_wd4 hw, xk_wd5 hu, xk_wd5 hw, xk_wd6 hu, xk_wd6 hw, xk_wd7 hu, xk_wd7 hw, xk_wd8 hu, xk_wd8 hw, xm_0_0 hx, xm_0_10 hx, xm_0_11 hx, xm_0_12 hx, xm_0_13 hx, xm_0_14 hx, xm_0_15 hx, xm_0_2 hx, xm_0_9 hx, xm_40_0 hx, xm_40_1 hx, xm_41_0 hx, xm_44_0 hx, xm_44_1 hx, xm_73_4 hx, xm_73_5 hx, xm_73_6 hx, xm_77_1 hx, xm_77_2 hx, xm_77_3 hx, xm_77_4 hx, xm_77_5 hx, xm_77_6 hx, xm_77_7 hx, xm_77_8 hx, xm_77_9 hx, xm_87_2 hx, xm_87_3 hx, xm_87_4 hx, xm_87_5 hx, xm_87_6 hx, xm_87_7 hx, xm_87_8 hx, xm_lw2 hx hb, xm_lw3 hx hb, xm_lw4 hx hb, xm_lw5 hx hb, xm_st1 hx hb, xm_st10 hx hb, xm_st11 hx hb, xm_st13 hx hb, xm_st14 hx hb, xm_st15 hx hb, xm_st16 hx hb, xm_st17 hx hb, xm_st2 hx hb, xm_st4 hx hb, xm_st5 hx hb, xm_st6 hx hb, xm_st7 hx hb, xm_st9 hx hb, xm_wd10 hx hu, xm_wd10 hx hw, xm_wd11 hx hu, xm_wd11 hx hw, xm_wd4 hx hu, xm_wd4 hx hw, xm_wd5 hx hu, xm_wd5 hx hw, xm_wd6 hx hu, xm_wd6 hx hw, xm_wd7 hx hu, xm_wd7 hx hw, xm_wd8 hx hu, xm_wd8 hx hw, xm_wd9 hx hu, xm_wd9 hx hw, ite_self, Bool.false_eq_true, eq_self, isk_t, i20_t, w20_t, l23_t, b21_t, b22_t, w_t, bif_t, bif_f, bif_d, if_pos, if_neg, if_true, if_false, not_true_eq_false, not_false_eq_true, Option.bind_some, Option.toList_some, Option.toList_none, List.cons_append, List.nil_append, Int.toNat_natCast, Int.reduceToNat, up_eq, up_p, up_k, sN]
  | succ n ih =>
    intro v ρ μ h hN hv
    obtain ⟨ρ1, μ1, f1, f2, f3, f4⟩ := X_tryText (cs := cs) (d := d + 4) (p := p) (v := (v : Int)) h p0 p1
    have hN1 : XN μ1 a L dy mn th ht is := xn_fr hN (fun q i q0 q1 => f2 q i (by omega))
    have hT6 := tkn_lt (L := L) (th := th) hLth a
    have hT2 := XT_tk f3 hT6
    have hN2 : XN (am_up μ1 73 7 ((tkn L th a : Nat) : Int)) a L dy mn th ht is := xn_fr hN1 (fun q i q0 q1 => am_up_no (by omega))
    have hS : SI S := h.2.2.2.2.2.2.2.1
    have hCI : CI S (tkT (cB S p (v : Int)) (tkn L th a)) := (cB_ci hS (si_b2 hS) (by omega) (by omega) : CI S (cB S p (v : Int)))
    have hk3 : (tkT (cB S p (v : Int)) (tkn L th a)).2.2.1 < 3 := by
      show kG S < 3
      rcases kG_12 S with q | q <;> omega
    obtain ⟨μ3, k1, k2⟩ := X_fit (d := d) (cs := cs) (ρ := ρ1) (p := p) (v := (v : Int)) (r := ((bnt F v : Nat) : Int)) (LD := LD) (e := e) hCI hk3 ha hLN hLD (by omega) (by omega) LD.toNat 1 0 (startW S) _ hT2 hN2 (wi_start hS) (by omega) (by omega) (by omega)
    have hag : fitF (soQ L dy mn th ht is N) S (tkT (cB S p (v : Int)) (tkn L th a)) LD.toNat 1 (startW S) = F v := by
      rw [hF v]
      refine fitF_ag (C := cB S p (v : Int)) (C' := tkT (cB S p (v : Int)) (tkn L th a)) (fun j hj => ⟨rfl, rfl, rfl, rfl, rfl, rfl, ?_, kG_12 S⟩) _ _ _ _ (fun j hj => ag_rf _ _)
      refine tkn_mem hLth a j ?_ hj
      by_cases c : N ≤ j
      · rw [hLN j c] at hj; cases hj
      · omega
    rw [hag] at k2
    have a3 : FrA μ1 μ3 := fun q k hq => by rw [k1 q k hq, am_up_no (by omega)]
    have h3 : RLq ρ1 μ3 b w u S W := rl_q f3.1 (frr_rf ρ1) (frq_a a3)
    obtain ⟨ρ4, μ4, j1, j2, j3⟩ := ih (v + 1) ρ1 μ3 h3 (xn_fr hN1 (fun q i q0 q1 => a3 q i (by omega))) (by omega)
    have e1 : ((v + 1 : Nat) : Int) = (v : Int) + 1 := by omega
    have e2 : bnt F (v + 1) = if F v = true then bnt F v ||| 2 ^ v else bnt F v := rfl
    have e3 := bnt_lt (F := F) v (by omega)
    have e5 : (if F v = true then am_or ((bnt F v : Nat) : Int) (am_shl 1 (v : Int)) else ((bnt F v : Nat) : Int)) = ((bnt F (v + 1) : Nat) : Int) := by
      rw [e2]
      by_cases c : F v = true
      · rw [if_pos c, if_pos c]
        have := ib_or1 (a := bnt F v) (k := (v : Int)) (by omega) (by omega) (by omega)
        rw [Int.toNat_natCast] at this
        exact this
      · rw [if_neg c, if_neg c]
    rw [e5] at k2
    rw [e1] at j3
    have k3 := k2 _ j3
    refine ⟨ρ4, μ4, frr_tr f1 j1, fra_tr f2 (fra_tr a3 j2), ?_⟩
    rw [← k3]
    have hx1 := f3.1.1
    have t0 := X_tk (ρ := ρ1) (cs := cs) (d := d + 6) hx1 hN1 hLth a 0 (by omega)
    have t1 : am_E (d + 6) 54 0 [some (.inr (.inr 87)), none, none] [] (SH, ρ1, μ1, cs) = some (some (.inl ((tkn L th a : Nat) : Int)), (SH, ρ1, μ1, cs)) := by
      rw [e54_0]
      exact t0
    clear k2 k3 j3 hag hF t0
    have g1 : am_E (d + 7) 124 20 [some (.inr (.inr 0)), some (.inl p), some (.inl LD), some (.inl ((bnt F v : Nat) : Int)), some (.inl (v : Int)), none, none] [] (SH, ρ, μ, cs) = am_E (d + 7) 124 34 [some (.inr (.inr 0)), some (.inl p), some (.inl LD), some (.inl ((bnt F v : Nat) : Int)), some (.inl (v : Int)), none, none] [] (SH, ρ1, μ1, cs) := by
      obtain ⟨hx, hρ, hb, hgs, hw46, hu64, hSR, hS, hX, hWR, hWI, hW, hday, h49, h51, h53⟩ := h; have hw : w = 46 ∨ w = 55 ∨ w = 64 := Or.inl hw46; have hu : u = 46 ∨ u = 55 ∨ u = 64 := Or.inr (Or.inr hu64); have hn5 := (xm_0_5 hx).trans hw46.symm; have hn7 := (xm_0_7 hx).trans hu64.symm; have b0 := hS.1; have b1 := hS.2.1
      rw [e124_20]; simp (disch := omega) only [hgs, hn5, hn7, xk_0, xk_1, xk_40, xk_41, xk_42, xk_43, xk_44, xk_45, xk_46, xk_47, xk_48, xk_49, xk_50, xk_51, xk_52, xk_53, xk_54, xk_55, xk_56, xk_57, xk_58, xk_59, xk_60, xk_61, xk_62, xk_63, xk_64, xk_65, xk_66, xk_67, xk_68, xk_69, xk_70, xk_71, xk_72, xk_73, xk_74, xk_75, xk_76, xk_77, xk_78, xk_79, xk_80, xk_81, xk_82, xk_83, xk_84, xk_85, xk_86, xk_87, xk_88, xk_89, xk_90, xk_91, xk_92, xk_93, xk_94, xk_95, xk_96, xk_97, xk_98, xk_st0 hb, xk_st1 hb, xk_st10 hb, xk_st11 hb, xk_st12 hb, xk_st13 hb, xk_st14 hb, xk_st15 hb, xk_st16 hb, xk_st17 hb, xk_st18 hb, xk_st2 hb, xk_st3 hb, xk_st4 hb, xk_st5 hb, xk_st6 hb, xk_st7 hb, xk_st8 hb, xk_st9 hb, xk_wd0 hu, xk_wd0 hw, xk_wd1 hu, xk_wd1 hw, xk_wd2 hu, xk_wd2 hw, xk_wd3 hu, xk_wd3 hw, xk_wd4 hu, xk_wd4 hw, xk_wd5 hu, xk_wd5 hw, xk_wd6 hu, xk_wd6 hw, xk_wd7 hu, xk_wd7 hw, xk_wd8 hu, xk_wd8 hw, xm_0_0 hx, xm_0_10 hx, xm_0_11 hx, xm_0_12 hx, xm_0_13 hx, xm_0_14 hx, xm_0_15 hx, xm_0_2 hx, xm_0_9 hx, xm_40_0 hx, xm_40_1 hx, xm_41_0 hx, xm_44_0 hx, xm_44_1 hx, xm_73_4 hx, xm_73_5 hx, xm_73_6 hx, xm_77_1 hx, xm_77_2 hx, xm_77_3 hx, xm_77_4 hx, xm_77_5 hx, xm_77_6 hx, xm_77_7 hx, xm_77_8 hx, xm_77_9 hx, xm_87_2 hx, xm_87_3 hx, xm_87_4 hx, xm_87_5 hx, xm_87_6 hx, xm_87_7 hx, xm_87_8 hx, xm_lw2 hx hb, xm_lw3 hx hb, xm_lw4 hx hb, xm_lw5 hx hb, xm_st1 hx hb, xm_st10 hx hb, xm_st11 hx hb, xm_st13 hx hb, xm_st14 hx hb, xm_st15 hx hb, xm_st16 hx hb, xm_st17 hx hb, xm_st2 hx hb, xm_st4 hx hb, xm_st5 hx hb, xm_st6 hx hb, xm_st7 hx hb, xm_st9 hx hb, xm_wd10 hx hu, xm_wd10 hx hw, xm_wd11 hx hu, xm_wd11 hx hw, xm_wd4 hx hu, xm_wd4 hx hw, xm_wd5 hx hu, xm_wd5 hx hw, xm_wd6 hx hu, xm_wd6 hx hw, xm_wd7 hx hu, xm_wd7 hx hw, xm_wd8 hx hu, xm_wd8 hx hw, xm_wd9 hx hu, xm_wd9 hx hw, ite_self, Bool.false_eq_true, eq_self, isk_t, i20_t, w20_t, l23_t, b21_t, b22_t, w_t, bif_t, bif_f, bif_d, if_pos, if_neg, if_true, if_false, not_true_eq_false, not_false_eq_true, Option.bind_some, Option.toList_some, Option.toList_none, List.cons_append, List.nil_append, Int.toNat_natCast, Int.reduceToNat, up_eq, up_p, up_k, sN,  f4 ]
    rw [g1]
    clear g1 f4 h
    obtain ⟨h, hst, hwd, hV, hK⟩ := f3
    obtain ⟨hx, hρ, hb, hgs, hw46, hu64, hSR, hS, hX, hWR, hWI, hW, hday, h49, h51, h53⟩ := h; have hw : w = 46 ∨ w = 55 ∨ w = 64 := Or.inl hw46; have hu : u = 46 ∨ u = 55 ∨ u = 64 := Or.inr (Or.inr hu64); have hn5 := (xm_0_5 hx).trans hw46.symm; have hn7 := (xm_0_7 hx).trans hu64.symm; have b0 := hS.1; have b1 := hS.2.1
    rw [e124_34]; simp (disch := omega) only [e124_45, hgs, hn5, hn7, xk_0, xk_1, xk_40, xk_41, xk_42, xk_43, xk_44, xk_45, xk_46, xk_47, xk_48, xk_49, xk_50, xk_51, xk_52, xk_53, xk_54, xk_55, xk_56, xk_57, xk_58, xk_59, xk_60, xk_61, xk_62, xk_63, xk_64, xk_65, xk_66, xk_67, xk_68, xk_69, xk_70, xk_71, xk_72, xk_73, xk_74, xk_75, xk_76, xk_77, xk_78, xk_79, xk_80, xk_81, xk_82, xk_83, xk_84, xk_85, xk_86, xk_87, xk_88, xk_89, xk_90, xk_91, xk_92, xk_93, xk_94, xk_95, xk_96, xk_97, xk_98, xk_st0 hb, xk_st1 hb, xk_st10 hb, xk_st11 hb, xk_st12 hb, xk_st13 hb, xk_st14 hb, xk_st15 hb, xk_st16 hb, xk_st17 hb, xk_st18 hb, xk_st2 hb, xk_st3 hb, xk_st4 hb, xk_st5 hb, xk_st6 hb, xk_st7 hb, xk_st8 hb, xk_st9 hb, xk_wd0 hu, xk_wd0 hw, xk_wd1 hu, xk_wd1 hw, xk_wd2 hu, xk_wd2 hw, xk_wd3 hu, xk_wd3 hw, xk_wd4 hu, xk_wd4 hw, xk_wd5 hu, xk_wd5 hw, xk_wd6 hu, xk_wd6 hw, xk_wd7 hu, xk_wd7 hw, xk_wd8 hu, xk_wd8 hw, xm_0_0 hx, xm_0_10 hx, xm_0_11 hx, xm_0_12 hx, xm_0_13 hx, xm_0_14 hx, xm_0_15 hx, xm_0_2 hx, xm_0_9 hx, xm_40_0 hx, xm_40_1 hx, xm_41_0 hx, xm_44_0 hx, xm_44_1 hx, xm_73_4 hx, xm_73_5 hx, xm_73_6 hx, xm_77_1 hx, xm_77_2 hx, xm_77_3 hx, xm_77_4 hx, xm_77_5 hx, xm_77_6 hx, xm_77_7 hx, xm_77_8 hx, xm_77_9 hx, xm_87_2 hx, xm_87_3 hx, xm_87_4 hx, xm_87_5 hx, xm_87_6 hx, xm_87_7 hx, xm_87_8 hx, xm_lw2 hx hb, xm_lw3 hx hb, xm_lw4 hx hb, xm_lw5 hx hb, xm_st1 hx hb, xm_st10 hx hb, xm_st11 hx hb, xm_st13 hx hb, xm_st14 hx hb, xm_st15 hx hb, xm_st16 hx hb, xm_st17 hx hb, xm_st2 hx hb, xm_st4 hx hb, xm_st5 hx hb, xm_st6 hx hb, xm_st7 hx hb, xm_st9 hx hb, xm_wd10 hx hu, xm_wd10 hx hw, xm_wd11 hx hu, xm_wd11 hx hw, xm_wd4 hx hu, xm_wd4 hx hw, xm_wd5 hx hu, xm_wd5 hx hw, xm_wd6 hx hu, xm_wd6 hx hw, xm_wd7 hx hu, xm_wd7 hx hw, xm_wd8 hx hu, xm_wd8 hx hw, xm_wd9 hx hu, xm_wd9 hx hw, ite_self, Bool.false_eq_true, eq_self, isk_t, i20_t, w20_t, l23_t, b21_t, b22_t, w_t, bif_t, bif_f, bif_d, if_pos, if_neg, if_true, if_false, not_true_eq_false, not_false_eq_true, Option.bind_some, Option.toList_some, Option.toList_none, List.cons_append, List.nil_append, Int.toNat_natCast, Int.reduceToNat, up_eq, up_p, up_k, sN,  t1 ]
theorem X_bendLeft (h : RAx ρ μ b w u S W) {p : Int} (p0 : 0 ≤ p) (p1 : p < S 0 0) : ∃ ρ' μ', FrR ρ ρ' ∧ FrY μ μ' ∧ am_E (d + 7) 124 0 [some (.inr (.inr 0)), some (.inl p), none, none, none, none, none] [] (SH, ρ, μ, cs) = some (some (.inl ((bentsV μ S p : Nat) : Int)), (SH, ρ', μ', cs)) := by
  obtain ⟨h, r2, r3, r4, r5, r6, r7, r8⟩ := h
  have h0 := h
  obtain ⟨hx, hρ, hb, hgs, hw46, hu64, hSR, hS, hX, hWR, hWI, hW, hday, h49, h51, h53⟩ := h; have hw : w = 46 ∨ w = 55 ∨ w = 64 := Or.inl hw46; have hu : u = 46 ∨ u = 55 ∨ u = 64 := Or.inr (Or.inr hu64); have hn5 := (xm_0_5 hx).trans hw46.symm; have hn7 := (xm_0_7 hx).trans hu64.symm; have b0 := hS.1; have b1 := hS.2.1
  have k := nt_km r4
  have kd := nt_d r4
  have ho : ∀ j : Nat, j < ntN μ → -1 ≤ μ 138 j ∧ μ 138 j < j := fun j hj => (r4.2.2.2.2 j (by omega)).2.1
  obtain ⟨μ1, a1, a2, a3⟩ := X_sift (ρ := ρ) (cs := cs) (d := d + 5) (N := ntN μ) (o := μ 138) hx k.2.2 ho k.1 r4.1 r4.2.2.1 r4.2.2.2.1.1 (fun j hj => (r4.2.2.2.2 j (by omega)).1)
  have hN1 := nt_xn hS r4 a1 a2
  have hLth : ∀ j, ntL μ j = true → 0 ≤ μ 90 j ∧ μ 90 j < 6 := fun j hL => by
    have l := nt_lv μ j hL
    have g := (r4.2.2.2.2 j (by omega)).2.2 l.2
    have s1 := hS.2.1
    omega
  have hLN : ∀ j, ntN μ ≤ j → ntL μ j = false := fun j hj => by
    unfold ntL lvN
    rw [decide_eq_false (by omega)]
  have r42 := r4.2.1
  have hae : (μ 99 58).toNat = ntN μ + ((μ 99 58).toNat - ntN μ) := by omega
  have l0 := X_last (ρ := ρ) (cs := cs) (d := d + 6) (μ := μ1) (dy := μ 134) (L := ntL μ) (a := (μ 99 58).toNat) hx hN1.2.1 hN1.1 hN1.2.2.1 (fun j hj hL => (hN1.2.2.2 j hj hL).1.1) (μ 99 58).toNat 0 (by omega)
  have l1 : ldy (ntL μ) (μ 134) (μ 99 58).toNat = ntD μ := by
    rw [hae]
    exact ldy_e hLN _
  rw [l1] at l0
  have l2 : am_E (d + 6) 53 0 [some (.inr (.inr 87)), none, none] [] (SH, ρ, μ1, cs) = some (some (.inl (ntD μ)), (SH, ρ, μ1, cs)) := by
    rw [e53_0]
    exact l0
  have h1 : RLq ρ μ1 b w u S W := rl_q h0 (frr_rf ρ) (fun q k hq => a1 q k (by omega))
  obtain ⟨ρ2, μ2, b1, b2, b3⟩ := X_bend_loop (cs := cs) (d := d) (p := p) (LD := ntD μ) (F := bentsF μ S p) p0 p1 hae hLN hLth kd.1 kd.2 (fun v => rfl) 10 0 ρ μ1 h1 hN1 (by omega)
  refine ⟨ρ2, μ2, b1, fun q k hq => by rw [b2 q k (by omega), a1 q k (by omega)], ?_⟩
  have b4 : am_E (d + 7) 124 20 [some (.inr (.inr 0)), some (.inl p), some (.inl (ntD μ)), some (.inl 0), some (.inl 0), none, none] [] (SH, ρ, μ1, cs) = some (some (.inl ((bentsV μ S p : Nat) : Int)), (SH, ρ2, μ2, cs)) := b3
  rw [← b4]
  clear b3 b4 l0
  rw [e124_0]; simp (disch := omega) only [e124_7, e124_14, hgs, hn5, hn7, xk_0, xk_1, xk_40, xk_41, xk_42, xk_43, xk_44, xk_45, xk_46, xk_47, xk_48, xk_49, xk_50, xk_51, xk_52, xk_53, xk_54, xk_55, xk_56, xk_57, xk_58, xk_59, xk_60, xk_61, xk_62, xk_63, xk_64, xk_65, xk_66, xk_67, xk_68, xk_69, xk_70, xk_71, xk_72, xk_73, xk_74, xk_75, xk_76, xk_77, xk_78, xk_79, xk_80, xk_81, xk_82, xk_83, xk_84, xk_85, xk_86, xk_87, xk_88, xk_89, xk_90, xk_91, xk_92, xk_93, xk_94, xk_95, xk_96, xk_97, xk_98, xk_st0 hb, xk_st1 hb, xk_st10 hb, xk_st11 hb, xk_st12 hb, xk_st13 hb, xk_st14 hb, xk_st15 hb, xk_st16 hb, xk_st17 hb, xk_st18 hb, xk_st2 hb, xk_st3 hb, xk_st4 hb, xk_st5 hb, xk_st6 hb, xk_st7 hb, xk_st8 hb, xk_st9 hb, xk_wd0 hu, xk_wd0 hw, xk_wd1 hu, xk_wd1 hw, xk_wd2 hu, xk_wd2 hw, xk_wd3 hu, xk_wd3 hw, xk_wd4 hu, xk_wd4 hw, xk_wd5 hu, xk_wd5 hw, xk_wd6 hu, xk_wd6 hw, xk_wd7 hu, xk_wd7 hw, xk_wd8 hu, xk_wd8 hw, xm_0_0 hx, xm_0_10 hx, xm_0_11 hx, xm_0_12 hx, xm_0_13 hx, xm_0_14 hx, xm_0_15 hx, xm_0_2 hx, xm_0_9 hx, xm_40_0 hx, xm_40_1 hx, xm_41_0 hx, xm_44_0 hx, xm_44_1 hx, xm_73_4 hx, xm_73_5 hx, xm_73_6 hx, xm_77_1 hx, xm_77_2 hx, xm_77_3 hx, xm_77_4 hx, xm_77_5 hx, xm_77_6 hx, xm_77_7 hx, xm_77_8 hx, xm_77_9 hx, xm_87_2 hx, xm_87_3 hx, xm_87_4 hx, xm_87_5 hx, xm_87_6 hx, xm_87_7 hx, xm_87_8 hx, xm_lw2 hx hb, xm_lw3 hx hb, xm_lw4 hx hb, xm_lw5 hx hb, xm_st1 hx hb, xm_st10 hx hb, xm_st11 hx hb, xm_st13 hx hb, xm_st14 hx hb, xm_st15 hx hb, xm_st16 hx hb, xm_st17 hx hb, xm_st2 hx hb, xm_st4 hx hb, xm_st5 hx hb, xm_st6 hx hb, xm_st7 hx hb, xm_st9 hx hb, xm_wd10 hx hu, xm_wd10 hx hw, xm_wd11 hx hu, xm_wd11 hx hw, xm_wd4 hx hu, xm_wd4 hx hw, xm_wd5 hx hu, xm_wd5 hx hw, xm_wd6 hx hu, xm_wd6 hx hw, xm_wd7 hx hu, xm_wd7 hx hw, xm_wd8 hx hu, xm_wd8 hx hw, xm_wd9 hx hu, xm_wd9 hx hw, ite_self, Bool.false_eq_true, eq_self, isk_t, i20_t, w20_t, l23_t, b21_t, b22_t, w_t, bif_t, bif_f, bif_d, if_pos, if_neg, if_true, if_false, not_true_eq_false, not_false_eq_true, Option.bind_some, Option.toList_some, Option.toList_none, List.cons_append, List.nil_append, Int.toNat_natCast, Int.reduceToNat, up_eq, up_p, up_k, sN,  a3, l2 ]
theorem C_bents (h : RA ρ μ) {p : Int} : BT ρ μ cs (fun H => am_E (d + 20) 123 0 [some (.inr (.inr 0)), some (.inl p)] [] H) (fun H => am_E (d + 20) 248 0 [some (.inr (.inr 99)), some (.inl p)] [] H) := by
  obtain ⟨b, w, u, S, W, h⟩ := h
  have hR := h
  have h := h.1
  have h0 := h
  obtain ⟨hx, hρ, hb, hgs, hw46, hu64, hSR, hS, hX, hWR, hWI, hW, hday, h49, h51, h53⟩ := h; have hw : w = 46 ∨ w = 55 ∨ w = 64 := Or.inl hw46; have hu : u = 46 ∨ u = 55 ∨ u = 64 := Or.inr (Or.inr hu64); have hn5 := (xm_0_5 hx).trans hw46.symm; have hn7 := (xm_0_7 hx).trans hu64.symm; have b0 := hS.1; have b1 := hS.2.1
  by_cases c : 0 ≤ p ∧ p < S 0 0
  · obtain ⟨ρ1, μ1, f1, f2, f3⟩ := X_bendLeft (cs := cs) (d := d + 12) hR c.1 c.2
    have hR1 : RAx ρ1 μ1 b w u S W := ra_q hR f1 (fry_q f2)
    have hR2 : RAx ρ1 (am_up μ1 99 0 0) b w u S W := ra_q hR1 (frr_rf ρ1) (frq_t0 μ1 0)
    obtain ⟨μ2, g1, g2⟩ := R_bentsOf (cs := cs) (d := d + 10) (p := p) hR2 (si_b2 hS)
    have e1 : bentsV (am_up μ1 99 0 0) S p = bentsV μ S p := bentsV_fr (fun q k hq => by rw [am_up_no (by omega), f2 q k (by omega)]) S p
    rw [e1] at g2
    refine ⟨.inl ((bentsV μ S p : Nat) : Int), ρ1, μ1, μ2, ?_, ?_, b, w, u, S, W, ra_q hR2 (frr_rf ρ1) g1⟩
    · show am_E (d + 20) 123 0 [some (.inr (.inr 0)), some (.inl p)] [] (SH, ρ, μ, cs) = _
      simp (disch := omega) only [e123_0, e123_5, e123_13, hgs, hn5, hn7, xk_0, xk_1, xk_40, xk_41, xk_42, xk_43, xk_44, xk_45, xk_46, xk_47, xk_48, xk_49, xk_50, xk_51, xk_52, xk_53, xk_54, xk_55, xk_56, xk_57, xk_58, xk_59, xk_60, xk_61, xk_62, xk_63, xk_64, xk_65, xk_66, xk_67, xk_68, xk_69, xk_70, xk_71, xk_72, xk_73, xk_74, xk_75, xk_76, xk_77, xk_78, xk_79, xk_80, xk_81, xk_82, xk_83, xk_84, xk_85, xk_86, xk_87, xk_88, xk_89, xk_90, xk_91, xk_92, xk_93, xk_94, xk_95, xk_96, xk_97, xk_98, xk_st0 hb, xk_st1 hb, xk_st10 hb, xk_st11 hb, xk_st12 hb, xk_st13 hb, xk_st14 hb, xk_st15 hb, xk_st16 hb, xk_st17 hb, xk_st18 hb, xk_st2 hb, xk_st3 hb, xk_st4 hb, xk_st5 hb, xk_st6 hb, xk_st7 hb, xk_st8 hb, xk_st9 hb, xk_wd0 hu, xk_wd0 hw, xk_wd1 hu, xk_wd1 hw, xk_wd2 hu, xk_wd2 hw, xk_wd3 hu, xk_wd3 hw, xk_wd4 hu, xk_wd4 hw, xk_wd5 hu, xk_wd5 hw, xk_wd6 hu, xk_wd6 hw, xk_wd7 hu, xk_wd7 hw, xk_wd8 hu, xk_wd8 hw, xm_0_0 hx, xm_0_10 hx, xm_0_11 hx, xm_0_12 hx, xm_0_13 hx, xm_0_14 hx, xm_0_15 hx, xm_0_2 hx, xm_0_9 hx, xm_40_0 hx, xm_40_1 hx, xm_41_0 hx, xm_44_0 hx, xm_44_1 hx, xm_73_4 hx, xm_73_5 hx, xm_73_6 hx, xm_77_1 hx, xm_77_2 hx, xm_77_3 hx, xm_77_4 hx, xm_77_5 hx, xm_77_6 hx, xm_77_7 hx, xm_77_8 hx, xm_77_9 hx, xm_87_2 hx, xm_87_3 hx, xm_87_4 hx, xm_87_5 hx, xm_87_6 hx, xm_87_7 hx, xm_87_8 hx, xm_lw2 hx hb, xm_lw3 hx hb, xm_lw4 hx hb, xm_lw5 hx hb, xm_st1 hx hb, xm_st10 hx hb, xm_st11 hx hb, xm_st13 hx hb, xm_st14 hx hb, xm_st15 hx hb, xm_st16 hx hb, xm_st17 hx hb, xm_st2 hx hb, xm_st4 hx hb, xm_st5 hx hb, xm_st6 hx hb, xm_st7 hx hb, xm_st9 hx hb, xm_wd10 hx hu, xm_wd10 hx hw, xm_wd11 hx hu, xm_wd11 hx hw, xm_wd4 hx hu, xm_wd4 hx hw, xm_wd5 hx hu, xm_wd5 hx hw, xm_wd6 hx hu, xm_wd6 hx hw, xm_wd7 hx hu, xm_wd7 hx hw, xm_wd8 hx hu, xm_wd8 hx hw, xm_wd9 hx hu, xm_wd9 hx hw, ite_self, Bool.false_eq_true, eq_self, isk_t, i20_t, w20_t, l23_t, b21_t, b22_t, w_t, bif_t, bif_f, bif_d, if_pos, if_neg, if_true, if_false, not_true_eq_false, not_false_eq_true, Option.bind_some, Option.toList_some, Option.toList_none, List.cons_append, List.nil_append, Int.toNat_natCast, Int.reduceToNat, up_eq, up_p, up_k, sN,  X_isMan hx hb hgs hX, X_isThing hx hb hgs hX, f3 ]
    · show am_E (d + 20) 248 0 [some (.inr (.inr 99)), some (.inl p)] [] (SH, ρ1, μ1, cs) = _
      clear f3 hρ hSR hWR
      have hρ := hR1.1.2.1
      have hSR : SR μ1 = S := hR1.1.2.2.2.2.2.2.1
      have hWR : WR μ1 0 = W := hR1.1.2.2.2.2.2.2.2.2.2.1
      simp (disch := (first | omega | (simp (disch := omega) only [sr_up, wr_up_o]; omega))) only [e248_0, e248_10, e248_18, ks_99, ite_self, Bool.false_eq_true, eq_self, isk_t, i20_t, w20_t, l23_t, b21_t, b22_t, w_t, bif_t, bif_f, bif_d, if_pos, if_neg, if_true, if_false, not_true_eq_false, not_false_eq_true, Option.bind_some, Option.toList_some, Option.toList_none, List.cons_append, List.nil_append, Int.toNat_natCast, Int.reduceToNat, up_eq, up_p, up_k, sN,  R_isMan hρ, R_isThing hρ, sr_up, hSR, wr_up_o, hWR, g2 ]
  · refine ⟨.inl (-1), ρ, μ, am_up μ 99 0 0, ?_, ?_, b, w, u, S, W, ra_q hR (frr_rf ρ) (frq_t0 μ 0)⟩
    · show am_E (d + 20) 123 0 [some (.inr (.inr 0)), some (.inl p)] [] (SH, ρ, μ, cs) = _
      simp (disch := omega) only [e123_0, e123_5, hgs, hn5, hn7, xk_0, xk_1, xk_40, xk_41, xk_42, xk_43, xk_44, xk_45, xk_46, xk_47, xk_48, xk_49, xk_50, xk_51, xk_52, xk_53, xk_54, xk_55, xk_56, xk_57, xk_58, xk_59, xk_60, xk_61, xk_62, xk_63, xk_64, xk_65, xk_66, xk_67, xk_68, xk_69, xk_70, xk_71, xk_72, xk_73, xk_74, xk_75, xk_76, xk_77, xk_78, xk_79, xk_80, xk_81, xk_82, xk_83, xk_84, xk_85, xk_86, xk_87, xk_88, xk_89, xk_90, xk_91, xk_92, xk_93, xk_94, xk_95, xk_96, xk_97, xk_98, xk_st0 hb, xk_st1 hb, xk_st10 hb, xk_st11 hb, xk_st12 hb, xk_st13 hb, xk_st14 hb, xk_st15 hb, xk_st16 hb, xk_st17 hb, xk_st18 hb, xk_st2 hb, xk_st3 hb, xk_st4 hb, xk_st5 hb, xk_st6 hb, xk_st7 hb, xk_st8 hb, xk_st9 hb, xk_wd0 hu, xk_wd0 hw, xk_wd1 hu, xk_wd1 hw, xk_wd2 hu, xk_wd2 hw, xk_wd3 hu, xk_wd3 hw, xk_wd4 hu, xk_wd4 hw, xk_wd5 hu, xk_wd5 hw, xk_wd6 hu, xk_wd6 hw, xk_wd7 hu, xk_wd7 hw, xk_wd8 hu, xk_wd8 hw, xm_0_0 hx, xm_0_10 hx, xm_0_11 hx, xm_0_12 hx, xm_0_13 hx, xm_0_14 hx, xm_0_15 hx, xm_0_2 hx, xm_0_9 hx, xm_40_0 hx, xm_40_1 hx, xm_41_0 hx, xm_44_0 hx, xm_44_1 hx, xm_73_4 hx, xm_73_5 hx, xm_73_6 hx, xm_77_1 hx, xm_77_2 hx, xm_77_3 hx, xm_77_4 hx, xm_77_5 hx, xm_77_6 hx, xm_77_7 hx, xm_77_8 hx, xm_77_9 hx, xm_87_2 hx, xm_87_3 hx, xm_87_4 hx, xm_87_5 hx, xm_87_6 hx, xm_87_7 hx, xm_87_8 hx, xm_lw2 hx hb, xm_lw3 hx hb, xm_lw4 hx hb, xm_lw5 hx hb, xm_st1 hx hb, xm_st10 hx hb, xm_st11 hx hb, xm_st13 hx hb, xm_st14 hx hb, xm_st15 hx hb, xm_st16 hx hb, xm_st17 hx hb, xm_st2 hx hb, xm_st4 hx hb, xm_st5 hx hb, xm_st6 hx hb, xm_st7 hx hb, xm_st9 hx hb, xm_wd10 hx hu, xm_wd10 hx hw, xm_wd11 hx hu, xm_wd11 hx hw, xm_wd4 hx hu, xm_wd4 hx hw, xm_wd5 hx hu, xm_wd5 hx hw, xm_wd6 hx hu, xm_wd6 hx hw, xm_wd7 hx hu, xm_wd7 hx hw, xm_wd8 hx hu, xm_wd8 hx hw, xm_wd9 hx hu, xm_wd9 hx hw, ite_self, Bool.false_eq_true, eq_self, isk_t, i20_t, w20_t, l23_t, b21_t, b22_t, w_t, bif_t, bif_f, bif_d, if_pos, if_neg, if_true, if_false, not_true_eq_false, not_false_eq_true, Option.bind_some, Option.toList_some, Option.toList_none, List.cons_append, List.nil_append, Int.toNat_natCast, Int.reduceToNat, up_eq, up_p, up_k, sN,  X_isMan hx hb hgs hX, X_isThing hx hb hgs hX ]
    · show am_E (d + 20) 248 0 [some (.inr (.inr 99)), some (.inl p)] [] (SH, ρ, μ, cs) = _
      simp (disch := (first | omega | (simp (disch := omega) only [sr_up, wr_up_o]; omega))) only [e248_0, e248_10, ks_99, ite_self, Bool.false_eq_true, eq_self, isk_t, i20_t, w20_t, l23_t, b21_t, b22_t, w_t, bif_t, bif_f, bif_d, if_pos, if_neg, if_true, if_false, not_true_eq_false, not_false_eq_true, Option.bind_some, Option.toList_some, Option.toList_none, List.cons_append, List.nil_append, Int.toNat_natCast, Int.reduceToNat, up_eq, up_p, up_k, sN,  R_isMan hρ, R_isThing hρ, sr_up, hSR, wr_up_o, hWR ]
end BY
