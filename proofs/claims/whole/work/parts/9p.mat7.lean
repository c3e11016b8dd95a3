/-! MATCH: the class's choice -/
def nk (k : Nat) (ch : Int) : Nat := if 0 ≤ ch then k ||| 2 ^ ch.toNat else k
def nc (c ch : Int) : Int := if 0 ≤ ch then c + 1 else c
theorem chT_pos {wb : Nat → Nat} {n t k : Nat} : (∃ y : Nat, y < 7 ∧ chT wb n t k = (y : Int) ∧ 1 + gM wb n (t + 1) (k ||| 2 ^ y) = gM wb (n + 1) t k) ∨ (chT wb n t k = -2 ∧ gM wb n (t + 1) k = gM wb (n + 1) t k) := by
  rcases chX_is (f := fun x => gM wb n (t + 1) (k ||| 2 ^ x)) (ok := okM wb t k) (G := gM wb (n + 1) t k) 7 0 with ⟨y, i1, i2, i3, i4, i5, -⟩ | ⟨i1, -⟩
  · exact Or.inl ⟨y, by omega, i5, i4⟩
  · refine Or.inr ⟨i1, ?_⟩
    have hG := gMx_is (f := fun x => gM wb n (t + 1) (k ||| 2 ^ x)) (ok := okM wb t k) (base := gM wb n (t + 1) k) 7
    have hc : chT wb n t k = if ((gM wb n (t + 1) k : Nat) : Int) ≤ mX (fun x => gM wb n (t + 1) (k ||| 2 ^ x)) (okM wb t k) 7 then aX (fun x => gM wb n (t + 1) (k ||| 2 ^ x)) (okM wb t k) 7 else -2 := chX_aX
    have i1' : chT wb n t k = -2 := i1
    rw [i1'] at hc
    have hE : gM wb (n + 1) t k = gMx (fun x => gM wb n (t + 1) (k ||| 2 ^ x)) (okM wb t k) (gM wb n (t + 1) k) 7 := rfl
    rw [hE]
    rcases mX_is (f := fun x => gM wb n (t + 1) (k ||| 2 ^ x)) (ok := okM wb t k) 7 with ⟨q1, -⟩ | ⟨a, q1, q2, q3, q4, -⟩
    · rw [if_neg (by omega)] at hG
      omega
    · by_cases e : ((gM wb n (t + 1) k : Nat) : Int) ≤ mX (fun x => gM wb n (t + 1) (k ||| 2 ^ x)) (okM wb t k) 7
      · rw [if_pos e] at hc; omega
      · rw [if_neg (by omega)] at hG
        omega
section MX3
variable {ρ : Nat → Nat → Nat} {μ : Nat → Nat → Int} {cs : Nat × Nat × Nat} {d : Nat} {wb : Nat → Nat}
theorem X_choose1 (hx : XM ρ) (hw7 : ∀ t, wb t < 128) {t k n : Nat} {c : Int} (ht : t + (n + 1) = 6) (hk : k < 128) (c0 : 0 ≤ c) (c1 : c ≤ 6) : ∀ (j x : Nat) (μ : Nat → Nat → Int), x + j = 7 → TBL wb μ 0 → μ 96 t = -2 → ∃ μ1, (∀ q i, ¬ (q = 96 ∧ i = t) → μ1 q i = μ q i) ∧ μ1 96 t = chX (fun x => gM wb n (t + 1) (k ||| 2 ^ x)) (okM wb t k) (gM wb (n + 1) t k) j x ∧ ∀ res, am_E d 112 6 [some (.inr (.inr 0)), some (.inl ((nk k (μ1 96 t) : Nat) : Int)), some (.inl (nc c (μ1 96 t))), some (.inl ((t : Int) + 1)), none, none, none] [] (SH, ρ, μ1, cs) = some res → am_E d 112 49 [some (.inr (.inr 0)), some (.inl (k : Int)), some (.inl c), some (.inl (t : Int)), some (.inl ((wb t &&& (127 ^^^ k) : Nat) : Int)), some (.inl ((gM wb (n + 1) t k : Nat) : Int)), some (.inl (x : Int))] [] (SH, ρ, μ, cs) = some res := by
  have hz7 : wb t &&& (127 ^^^ k) < 128 := Nat.lt_of_le_of_lt Nat.and_le_left (hw7 t)
  have hb : ∀ x : Nat, x < 7 → am_and (am_shr ((wb t &&& (127 ^^^ k) : Nat) : Int) (x : Int)) 1 = if okM wb t k x = true then 1 else 0 := fun x hx => by rw [← an_bit hx]; exact nb_bit (by omega) (by omega)
  generalize wb t &&& (127 ^^^ k) = z at hz7 hb ⊢
  intro j
  induction j with
  | zero =>
    intro x μ hx' hT h96
    refine ⟨μ, fun _ _ _ => rfl, h96, fun res hr => ?_⟩
    rw [h96] at hr
    unfold nk nc at hr
    rw [if_neg (by omega), if_neg (by omega)] at hr
    rw [e112_49]; simp (disch := omega) only [xk_0, xk_1, xk_40, xk_41, xk_42, xk_43, xk_44, xk_45, xk_46, xk_47, xk_48, xk_49, xk_50, xk_51, xk_52, xk_53, xk_54, xk_55, xk_56, xk_57, xk_58, xk_59, xk_60, xk_61, xk_62, xk_63, xk_64, xk_65, xk_66, xk_67, xk_68, xk_69, xk_70, xk_71, xk_72, xk_73, xk_74, xk_75, xk_76, xk_77, xk_78, xk_79, xk_80, xk_81, xk_82, xk_83, xk_84, xk_85, xk_86, xk_87, xk_88, xk_89, xk_90, xk_91, xk_92, xk_93, xk_94, xk_95, xk_96, xk_97, xk_98, xm_0_0 hx, xm_0_10 hx, xm_0_11 hx, xm_0_12 hx, xm_0_13 hx, xm_0_14 hx, xm_0_15 hx, xm_0_2 hx, xm_0_9 hx, xm_40_0 hx, xm_40_1 hx, xm_41_0 hx, xm_44_0 hx, xm_44_1 hx, xm_73_4 hx, xm_73_5 hx, xm_73_6 hx, xm_77_1 hx, xm_77_2 hx, xm_77_3 hx, xm_77_4 hx, xm_77_5 hx, xm_77_6 hx, xm_77_7 hx, xm_77_8 hx, xm_77_9 hx, xm_87_2 hx, xm_87_3 hx, xm_87_4 hx, xm_87_5 hx, xm_87_6 hx, xm_87_7 hx, xm_87_8 hx, ite_self, Bool.false_eq_true, eq_self, isk_t, i20_t, w20_t, l23_t, b21_t, b22_t, w_t, bif_t, bif_f, bif_d, if_pos, if_neg, if_true, if_false, not_true_eq_false, not_false_eq_true, Option.bind_some, Option.toList_some, Option.toList_none, List.cons_append, List.nil_append, Int.toNat_natCast, Int.reduceToNat, up_eq, up_p, up_k, sN,  h96 ]
    exact am_E_le (am_lq_of _ _ (by simp [am_leb])) hr
  | succ j ih =>
    intro x μ hx' hT h96
    have e1 : ((x + 1 : Nat) : Int) = (x : Int) + 1 := by omega
    have hbx := hb x (by omega)
    have eC : chX (fun x => gM wb n (t + 1) (k ||| 2 ^ x)) (okM wb t k) (gM wb (n + 1) t k) (j + 1) x = if okM wb t k x = true ∧ 1 + gM wb n (t + 1) (k ||| 2 ^ x) = gM wb (n + 1) t k then (x : Int) else chX (fun x => gM wb n (t + 1) (k ||| 2 ^ x)) (okM wb t k) (gM wb (n + 1) t k) j (x + 1) := rfl
    rw [eC]
    clear eC
    have hkx : k ||| 2 ^ x < 128 := Nat.or_lt_two_pow (n := 7) hk (Nat.pow_lt_pow_right (by decide) (by omega))
    have e4 : am_or (k : Int) (am_shl 1 (x : Int)) = ((k ||| 2 ^ x : Nat) : Int) := by
      have := ib_or1 (a := k) (k := (x : Int)) (by omega) (by omega) (by omega)
      rw [Int.toNat_natCast] at this
      exact this
    have hv := hT (t + 1) (k ||| 2 ^ x) (by omega) (by omega) hkx
    rw [show 6 - (t + 1) = n by omega] at hv
    have hgb := gM_b (wb := wb) n (t + 1) (k ||| 2 ^ x)
    have e7 : (((t : Int) + 1) * 128 + ((k ||| 2 ^ x : Nat) : Int)).toNat = 128 * (t + 1) + (k ||| 2 ^ x) := by omega
    by_cases c2 : okM wb t k x = true ∧ 1 + gM wb n (t + 1) (k ||| 2 ^ x) = gM wb (n + 1) t k
    · rw [if_pos c2]
      rw [if_pos c2.1] at hbx
      refine ⟨am_up μ 96 t (x : Int), fun q i hq => am_up_no hq, up_eq .., fun res hr => ?_⟩
      rw [up_eq] at hr
      unfold nk nc at hr
      rw [if_pos (by omega), if_pos (by omega), Int.toNat_natCast] at hr
      have c3 : 1 + ((gM wb n (t + 1) (k ||| 2 ^ x) : Nat) : Int) = ((gM wb (n + 1) t k : Nat) : Int) := by omega
      have h96' : am_up μ 96 t (x : Int) 96 t = (x : Int) := up_eq ..
      have g1 : am_E d 112 49 [some (.inr (.inr 0)), some (.inl (k : Int)), some (.inl c), some (.inl (t : Int)), some (.inl (z : Int)), some (.inl ((gM wb (n + 1) t k : Nat) : Int)), some (.inl (x : Int))] [] (SH, ρ, μ, cs) = am_E d 112 49 [some (.inr (.inr 0)), some (.inl (k : Int)), some (.inl c), some (.inl (t : Int)), some (.inl (z : Int)), some (.inl ((gM wb (n + 1) t k : Nat) : Int)), some (.inl ((x : Int) + 1))] [] (SH, ρ, am_up μ 96 t (x : Int), cs) := by
        clear hr ih
        rw [e112_49]; simp (disch := omega) only [xk_0, xk_1, xk_40, xk_41, xk_42, xk_43, xk_44, xk_45, xk_46, xk_47, xk_48, xk_49, xk_50, xk_51, xk_52, xk_53, xk_54, xk_55, xk_56, xk_57, xk_58, xk_59, xk_60, xk_61, xk_62, xk_63, xk_64, xk_65, xk_66, xk_67, xk_68, xk_69, xk_70, xk_71, xk_72, xk_73, xk_74, xk_75, xk_76, xk_77, xk_78, xk_79, xk_80, xk_81, xk_82, xk_83, xk_84, xk_85, xk_86, xk_87, xk_88, xk_89, xk_90, xk_91, xk_92, xk_93, xk_94, xk_95, xk_96, xk_97, xk_98, xm_0_0 hx, xm_0_10 hx, xm_0_11 hx, xm_0_12 hx, xm_0_13 hx, xm_0_14 hx, xm_0_15 hx, xm_0_2 hx, xm_0_9 hx, xm_40_0 hx, xm_40_1 hx, xm_41_0 hx, xm_44_0 hx, xm_44_1 hx, xm_73_4 hx, xm_73_5 hx, xm_73_6 hx, xm_77_1 hx, xm_77_2 hx, xm_77_3 hx, xm_77_4 hx, xm_77_5 hx, xm_77_6 hx, xm_77_7 hx, xm_77_8 hx, xm_77_9 hx, xm_87_2 hx, xm_87_3 hx, xm_87_4 hx, xm_87_5 hx, xm_87_6 hx, xm_87_7 hx, xm_87_8 hx, ite_self, Bool.false_eq_true, eq_self, isk_t, i20_t, w20_t, l23_t, b21_t, b22_t, w_t, bif_t, bif_f, bif_d, if_pos, if_neg, if_true, if_false, not_true_eq_false, not_false_eq_true, Option.bind_some, Option.toList_some, Option.toList_none, List.cons_append, List.nil_append, Int.toNat_natCast, Int.reduceToNat, up_eq, up_p, up_k, sN,  h96, hbx, e4, e7, hv, c3 ]
      rw [g1]
      clear g1 ih
      generalize am_up μ 96 t (x : Int) = μ9 at h96' hr ⊢
      by_cases c4 : x = 6
      · subst c4
        rw [e112_49]; simp (disch := omega) only [xk_0, xk_1, xk_40, xk_41, xk_42, xk_43, xk_44, xk_45, xk_46, xk_47, xk_48, xk_49, xk_50, xk_51, xk_52, xk_53, xk_54, xk_55, xk_56, xk_57, xk_58, xk_59, xk_60, xk_61, xk_62, xk_63, xk_64, xk_65, xk_66, xk_67, xk_68, xk_69, xk_70, xk_71, xk_72, xk_73, xk_74, xk_75, xk_76, xk_77, xk_78, xk_79, xk_80, xk_81, xk_82, xk_83, xk_84, xk_85, xk_86, xk_87, xk_88, xk_89, xk_90, xk_91, xk_92, xk_93, xk_94, xk_95, xk_96, xk_97, xk_98, xm_0_0 hx, xm_0_10 hx, xm_0_11 hx, xm_0_12 hx, xm_0_13 hx, xm_0_14 hx, xm_0_15 hx, xm_0_2 hx, xm_0_9 hx, xm_40_0 hx, xm_40_1 hx, xm_41_0 hx, xm_44_0 hx, xm_44_1 hx, xm_73_4 hx, xm_73_5 hx, xm_73_6 hx, xm_77_1 hx, xm_77_2 hx, xm_77_3 hx, xm_77_4 hx, xm_77_5 hx, xm_77_6 hx, xm_77_7 hx, xm_77_8 hx, xm_77_9 hx, xm_87_2 hx, xm_87_3 hx, xm_87_4 hx, xm_87_5 hx, xm_87_6 hx, xm_87_7 hx, xm_87_8 hx, ite_self, Bool.false_eq_true, eq_self, isk_t, i20_t, w20_t, l23_t, b21_t, b22_t, w_t, bif_t, bif_f, bif_d, if_pos, if_neg, if_true, if_false, not_true_eq_false, not_false_eq_true, Option.bind_some, Option.toList_some, Option.toList_none, List.cons_append, List.nil_append, Int.toNat_natCast, Int.reduceToNat, up_eq, up_p, up_k, sN,  h96', e4 ]
        exact am_E_le (am_lq_of _ _ (by simp [am_leb])) hr
      · rw [e112_49]; simp (disch := omega) only [xk_0, xk_1, xk_40, xk_41, xk_42, xk_43, xk_44, xk_45, xk_46, xk_47, xk_48, xk_49, xk_50, xk_51, xk_52, xk_53, xk_54, xk_55, xk_56, xk_57, xk_58, xk_59, xk_60, xk_61, xk_62, xk_63, xk_64, xk_65, xk_66, xk_67, xk_68, xk_69, xk_70, xk_71, xk_72, xk_73, xk_74, xk_75, xk_76, xk_77, xk_78, xk_79, xk_80, xk_81, xk_82, xk_83, xk_84, xk_85, xk_86, xk_87, xk_88, xk_89, xk_90, xk_91, xk_92, xk_93, xk_94, xk_95, xk_96, xk_97, xk_98, xm_0_0 hx, xm_0_10 hx, xm_0_11 hx, xm_0_12 hx, xm_0_13 hx, xm_0_14 hx, xm_0_15 hx, xm_0_2 hx, xm_0_9 hx, xm_40_0 hx, xm_40_1 hx, xm_41_0 hx, xm_44_0 hx, xm_44_1 hx, xm_73_4 hx, xm_73_5 hx, xm_73_6 hx, xm_77_1 hx, xm_77_2 hx, xm_77_3 hx, xm_77_4 hx, xm_77_5 hx, xm_77_6 hx, xm_77_7 hx, xm_77_8 hx, xm_77_9 hx, xm_87_2 hx, xm_87_3 hx, xm_87_4 hx, xm_87_5 hx, xm_87_6 hx, xm_87_7 hx, xm_87_8 hx, ite_self, Bool.false_eq_true, eq_self, isk_t, i20_t, w20_t, l23_t, b21_t, b22_t, w_t, bif_t, bif_f, bif_d, if_pos, if_neg, if_true, if_false, not_true_eq_false, not_false_eq_true, Option.bind_some, Option.toList_some, Option.toList_none, List.cons_append, List.nil_append, Int.toNat_natCast, Int.reduceToNat, up_eq, up_p, up_k, sN,  h96', e4 ]
        exact am_E_le (am_lq_of _ _ (by simp [am_leb])) hr
    · rw [if_neg c2]
      obtain ⟨μ1, k1, k2, k3⟩ := ih (x + 1) μ (by omega) hT h96
      refine ⟨μ1, k1, k2, fun res hr => ?_⟩
      have j := k3 res hr
      rw [e1] at j
      rw [← j]
      clear j k3 ih hr
      by_cases c3 : okM wb t k x = true
      · rw [if_pos c3] at hbx
        have c4 : ¬ 1 + ((gM wb n (t + 1) (k ||| 2 ^ x) : Nat) : Int) = ((gM wb (n + 1) t k : Nat) : Int) := fun g => c2 ⟨c3, by omega⟩
        rw [e112_49]; simp (disch := omega) only [xk_0, xk_1, xk_40, xk_41, xk_42, xk_43, xk_44, xk_45, xk_46, xk_47, xk_48, xk_49, xk_50, xk_51, xk_52, xk_53, xk_54, xk_55, xk_56, xk_57, xk_58, xk_59, xk_60, xk_61, xk_62, xk_63, xk_64, xk_65, xk_66, xk_67, xk_68, xk_69, xk_70, xk_71, xk_72, xk_73, xk_74, xk_75, xk_76, xk_77, xk_78, xk_79, xk_80, xk_81, xk_82, xk_83, xk_84, xk_85, xk_86, xk_87, xk_88, xk_89, xk_90, xk_91, xk_92, xk_93, xk_94, xk_95, xk_96, xk_97, xk_98, xm_0_0 hx, xm_0_10 hx, xm_0_11 hx, xm_0_12 hx, xm_0_13 hx, xm_0_14 hx, xm_0_15 hx, xm_0_2 hx, xm_0_9 hx, xm_40_0 hx, xm_40_1 hx, xm_41_0 hx, xm_44_0 hx, xm_44_1 hx, xm_73_4 hx, xm_73_5 hx, xm_73_6 hx, xm_77_1 hx, xm_77_2 hx, xm_77_3 hx, xm_77_4 hx, xm_77_5 hx, xm_77_6 hx, xm_77_7 hx, xm_77_8 hx, xm_77_9 hx, xm_87_2 hx, xm_87_3 hx, xm_87_4 hx, xm_87_5 hx, xm_87_6 hx, xm_87_7 hx, xm_87_8 hx, ite_self, Bool.false_eq_true, eq_self, isk_t, i20_t, w20_t, l23_t, b21_t, b22_t, w_t, bif_t, bif_f, bif_d, if_pos, if_neg, if_true, if_false, not_true_eq_false, not_false_eq_true, Option.bind_some, Option.toList_some, Option.toList_none, List.cons_append, List.nil_append, Int.toNat_natCast, Int.reduceToNat, up_eq, up_p, up_k, sN,  h96, hbx, e4, e7, hv, c4 ]
      · rw [if_neg c3] at hbx
        rw [e112_49]; simp (disch := omega) only [xk_0, xk_1, xk_40, xk_41, xk_42, xk_43, xk_44, xk_45, xk_46, xk_47, xk_48, xk_49, xk_50, xk_51, xk_52, xk_53, xk_54, xk_55, xk_56, xk_57, xk_58, xk_59, xk_60, xk_61, xk_62, xk_63, xk_64, xk_65, xk_66, xk_67, xk_68, xk_69, xk_70, xk_71, xk_72, xk_73, xk_74, xk_75, xk_76, xk_77, xk_78, xk_79, xk_80, xk_81, xk_82, xk_83, xk_84, xk_85, xk_86, xk_87, xk_88, xk_89, xk_90, xk_91, xk_92, xk_93, xk_94, xk_95, xk_96, xk_97, xk_98, xm_0_0 hx, xm_0_10 hx, xm_0_11 hx, xm_0_12 hx, xm_0_13 hx, xm_0_14 hx, xm_0_15 hx, xm_0_2 hx, xm_0_9 hx, xm_40_0 hx, xm_40_1 hx, xm_41_0 hx, xm_44_0 hx, xm_44_1 hx, xm_73_4 hx, xm_73_5 hx, xm_73_6 hx, xm_77_1 hx, xm_77_2 hx, xm_77_3 hx, xm_77_4 hx, xm_77_5 hx, xm_77_6 hx, xm_77_7 hx, xm_77_8 hx, xm_77_9 hx, xm_87_2 hx, xm_87_3 hx, xm_87_4 hx, xm_87_5 hx, xm_87_6 hx, xm_87_7 hx, xm_87_8 hx, ite_self, Bool.false_eq_true, eq_self, isk_t, i20_t, w20_t, l23_t, b21_t, b22_t, w_t, bif_t, bif_f, bif_d, if_pos, if_neg, if_true, if_false, not_true_eq_false, not_false_eq_true, Option.bind_some, Option.toList_some, Option.toList_none, List.cons_append, List.nil_append, Int.toNat_natCast, Int.reduceToNat, up_eq, up_p, up_k, sN,  h96, hbx ]
end MX3
