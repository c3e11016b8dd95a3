/-! MATCH: the class's table -/
theorem and_not7 : ∀ a : Nat, a < 128 → ∀ b : Nat, b < 128 → am_and (a : Int) (am_xor (b : Int) (-1)) = ((a &&& (127 ^^^ b) : Nat) : Int) := by decide +kernel
theorem an_bit {wb : Nat → Nat} {t k x : Nat} (hx : x < 7) : (wb t &&& (127 ^^^ k)).testBit x = okM wb t k x := by
  have h127 : (127 : Nat).testBit x = true := by
    rw [show (127 : Nat) = 2 ^ 7 - 1 from rfl, Nat.testBit_two_pow_sub_one]
    exact decide_eq_true hx
  rw [Nat.testBit_and, Nat.testBit_xor, h127]
  unfold okM
  cases (wb t).testBit x <;> cases k.testBit x <;> rfl
theorem gMx_no {f : Nat → Nat} {ok : Nat → Bool} {base : Nat} (h : ∀ x, x < 7 → ok x = false) : ∀ n, n ≤ 7 → gMx f ok base n = base
  | 0, _ => rfl
  | n + 1, hn => by
    show (if ok n = true ∧ gMx f ok base n < 1 + f n then 1 + f n else gMx f ok base n) = base
    rw [if_neg (by rw [h n (by omega)]; simp), gMx_no h n (by omega)]
def gX (wb : Nat → Nat) (n t k x : Nat) : Nat := gMx (fun x => gM wb n (t + 1) (k ||| 2 ^ x)) (okM wb t k) (gM wb n (t + 1) k) x
section MX1
variable {ρ : Nat → Nat → Nat} {μ : Nat → Nat → Int} {cs : Nat × Nat × Nat} {d : Nat} {wb : Nat → Nat}
/-- the table, from the row t on -/
def TBL (wb : Nat → Nat) (μ : Nat → Nat → Int) (t : Nat) : Prop := ∀ t' k, t ≤ t' → t' ≤ 6 → k < 128 → μ 97 (128 * t' + k) = ((gM wb (6 - t') t' k : Nat) : Int)
theorem X_tab0 (hx : XM ρ) : ∀ (n k : Nat) (μ : Nat → Nat → Int), k + n = 128 → (∀ i, i < k → μ 97 (768 + i) = 0) → ∃ μ1, (∀ q i, ¬ (q = 97) → μ1 q i = μ q i) ∧ TBL wb μ1 6 ∧ am_E d 111 2 [some (.inr (.inr 0)), some (.inl (k : Int)), none, none, none, none, none] [] (SH, ρ, μ, cs) = am_E d 111 28 [some (.inr (.inr 0)), some (.inl 5), none, none, none, none, none] [] (SH, ρ, μ1, cs) := by
  intro n
  induction n with
  | zero =>
    intro k μ hk h
    have hk' : k = 128 := by omega
    subst hk'
    refine ⟨μ, fun _ _ _ => rfl, fun t' k h0 h1 h2 => ?_, ?_⟩
    · have : t' = 6 := by omega
      subst this
      exact h k h2
    · rw [e111_2]; simp (disch := omega) only [xk_0, xk_1, xk_40, xk_41, xk_42, xk_43, xk_44, xk_45, xk_46, xk_47, xk_48, xk_49, xk_50, xk_51, xk_52, xk_53, xk_54, xk_55, xk_56, xk_57, xk_58, xk_59, xk_60, xk_61, xk_62, xk_63, xk_64, xk_65, xk_66, xk_67, xk_68, xk_69, xk_70, xk_71, xk_72, xk_73, xk_74, xk_75, xk_76, xk_77, xk_78, xk_79, xk_80, xk_81, xk_82, xk_83, xk_84, xk_85, xk_86, xk_87, xk_88, xk_89, xk_90, xk_91, xk_92, xk_93, xk_94, xk_95, xk_96, xk_97, xk_98, xm_0_0 hx, xm_0_10 hx, xm_0_11 hx, xm_0_12 hx, xm_0_13 hx, xm_0_14 hx, xm_0_15 hx, xm_0_2 hx, xm_0_9 hx, xm_40_0 hx, xm_40_1 hx, xm_41_0 hx, xm_44_0 hx, xm_44_1 hx, xm_73_4 hx, xm_73_5 hx, xm_73_6 hx, xm_77_1 hx, xm_77_2 hx, xm_77_3 hx, xm_77_4 hx, xm_77_5 hx, xm_77_6 hx, xm_77_7 hx, xm_77_8 hx, xm_77_9 hx, xm_87_2 hx, xm_87_3 hx, xm_87_4 hx, xm_87_5 hx, xm_87_6 hx, xm_87_7 hx, xm_87_8 hx, ite_self, Bool.false_eq_true, eq_self, isk_t, i20_t, w20_t, l23_t, b21_t, b22_t, w_t, bif_t, bif_f, bif_d, if_pos, if_neg, if_true, if_false, not_true_eq_false, not_false_eq_true, Option.bind_some, Option.toList_some, Option.toList_none, List.cons_append, List.nil_append, Int.toNat_natCast, Int.reduceToNat, up_eq, up_p, up_k, sN]
  | succ n ih =>
    intro k μ hk h
    have e1 : ((k + 1 : Nat) : Int) = (k : Int) + 1 := by omega
    have e5 : (768 + (k : Int)).toNat = 768 + k := by omega
    obtain ⟨μ1, f1, f2, f3⟩ := ih (k + 1) (am_up μ 97 (768 + k) 0) (by omega) (fun i hi => by
      by_cases e : i = k
      · subst e; exact up_eq ..
      · rw [up_k (by omega)]; exact h i (by omega))
    refine ⟨μ1, fun q i hq => by rw [f1 q i hq, up_p hq], f2, ?_⟩
    rw [e1] at f3
    rw [← f3]
    rw [e111_2]; simp (disch := omega) only [xk_0, xk_1, xk_40, xk_41, xk_42, xk_43, xk_44, xk_45, xk_46, xk_47, xk_48, xk_49, xk_50, xk_51, xk_52, xk_53, xk_54, xk_55, xk_56, xk_57, xk_58, xk_59, xk_60, xk_61, xk_62, xk_63, xk_64, xk_65, xk_66, xk_67, xk_68, xk_69, xk_70, xk_71, xk_72, xk_73, xk_74, xk_75, xk_76, xk_77, xk_78, xk_79, xk_80, xk_81, xk_82, xk_83, xk_84, xk_85, xk_86, xk_87, xk_88, xk_89, xk_90, xk_91, xk_92, xk_93, xk_94, xk_95, xk_96, xk_97, xk_98, xm_0_0 hx, xm_0_10 hx, xm_0_11 hx, xm_0_12 hx, xm_0_13 hx, xm_0_14 hx, xm_0_15 hx, xm_0_2 hx, xm_0_9 hx, xm_40_0 hx, xm_40_1 hx, xm_41_0 hx, xm_44_0 hx, xm_44_1 hx, xm_73_4 hx, xm_73_5 hx, xm_73_6 hx, xm_77_1 hx, xm_77_2 hx, xm_77_3 hx, xm_77_4 hx, xm_77_5 hx, xm_77_6 hx, xm_77_7 hx, xm_77_8 hx, xm_77_9 hx, xm_87_2 hx, xm_87_3 hx, xm_87_4 hx, xm_87_5 hx, xm_87_6 hx, xm_87_7 hx, xm_87_8 hx, ite_self, Bool.false_eq_true, eq_self, isk_t, i20_t, w20_t, l23_t, b21_t, b22_t, w_t, bif_t, bif_f, bif_d, if_pos, if_neg, if_true, if_false, not_true_eq_false, not_false_eq_true, Option.bind_some, Option.toList_some, Option.toList_none, List.cons_append, List.nil_append, Int.toNat_natCast, Int.reduceToNat, up_eq, up_p, up_k, sN,  e5 ]
theorem X_tab1 (hx : XM ρ) (hw7 : ∀ t, wb t < 128) {t k : Nat} (ht : t < 6) (hk : k < 128) (hT : TBL wb μ (t + 1)) (hz : wb t &&& (127 ^^^ k) ≠ 0) {res : am_Res} (hr : am_E d 111 34 [some (.inr (.inr 0)), some (.inl (t : Int)), some (.inl ((k : Int) + 1)), none, none, none, none] [] (SH, ρ, am_up μ 97 (128 * t + k) ((gM wb (6 - t) t k : Nat) : Int), cs) = some res) : ∀ n x : Nat, x + n = 7 → am_E d 111 71 [some (.inr (.inr 0)), some (.inl (t : Int)), some (.inl (k : Int)), some (.inl ((gX wb (5 - t) t k x : Nat) : Int)), some (.inl ((wb t &&& (127 ^^^ k) : Nat) : Int)), some (.inl (x : Int)), none] [] (SH, ρ, μ, cs) = some res := by
  have hz7 : wb t &&& (127 ^^^ k) < 128 := Nat.lt_of_le_of_lt Nat.and_le_left (hw7 t)
  have hb : ∀ x : Nat, x < 7 → am_and (am_shr ((wb t &&& (127 ^^^ k) : Nat) : Int) (x : Int)) 1 = if okM wb t k x = true then 1 else 0 := fun x hx => by rw [← an_bit hx]; exact nb_bit (by omega) (by omega)
  have eG : gM wb (6 - t) t k = gX wb (5 - t) t k 7 := by
    rw [show 6 - t = (5 - t) + 1 by omega]
    all_goals rfl
  have e6 : ((t : Int) * 128 + (k : Int)).toNat = 128 * t + k := by omega
  have hzi : ((wb t &&& (127 ^^^ k) : Nat) : Int) ≠ 0 := by omega
  rw [eG] at hr
  clear eG
  generalize wb t &&& (127 ^^^ k) = z at *
  intro n
  induction n with
  | zero =>
    intro x hx'
    have hx7 : x = 7 := by omega
    subst hx7
    rw [e111_71]; simp (disch := omega) only [xk_0, xk_1, xk_40, xk_41, xk_42, xk_43, xk_44, xk_45, xk_46, xk_47, xk_48, xk_49, xk_50, xk_51, xk_52, xk_53, xk_54, xk_55, xk_56, xk_57, xk_58, xk_59, xk_60, xk_61, xk_62, xk_63, xk_64, xk_65, xk_66, xk_67, xk_68, xk_69, xk_70, xk_71, xk_72, xk_73, xk_74, xk_75, xk_76, xk_77, xk_78, xk_79, xk_80, xk_81, xk_82, xk_83, xk_84, xk_85, xk_86, xk_87, xk_88, xk_89, xk_90, xk_91, xk_92, xk_93, xk_94, xk_95, xk_96, xk_97, xk_98, xm_0_0 hx, xm_0_10 hx, xm_0_11 hx, xm_0_12 hx, xm_0_13 hx, xm_0_14 hx, xm_0_15 hx, xm_0_2 hx, xm_0_9 hx, xm_40_0 hx, xm_40_1 hx, xm_41_0 hx, xm_44_0 hx, xm_44_1 hx, xm_73_4 hx, xm_73_5 hx, xm_73_6 hx, xm_77_1 hx, xm_77_2 hx, xm_77_3 hx, xm_77_4 hx, xm_77_5 hx, xm_77_6 hx, xm_77_7 hx, xm_77_8 hx, xm_77_9 hx, xm_87_2 hx, xm_87_3 hx, xm_87_4 hx, xm_87_5 hx, xm_87_6 hx, xm_87_7 hx, xm_87_8 hx, ite_self, Bool.false_eq_true, eq_self, isk_t, i20_t, w20_t, l23_t, b21_t, b22_t, w_t, bif_t, bif_f, bif_d, if_pos, if_neg, if_true, if_false, not_true_eq_false, not_false_eq_true, Option.bind_some, Option.toList_some, Option.toList_none, List.cons_append, List.nil_append, Int.toNat_natCast, Int.reduceToNat, up_eq, up_p, up_k, sN,  e6 ]
    exact am_E_le (am_lq_of _ _ (by simp [am_leb])) hr
  | succ n ih =>
    intro x hx'
    have j := ih (x + 1) (by omega)
    have e1 : ((x + 1 : Nat) : Int) = (x : Int) + 1 := by omega
    have e2 : gX wb (5 - t) t k (x + 1) = if okM wb t k x = true ∧ gX wb (5 - t) t k x < 1 + gM wb (5 - t) (t + 1) (k ||| 2 ^ x) then 1 + gM wb (5 - t) (t + 1) (k ||| 2 ^ x) else gX wb (5 - t) t k x := rfl
    rw [e1, e2] at j
    clear e2 ih hr
    have hbx := hb x (by omega)
    generalize gX wb (5 - t) t k x = y at j ⊢
    by_cases c : okM wb t k x = true
    · rw [if_pos c] at hbx
      have hkx : k ||| 2 ^ x < 128 := Nat.or_lt_two_pow (n := 7) hk (Nat.pow_lt_pow_right (by decide) (by omega))
      have e4 : am_or (k : Int) (am_shl 1 (x : Int)) = ((k ||| 2 ^ x : Nat) : Int) := by
        have := ib_or1 (a := k) (k := (x : Int)) (by omega) (by omega) (by omega)
        rw [Int.toNat_natCast] at this
        exact this
      have hv := hT (t + 1) (k ||| 2 ^ x) (by omega) (by omega) hkx
      rw [show 6 - (t + 1) = 5 - t by omega] at hv
      have hgb := gM_b (wb := wb) (5 - t) (t + 1) (k ||| 2 ^ x)
      generalize gM wb (5 - t) (t + 1) (k ||| 2 ^ x) = F at hv hgb j
      generalize k ||| 2 ^ x = k2 at hkx e4 hv
      have e7 : (((t : Int) + 1) * 128 + (k2 : Int)).toNat = 128 * (t + 1) + k2 := by omega
      by_cases c2 : y < 1 + F
      · rw [if_pos ⟨c, c2⟩] at j
        have e8 : ((1 + F : Nat) : Int) = 1 + (F : Int) := by omega
        rw [e8] at j
        rw [e111_71]; simp (disch := omega) only [xk_0, xk_1, xk_40, xk_41, xk_42, xk_43, xk_44, xk_45, xk_46, xk_47, xk_48, xk_49, xk_50, xk_51, xk_52, xk_53, xk_54, xk_55, xk_56, xk_57, xk_58, xk_59, xk_60, xk_61, xk_62, xk_63, xk_64, xk_65, xk_66, xk_67, xk_68, xk_69, xk_70, xk_71, xk_72, xk_73, xk_74, xk_75, xk_76, xk_77, xk_78, xk_79, xk_80, xk_81, xk_82, xk_83, xk_84, xk_85, xk_86, xk_87, xk_88, xk_89, xk_90, xk_91, xk_92, xk_93, xk_94, xk_95, xk_96, xk_97, xk_98, xm_0_0 hx, xm_0_10 hx, xm_0_11 hx, xm_0_12 hx, xm_0_13 hx, xm_0_14 hx, xm_0_15 hx, xm_0_2 hx, xm_0_9 hx, xm_40_0 hx, xm_40_1 hx, xm_41_0 hx, xm_44_0 hx, xm_44_1 hx, xm_73_4 hx, xm_73_5 hx, xm_73_6 hx, xm_77_1 hx, xm_77_2 hx, xm_77_3 hx, xm_77_4 hx, xm_77_5 hx, xm_77_6 hx, xm_77_7 hx, xm_77_8 hx, xm_77_9 hx, xm_87_2 hx, xm_87_3 hx, xm_87_4 hx, xm_87_5 hx, xm_87_6 hx, xm_87_7 hx, xm_87_8 hx, ite_self, Bool.false_eq_true, eq_self, isk_t, i20_t, w20_t, l23_t, b21_t, b22_t, w_t, bif_t, bif_f, bif_d, if_pos, if_neg, if_true, if_false, not_true_eq_false, not_false_eq_true, Option.bind_some, Option.toList_some, Option.toList_none, List.cons_append, List.nil_append, Int.toNat_natCast, Int.reduceToNat, up_eq, up_p, up_k, sN,  hbx, e4, e7, hv ]
        exact am_E_le (am_lq_of _ _ (by simp [am_leb])) j
      · rw [if_neg (fun g => c2 g.2)] at j
        rw [e111_71]; simp (disch := omega) only [xk_0, xk_1, xk_40, xk_41, xk_42, xk_43, xk_44, xk_45, xk_46, xk_47, xk_48, xk_49, xk_50, xk_51, xk_52, xk_53, xk_54, xk_55, xk_56, xk_57, xk_58, xk_59, xk_60, xk_61, xk_62, xk_63, xk_64, xk_65, xk_66, xk_67, xk_68, xk_69, xk_70, xk_71, xk_72, xk_73, xk_74, xk_75, xk_76, xk_77, xk_78, xk_79, xk_80, xk_81, xk_82, xk_83, xk_84, xk_85, xk_86, xk_87, xk_88, xk_89, xk_90, xk_91, xk_92, xk_93, xk_94, xk_95, xk_96, xk_97, xk_98, xm_0_0 hx, xm_0_10 hx, xm_0_11 hx, xm_0_12 hx, xm_0_13 hx, xm_0_14 hx, xm_0_15 hx, xm_0_2 hx, xm_0_9 hx, xm_40_0 hx, xm_40_1 hx, xm_41_0 hx, xm_44_0 hx, xm_44_1 hx, xm_73_4 hx, xm_73_5 hx, xm_73_6 hx, xm_77_1 hx, xm_77_2 hx, xm_77_3 hx, xm_77_4 hx, xm_77_5 hx, xm_77_6 hx, xm_77_7 hx, xm_77_8 hx, xm_77_9 hx, xm_87_2 hx, xm_87_3 hx, xm_87_4 hx, xm_87_5 hx, xm_87_6 hx, xm_87_7 hx, xm_87_8 hx, ite_self, Bool.false_eq_true, eq_self, isk_t, i20_t, w20_t, l23_t, b21_t, b22_t, w_t, bif_t, bif_f, bif_d, if_pos, if_neg, if_true, if_false, not_true_eq_false, not_false_eq_true, Option.bind_some, Option.toList_some, Option.toList_none, List.cons_append, List.nil_append, Int.toNat_natCast, Int.reduceToNat, up_eq, up_p, up_k, sN,  hbx, e4, e7, hv ]
        exact am_E_le (am_lq_of _ _ (by simp [am_leb])) j
    · rw [if_neg c] at hbx
      rw [if_neg (fun g => c g.1)] at j
      rw [← j]
      clear j
      rw [e111_71]; simp (disch := omega) only [xk_0, xk_1, xk_40, xk_41, xk_42, xk_43, xk_44, xk_45, xk_46, xk_47, xk_48, xk_49, xk_50, xk_51, xk_52, xk_53, xk_54, xk_55, xk_56, xk_57, xk_58, xk_59, xk_60, xk_61, xk_62, xk_63, xk_64, xk_65, xk_66, xk_67, xk_68, xk_69, xk_70, xk_71, xk_72, xk_73, xk_74, xk_75, xk_76, xk_77, xk_78, xk_79, xk_80, xk_81, xk_82, xk_83, xk_84, xk_85, xk_86, xk_87, xk_88, xk_89, xk_90, xk_91, xk_92, xk_93, xk_94, xk_95, xk_96, xk_97, xk_98, xm_0_0 hx, xm_0_10 hx, xm_0_11 hx, xm_0_12 hx, xm_0_13 hx, xm_0_14 hx, xm_0_15 hx, xm_0_2 hx, xm_0_9 hx, xm_40_0 hx, xm_40_1 hx, xm_41_0 hx, xm_44_0 hx, xm_44_1 hx, xm_73_4 hx, xm_73_5 hx, xm_73_6 hx, xm_77_1 hx, xm_77_2 hx, xm_77_3 hx, xm_77_4 hx, xm_77_5 hx, xm_77_6 hx, xm_77_7 hx, xm_77_8 hx, xm_77_9 hx, xm_87_2 hx, xm_87_3 hx, xm_87_4 hx, xm_87_5 hx, xm_87_6 hx, xm_87_7 hx, xm_87_8 hx, ite_self, Bool.false_eq_true, eq_self, isk_t, i20_t, w20_t, l23_t, b21_t, b22_t, w_t, bif_t, bif_f, bif_d, if_pos, if_neg, if_true, if_false, not_true_eq_false, not_false_eq_true, Option.bind_some, Option.toList_some, Option.toList_none, List.cons_append, List.nil_append, Int.toNat_natCast, Int.reduceToNat, up_eq, up_p, up_k, sN,  hbx ]
end MX1
