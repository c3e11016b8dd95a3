/-! MATCH: the class's whole; the call -/
theorem okM_0 {wb : Nat → Nat} {t k x : Nat} (h : wb t = 0) : okM wb t k x = false := by
  unfold okM
  rw [h]
  simp
theorem gM_e {wb : Nat → Nat} {T : Nat} (h : ∀ t, T ≤ t → wb t = 0) : ∀ (e n t k : Nat), t + n = T → gM wb (n + e) t k = gM wb n t k := by
  have h0 : ∀ (e t k : Nat), T ≤ t → gM wb e t k = 0 := by
    intro e
    induction e with
    | zero => intro t k _; rfl
    | succ e ih =>
      intro t k ht
      show gMx (fun x => gM wb e (t + 1) (k ||| 2 ^ x)) (okM wb t k) (gM wb e (t + 1) k) 7 = 0
      rw [gMx_no (fun x _ => okM_0 (h t ht)) 7 (Nat.le_refl 7)]
      exact ih (t + 1) k (by omega)
  intro e n
  induction n with
  | zero => intro t k ht; rw [Nat.zero_add]; exact h0 e t k (by omega)
  | succ n ih =>
    intro t k ht
    rw [show n + 1 + e = (n + e) + 1 by omega]
    show gMx (fun x => gM wb (n + e) (t + 1) (k ||| 2 ^ x)) (okM wb t k) (gM wb (n + e) (t + 1) k) 7 = gMx (fun x => gM wb n (t + 1) (k ||| 2 ^ x)) (okM wb t k) (gM wb n (t + 1) k) 7
    have e1 : (fun x => gM wb (n + e) (t + 1) (k ||| 2 ^ x)) = fun x => gM wb n (t + 1) (k ||| 2 ^ x) := funext fun x => ih (t + 1) _ (by omega)
    rw [e1, ih (t + 1) k (by omega)]
theorem chM_e {wb : Nat → Nat} {T : Nat} (h : ∀ t, T ≤ t → wb t = 0) : ∀ (e n t k i : Nat), t + n = T → chM wb (n + e) t k i = if i < T then chM wb n t k i else -2 := by
  have h0 : ∀ (e t k i : Nat), T ≤ t → chM wb e t k i = -2 := by
    intro e
    induction e with
    | zero => intro t k i _; rfl
    | succ e ih =>
      intro t k i ht
      have ec : chT wb e t k = -2 := by
        rcases chX_is (f := fun x => gM wb e (t + 1) (k ||| 2 ^ x)) (ok := okM wb t k) (G := gM wb (e + 1) t k) 7 0 with ⟨y, i1, i2, i3, -⟩ | ⟨i1, -⟩
        · rw [okM_0 (h t ht)] at i3; cases i3
        · exact i1
      show (if i = t then chT wb e t k else chM wb e (t + 1) (if 0 ≤ chT wb e t k then k ||| 2 ^ (chT wb e t k).toNat else k) i) = -2
      split
      · exact ec
      · exact ih (t + 1) _ i (by omega)
  intro e n
  induction n with
  | zero =>
    intro t k i ht
    rw [Nat.zero_add, h0 e t k i (by omega)]
    split <;> rfl
  | succ n ih =>
    intro t k i ht
    rw [show n + 1 + e = (n + e) + 1 by omega]
    have ec : chT wb (n + e) t k = chT wb n t k := by
      unfold chT
      have e1 : (fun x => gM wb (n + e) (t + 1) (k ||| 2 ^ x)) = fun x => gM wb n (t + 1) (k ||| 2 ^ x) := funext fun x => gM_e h e n (t + 1) _ (by omega)
      rw [e1, show n + e + 1 = (n + 1) + e by omega, gM_e h e (n + 1) t k ht]
    show (if i = t then chT wb (n + e) t k else chM wb (n + e) (t + 1) (if 0 ≤ chT wb (n + e) t k then k ||| 2 ^ (chT wb (n + e) t k).toNat else k) i) = if i < T then (if i = t then chT wb n t k else chM wb n (t + 1) (if 0 ≤ chT wb n t k then k ||| 2 ^ (chT wb n t k).toNat else k) i) else -2
    rw [ec]
    by_cases c : i = t
    · rw [if_pos c, if_pos (by omega), if_pos c]
    · rw [if_neg c, if_neg c, ih (t + 1) _ i (by omega)]
section MX4
variable {ρ : Nat → Nat → Nat} {μ : Nat → Nat → Int} {cs : Nat × Nat × Nat} {d b w u : Nat} {S : MS} {W : MW} {wb : Nat → Nat}
theorem X_choose2 (hx : XM ρ) (hw7 : ∀ t, wb t < 128) : ∀ (n t k : Nat) (c : Int) (μ : Nat → Nat → Int), t + n = 6 → k < 128 → 0 ≤ c → c ≤ t → TBL wb μ 0 → (∀ i, i < 6 → μ 95 i = (wb i : Int)) → ∃ μ1, (∀ q i, ¬ (q = 96 ∧ t ≤ i) → μ1 q i = μ q i) ∧ (∀ i, t ≤ i → i < 6 → μ1 96 i = chM wb n t k i) ∧ am_E d 112 6 [some (.inr (.inr 0)), some (.inl (k : Int)), some (.inl c), some (.inl (t : Int)), none, none, none] [] (SH, ρ, μ, cs) = some (some (.inl (c + ((gM wb n t k : Nat) : Int))), (SH, ρ, μ1, cs)) := by
  intro n
  induction n with
  | zero =>
    intro t k c μ ht hk c0 c1 hT hv
    have ht' : t = 6 := by omega
    subst ht'
    refine ⟨μ, fun _ _ _ => rfl, fun i h0 h1 => by omega, ?_⟩
    have e : c + ((gM wb 0 6 k : Nat) : Int) = c := by show c + ((0 : Nat) : Int) = c; omega
    rw [e]
    rw [e112_6]; simp (disch := omega) only [xk_0, xk_1, xk_40, xk_41, xk_42, xk_43, xk_44, xk_45, xk_46, xk_47, xk_48, xk_49, xk_50, xk_51, xk_52, xk_53, xk_54, xk_55, xk_56, xk_57, xk_58, xk_59, xk_60, xk_61, xk_62, xk_63, xk_64, xk_65, xk_66, xk_67, xk_68, xk_69, xk_70, xk_71, xk_72, xk_73, xk_74, xk_75, xk_76, xk_77, xk_78, xk_79, xk_80, xk_81, xk_82, xk_83, xk_84, xk_85, xk_86, xk_87, xk_88, xk_89, xk_90, xk_91, xk_92, xk_93, xk_94, xk_95, xk_96, xk_97, xk_98, xm_0_0 hx, xm_0_10 hx, xm_0_11 hx, xm_0_12 hx, xm_0_13 hx, xm_0_14 hx, xm_0_15 hx, xm_0_2 hx, xm_0_9 hx, xm_40_0 hx, xm_40_1 hx, xm_41_0 hx, xm_44_0 hx, xm_44_1 hx, xm_73_4 hx, xm_73_5 hx, xm_73_6 hx, xm_77_1 hx, xm_77_2 hx, xm_77_3 hx, xm_77_4 hx, xm_77_5 hx, xm_77_6 hx, xm_77_7 hx, xm_77_8 hx, xm_77_9 hx, xm_87_2 hx, xm_87_3 hx, xm_87_4 hx, xm_87_5 hx, xm_87_6 hx, xm_87_7 hx, xm_87_8 hx, ite_self, Bool.false_eq_true, eq_self, isk_t, i20_t, w20_t, l23_t, b21_t, b22_t, w_t, bif_t, bif_f, bif_d, if_pos, if_neg, if_true, if_false, not_true_eq_false, not_false_eq_true, Option.bind_some, Option.toList_some, Option.toList_none, List.cons_append, List.nil_append, Int.toNat_natCast, Int.reduceToNat, up_eq, up_p, up_k, sN]
  | succ n ih =>
    intro t k c μ ht hk c0 c1 hT hv
    have e1 : ((t + 1 : Nat) : Int) = (t : Int) + 1 := by omega
    obtain ⟨μ1, f1, f2, f3⟩ := X_choose1 (ρ := ρ) (cs := cs) (d := d) hx hw7 (t := t) (k := k) (n := n) (c := c) ht hk c0 (by omega) 7 0 (am_up μ 96 t (-2)) (by omega) (fun t' k' a0 a1 a2 => by rw [up_p (by omega)]; exact hT t' k' a0 a1 a2) (up_eq ..)
    have f2' : μ1 96 t = chT wb n t k := f2
    rw [f2'] at f3
    have fr : ∀ q i, ¬ (q = 96 ∧ i = t) → μ1 q i = μ q i := fun q i hq => by rw [f1 q i hq, am_up_no hq]
    have hnk : nk k (chT wb n t k) < 128 := by
      unfold nk
      rcases chT_pos (wb := wb) (n := n) (t := t) (k := k) with ⟨y, q1, q2, -⟩ | ⟨q1, -⟩
      · rw [q2, if_pos (by omega), Int.toNat_natCast]
        exact Nat.or_lt_two_pow (n := 7) hk (Nat.pow_lt_pow_right (by decide) (by omega))
      · rw [q1, if_neg (by omega)]; exact hk
    have hnc : nc c (chT wb n t k) + ((gM wb n (t + 1) (nk k (chT wb n t k)) : Nat) : Int) = c + ((gM wb (n + 1) t k : Nat) : Int) ∧ 0 ≤ nc c (chT wb n t k) ∧ nc c (chT wb n t k) ≤ ((t + 1 : Nat) : Int) := by
      unfold nk nc
      rcases chT_pos (wb := wb) (n := n) (t := t) (k := k) with ⟨y, q1, q2, q3⟩ | ⟨q1, q3⟩
      · rw [q2, if_pos (by omega), if_pos (by omega), Int.toNat_natCast]
        omega
      · rw [q1, if_neg (by omega), if_neg (by omega)]
        omega
    obtain ⟨μ2, k1, k2, k3⟩ := ih (t + 1) (nk k (chT wb n t k)) (nc c (chT wb n t k)) μ1 (by omega) hnk hnc.2.1 hnc.2.2 (fun t' k' a0 a1 a2 => by rw [fr _ _ (by omega)]; exact hT t' k' a0 a1 a2) (fun i hi => by rw [fr _ _ (by omega)]; exact hv i hi)
    refine ⟨μ2, fun q i hq => by rw [k1 q i (by omega), fr q i (by omega)], fun i h0 h1 => ?_, ?_⟩
    · have ec : chM wb (n + 1) t k i = if i = t then chT wb n t k else chM wb n (t + 1) (nk k (chT wb n t k)) i := rfl
      rw [ec]
      by_cases e : i = t
      · subst e; rw [if_pos rfl, k1 _ _ (by omega)]; exact f2'
      · rw [if_neg e]; exact k2 i (by omega) h1
    · rw [hnc.1, e1] at k3
      have j := f3 _ k3
      have e0 : ((0 : Nat) : Int) = 0 := rfl
      rw [e0] at j
      rw [← j]
      have hb := hT t k (by omega) (by omega) hk
      rw [show 6 - t = n + 1 by omega] at hb
      have hwt := hv t (by omega)
      have e4 := and_not7 (wb t) (hw7 t) k hk
      have e6 : ((t : Int) * 128 + (k : Int)).toNat = 128 * t + k := by omega
      clear j k3 f3 ih
      rw [e112_6]; simp (disch := omega) only [xk_0, xk_1, xk_40, xk_41, xk_42, xk_43, xk_44, xk_45, xk_46, xk_47, xk_48, xk_49, xk_50, xk_51, xk_52, xk_53, xk_54, xk_55, xk_56, xk_57, xk_58, xk_59, xk_60, xk_61, xk_62, xk_63, xk_64, xk_65, xk_66, xk_67, xk_68, xk_69, xk_70, xk_71, xk_72, xk_73, xk_74, xk_75, xk_76, xk_77, xk_78, xk_79, xk_80, xk_81, xk_82, xk_83, xk_84, xk_85, xk_86, xk_87, xk_88, xk_89, xk_90, xk_91, xk_92, xk_93, xk_94, xk_95, xk_96, xk_97, xk_98, xm_0_0 hx, xm_0_10 hx, xm_0_11 hx, xm_0_12 hx, xm_0_13 hx, xm_0_14 hx, xm_0_15 hx, xm_0_2 hx, xm_0_9 hx, xm_40_0 hx, xm_40_1 hx, xm_41_0 hx, xm_44_0 hx, xm_44_1 hx, xm_73_4 hx, xm_73_5 hx, xm_73_6 hx, xm_77_1 hx, xm_77_2 hx, xm_77_3 hx, xm_77_4 hx, xm_77_5 hx, xm_77_6 hx, xm_77_7 hx, xm_77_8 hx, xm_77_9 hx, xm_87_2 hx, xm_87_3 hx, xm_87_4 hx, xm_87_5 hx, xm_87_6 hx, xm_87_7 hx, xm_87_8 hx, ite_self, Bool.false_eq_true, eq_self, isk_t, i20_t, w20_t, l23_t, b21_t, b22_t, w_t, bif_t, bif_f, bif_d, if_pos, if_neg, if_true, if_false, not_true_eq_false, not_false_eq_true, Option.bind_some, Option.toList_some, Option.toList_none, List.cons_append, List.nil_append, Int.toNat_natCast, Int.reduceToNat, up_eq, up_p, up_k, sN,  e6, hb, hwt, e4 ]
end MX4
