/-! TEXT: the class's law lines -/
section XSW
variable {ρ : Nat → Nat → Nat} {cs : Nat × Nat × Nat} {d n c B r : Nat} {b : Nat → Int}
def FK (c B r : Nat) (μ μ' : Nat → Nat → Int) : Prop := ∀ q k, ¬ ((q = 41 ∧ 3 ≤ k ∧ k ≤ 6) ∨ q = 44 ∨ q = 45 ∨ (q = c + 14 ∧ k < 2) ∨ (q = c + 15 ∧ B ≤ k) ∨ (q = c + 16 ∧ B ≤ k) ∨ (q = c + 18 ∧ k = r)) → μ' q k = μ q k
theorem fk_tr {x y z : Nat → Nat → Int} (h1 : FK c B r x y) (h2 : FK c B r y z) : FK c B r x z := fun q k h => (h2 q k h).trans (h1 q k h)
theorem fk_ft {x y : Nat → Nat → Int} (h : FT x y) : FK c B r x y := fun q k hq => h q k (by omega)
theorem fk_fl {x y : Nat → Nat → Int} (h : FL c B x y) : FK c B r x y := fun q k hq => h q k (by omega)
def XSo (ρ : Nat → Nat → Nat) (cs : Nat × Nat × Nat) (b : Nat → Int) (n c B r : Nat) (μ : Nat → Nat → Int) (run : Option am_Res) (x : PE (List (Int × Int) × Int × Nat)) : Prop := ∃ μ', FK c B r μ μ' ∧ match x with
  | .inl q => μ' 41 6 = (q.2 : Int) ∧ q.1 ≠ 0 ∧ run = some (some (.inl q.1), (SH, ρ, μ', cs))
  | .inr z => XTk ρ μ' b n z.2.2 ∧ μ' (c + 14) 0 = z.2.1 ∧ μ' (c + 14) 1 = ((B + z.1.length : Nat) : Int) ∧ OS (μ' (c + 15)) (μ' (c + 16)) B z.1 ∧ μ' (c + 18) r = ((B + z.1.length : Nat) : Int) ∧ run = some (some (.inl 0), (SH, ρ, μ', cs))
theorem xso_le {μ μ1 : Nat → Nat → Int} {run run' : Option am_Res} {x : PE (List (Int × Int) × Int × Nat)} (h : XSo ρ cs b n c B r μ1 run' x) (hf : FK c B r μ μ1) (hle : ∀ res, run' = some res → run = some res) : XSo ρ cs b n c B r μ run x := by
  obtain ⟨μ', f1, f2⟩ := h
  refine ⟨μ', fk_tr hf f1, ?_⟩
  cases x with
  | inl q => exact ⟨f2.1, f2.2.1, hle _ f2.2.2⟩
  | inr z => exact ⟨f2.1, f2.2.1, f2.2.2.1, f2.2.2.2.1, f2.2.2.2.2.1, hle _ f2.2.2.2.2.2⟩
theorem tv_39 {v : Int} {s s' : SS} (h : tvS 39 v s = .inr s') : False := by
  unfold tvS at h
  rw [if_neg (by decide), if_neg (by decide), if_neg (by omega), if_neg (by decide)] at h
  cases h
theorem tb_39 {s s' : SS} (h : tbS 39 s = .inr s') : False := by
  unfold tbS at h
  rw [if_neg (by omega), if_pos (Or.inl (by decide))] at h
  cases h
theorem X_sy (hx : XM ρ) (hb : c = 2 ∨ c = 21) (hL : ρ 44 4 = c + 14) (hr : r < 3) : ∀ (f a : Nat) (due : Bool) (s : SS) (i : Nat) (x : Int) {μ : Nat → Nat → Int}, x = (if due = true then 1 else 0) → n - a + 1 ≤ f → i ≤ a → XTk ρ μ b n a → LM μ c B s → SV B s → SG s.1 → XSo ρ cs b n c B r μ (am_E (d + 4) 21 52 [some (.inr (.inr 44)), some (.inr (.inr (c + 14))), some (.inl (r : Int)), some (.inl x), some (.inl (i : Int)), none] [] (SH, ρ, μ, cs)) (syF b n f a due s) := by
  intro f
  induction f with
  | zero => intro a due s i x μ _ hf; omega
  | succ f ih =>
    intro a due s i x μ hxd hf hi hT hM hV hG
    have hn : n ≤ 700 := hT.2.1
    have ha : a ≤ n := hT.2.2.1
    obtain ⟨μ1, f1, f2, f3, f4⟩ := X_next (d := d + 1) (cs := cs) hx hT
    obtain ⟨k4, k6, k5a, k5⟩ := f3
    have tb := tok_bd (b := b) ha
    have hM1 : LM μ1 c B s := lm_ext hM (fun q k h => f1 q k (by omega))
    have ho := hM1.2.1
    have hra := fun (μ : Nat → Nat → Int) (k : Int) (d : Nat) => X_rank (ρ := ρ) (μ := μ) (cs := cs) (d := d) (k := k)
    generalize ht : tok b n a = t at *
    have esy : syF b n (f + 1) a due s = if due = false ∧ t.1 = 27 ∧ s.2.1 = 0 then .inr ((stl 1 s.1 s.2.2.2).2, s.2.2.1, t.2.2.2) else match (if due = true then tvS t.1 t.2.1 s else tbS t.1 s) with
      | .inl q => .inl (q, t.2.2.1)
      | .inr s' => syF b n f t.2.2.2 (dueB t.1) s' := by rw [← ht]; rfl
    rw [esy]
    have hrest : ∀ (s' : SS) (μ2 : Nat → Nat → Int), t.1 ≠ 39 → FL c B μ1 μ2 → LM μ2 c B s' → SV B s' → SG s'.1 → XSo ρ cs b n c B r μ (am_E (d + 4) 21 128 [some (.inr (.inr 44)), some (.inr (.inr (c + 14))), some (.inl (r : Int)), some (.inl x), some (.inl (i : Int)), none] [.inl 0] (SH, ρ, μ2, cs)) (syF b n f t.2.2.2 (dueB t.1) s') := by
      intro s' μ2 h39 hFL hM2 hV2 hG2
      have h9 := tb.2.2.2 h39
      have hT2 : XTk ρ μ2 b n t.2.2.2 := xt_fr f2 rfl (fun i => hFL _ _ (by omega)) (fun i => hFL _ _ (by omega)) (hFL _ _ (by omega)) (hFL _ _ (by omega))
      have hz := ih t.2.2.2 (dueB t.1) s' (i + 1) (if dueB t.1 = true then 1 else 0) (μ := μ2) rfl (by have := tb.2.2.1; omega) (by omega) hT2 hM2 hV2 hG2
      refine xso_le hz (fk_tr (fk_ft f1) (fk_fl hFL)) (fun res hres => ?_)
      have k4' : μ2 41 4 = t.1 := (hFL _ _ (by omega)).trans k4
      rw [show ((i + 1 : Nat) : Int) = (i : Int) + 1 by omega] at hres
      have hres2 := am_E_le (lv' := [some (.inr (.inr 44)), some (.inr (.inr (c + 14))), some (.inl (r : Int)), some (.inl (if dueB t.1 = true then 1 else 0)), some (.inl ((i : Int) + 1)), some (.inl 0)]) (am_lq_of _ _ (by simp [am_leb])) hres
      have hbd := rnk_bd t.1
      by_cases c1 : 0 < rnk t.1
      · have hdb : dueB t.1 = true := decide_eq_true (Or.inl c1)
        rw [hdb, if_pos rfl] at hres2
        simp (disch := omega) only [e21_128, e21_148, xk_0, xk_1, xk_40, xk_41, xk_42, xk_43, xk_44, xk_45, xk_46, xk_47, xk_48, xk_49, xk_50, xk_51, xk_52, xk_53, xk_54, xk_55, xk_56, xk_57, xk_58, xk_59, xk_60, xk_61, xk_62, xk_63, xk_64, xk_65, xk_66, xk_67, xk_68, xk_69, xk_70, xk_71, xk_72, xk_73, xk_74, xk_75, xk_76, xk_77, xk_78, xk_79, xk_80, xk_81, xk_82, xk_83, xk_84, xk_85, xk_86, xk_87, xk_88, xk_89, xk_90, xk_91, xk_92, xk_93, xk_94, xk_95, xk_96, xk_97, xk_98, xk_st0 hb, xk_st1 hb, xk_st10 hb, xk_st11 hb, xk_st12 hb, xk_st13 hb, xk_st14 hb, xk_st15 hb, xk_st16 hb, xk_st17 hb, xk_st18 hb, xk_st2 hb, xk_st3 hb, xk_st4 hb, xk_st5 hb, xk_st6 hb, xk_st7 hb, xk_st8 hb, xk_st9 hb, xm_0_0 hx, xm_0_10 hx, xm_0_11 hx, xm_0_12 hx, xm_0_13 hx, xm_0_14 hx, xm_0_15 hx, xm_0_2 hx, xm_0_9 hx, xm_40_0 hx, xm_40_1 hx, xm_41_0 hx, xm_44_0 hx, xm_44_1 hx, xm_73_4 hx, xm_73_5 hx, xm_73_6 hx, xm_77_1 hx, xm_77_2 hx, xm_77_3 hx, xm_77_4 hx, xm_77_5 hx, xm_77_6 hx, xm_77_7 hx, xm_77_8 hx, xm_77_9 hx, xm_87_2 hx, xm_87_3 hx, xm_87_4 hx, xm_87_5 hx, xm_87_6 hx, xm_87_7 hx, xm_87_8 hx, xm_lw2 hx hb, xm_lw3 hx hb, xm_lw4 hx hb, xm_lw5 hx hb, xm_st1 hx hb, xm_st10 hx hb, xm_st11 hx hb, xm_st13 hx hb, xm_st14 hx hb, xm_st15 hx hb, xm_st16 hx hb, xm_st17 hx hb, xm_st2 hx hb, xm_st4 hx hb, xm_st5 hx hb, xm_st6 hx hb, xm_st7 hx hb, xm_st9 hx hb, ite_self, Bool.false_eq_true, eq_self, isk_t, i20_t, w20_t, l23_t, b21_t, b22_t, w_t, bif_t, bif_f, bif_d, if_pos, if_neg, if_true, if_false, not_true_eq_false, not_false_eq_true, Option.bind_some, Option.toList_some, Option.toList_none, List.cons_append, List.nil_append, Int.toNat_natCast, Int.reduceToNat, up_eq, up_p, up_k, sN,  k4', hra ]
        exact hres2
      · by_cases c2 : t.1 = 25
        · have hdb : dueB t.1 = true := decide_eq_true (Or.inr c2)
          rw [hdb, if_pos rfl] at hres2
          simp (disch := omega) only [e21_128, e21_148, xk_0, xk_1, xk_40, xk_41, xk_42, xk_43, xk_44, xk_45, xk_46, xk_47, xk_48, xk_49, xk_50, xk_51, xk_52, xk_53, xk_54, xk_55, xk_56, xk_57, xk_58, xk_59, xk_60, xk_61, xk_62, xk_63, xk_64, xk_65, xk_66, xk_67, xk_68, xk_69, xk_70, xk_71, xk_72, xk_73, xk_74, xk_75, xk_76, xk_77, xk_78, xk_79, xk_80, xk_81, xk_82, xk_83, xk_84, xk_85, xk_86, xk_87, xk_88, xk_89, xk_90, xk_91, xk_92, xk_93, xk_94, xk_95, xk_96, xk_97, xk_98, xk_st0 hb, xk_st1 hb, xk_st10 hb, xk_st11 hb, xk_st12 hb, xk_st13 hb, xk_st14 hb, xk_st15 hb, xk_st16 hb, xk_st17 hb, xk_st18 hb, xk_st2 hb, xk_st3 hb, xk_st4 hb, xk_st5 hb, xk_st6 hb, xk_st7 hb, xk_st8 hb, xk_st9 hb, xm_0_0 hx, xm_0_10 hx, xm_0_11 hx, xm_0_12 hx, xm_0_13 hx, xm_0_14 hx, xm_0_15 hx, xm_0_2 hx, xm_0_9 hx, xm_40_0 hx, xm_40_1 hx, xm_41_0 hx, xm_44_0 hx, xm_44_1 hx, xm_73_4 hx, xm_73_5 hx, xm_73_6 hx, xm_77_1 hx, xm_77_2 hx, xm_77_3 hx, xm_77_4 hx, xm_77_5 hx, xm_77_6 hx, xm_77_7 hx, xm_77_8 hx, xm_77_9 hx, xm_87_2 hx, xm_87_3 hx, xm_87_4 hx, xm_87_5 hx, xm_87_6 hx, xm_87_7 hx, xm_87_8 hx, xm_lw2 hx hb, xm_lw3 hx hb, xm_lw4 hx hb, xm_lw5 hx hb, xm_st1 hx hb, xm_st10 hx hb, xm_st11 hx hb, xm_st13 hx hb, xm_st14 hx hb, xm_st15 hx hb, xm_st16 hx hb, xm_st17 hx hb, xm_st2 hx hb, xm_st4 hx hb, xm_st5 hx hb, xm_st6 hx hb, xm_st7 hx hb, xm_st9 hx hb, ite_self, Bool.false_eq_true, eq_self, isk_t, i20_t, w20_t, l23_t, b21_t, b22_t, w_t, bif_t, bif_f, bif_d, if_pos, if_neg, if_true, if_false, not_true_eq_false, not_false_eq_true, Option.bind_some, Option.toList_some, Option.toList_none, List.cons_append, List.nil_append, Int.toNat_natCast, Int.reduceToNat, up_eq, up_p, up_k, sN,  k4', hra, c2 ]
          rw [c2] at c1
          exact hres2
        · have hdb : dueB t.1 = false := decide_eq_false (fun e => e.elim c1 c2)
          rw [hdb, if_neg (by decide)] at hres2
          simp (disch := omega) only [e21_128, e21_148, xk_0, xk_1, xk_40, xk_41, xk_42, xk_43, xk_44, xk_45, xk_46, xk_47, xk_48, xk_49, xk_50, xk_51, xk_52, xk_53, xk_54, xk_55, xk_56, xk_57, xk_58, xk_59, xk_60, xk_61, xk_62, xk_63, xk_64, xk_65, xk_66, xk_67, xk_68, xk_69, xk_70, xk_71, xk_72, xk_73, xk_74, xk_75, xk_76, xk_77, xk_78, xk_79, xk_80, xk_81, xk_82, xk_83, xk_84, xk_85, xk_86, xk_87, xk_88, xk_89, xk_90, xk_91, xk_92, xk_93, xk_94, xk_95, xk_96, xk_97, xk_98, xk_st0 hb, xk_st1 hb, xk_st10 hb, xk_st11 hb, xk_st12 hb, xk_st13 hb, xk_st14 hb, xk_st15 hb, xk_st16 hb, xk_st17 hb, xk_st18 hb, xk_st2 hb, xk_st3 hb, xk_st4 hb, xk_st5 hb, xk_st6 hb, xk_st7 hb, xk_st8 hb, xk_st9 hb, xm_0_0 hx, xm_0_10 hx, xm_0_11 hx, xm_0_12 hx, xm_0_13 hx, xm_0_14 hx, xm_0_15 hx, xm_0_2 hx, xm_0_9 hx, xm_40_0 hx, xm_40_1 hx, xm_41_0 hx, xm_44_0 hx, xm_44_1 hx, xm_73_4 hx, xm_73_5 hx, xm_73_6 hx, xm_77_1 hx, xm_77_2 hx, xm_77_3 hx, xm_77_4 hx, xm_77_5 hx, xm_77_6 hx, xm_77_7 hx, xm_77_8 hx, xm_77_9 hx, xm_87_2 hx, xm_87_3 hx, xm_87_4 hx, xm_87_5 hx, xm_87_6 hx, xm_87_7 hx, xm_87_8 hx, xm_lw2 hx hb, xm_lw3 hx hb, xm_lw4 hx hb, xm_lw5 hx hb, xm_st1 hx hb, xm_st10 hx hb, xm_st11 hx hb, xm_st13 hx hb, xm_st14 hx hb, xm_st15 hx hb, xm_st16 hx hb, xm_st17 hx hb, xm_st2 hx hb, xm_st4 hx hb, xm_st5 hx hb, xm_st6 hx hb, xm_st7 hx hb, xm_st9 hx hb, ite_self, Bool.false_eq_true, eq_self, isk_t, i20_t, w20_t, l23_t, b21_t, b22_t, w_t, bif_t, bif_f, bif_d, if_pos, if_neg, if_true, if_false, not_true_eq_false, not_false_eq_true, Option.bind_some, Option.toList_some, Option.toList_none, List.cons_append, List.nil_append, Int.toNat_natCast, Int.reduceToNat, up_eq, up_p, up_k, sN,  k4', hra, c2 ]
          exact hres2
    by_cases hd : due = true
    · subst hd
      have hxd : x = 1 := hxd
      subst hxd
      rw [if_neg (fun e => by cases e.1), if_pos rfl]
      obtain ⟨μ2, g1, g2, g3⟩ := X_tv (d := d) (cs := cs) (v := t.2.1) hx hb hL hM1 hV k4 k5
      cases hq : tvS t.1 t.2.1 s with
      | inl q =>
        obtain ⟨z1, z2⟩ := g2 q hq
        refine ⟨μ2, fk_tr (fk_ft f1) (fk_fl g1), ?_, z1, ?_⟩
        · rw [g1 _ _ (by omega)]; exact k6
        · show _ = some (some (Sum.inl q), (SH, ρ, μ2, cs))
          rw [e21_52]; simp (disch := omega) only [e21_67, e21_121, e21_128, xk_0, xk_1, xk_40, xk_41, xk_42, xk_43, xk_44, xk_45, xk_46, xk_47, xk_48, xk_49, xk_50, xk_51, xk_52, xk_53, xk_54, xk_55, xk_56, xk_57, xk_58, xk_59, xk_60, xk_61, xk_62, xk_63, xk_64, xk_65, xk_66, xk_67, xk_68, xk_69, xk_70, xk_71, xk_72, xk_73, xk_74, xk_75, xk_76, xk_77, xk_78, xk_79, xk_80, xk_81, xk_82, xk_83, xk_84, xk_85, xk_86, xk_87, xk_88, xk_89, xk_90, xk_91, xk_92, xk_93, xk_94, xk_95, xk_96, xk_97, xk_98, xk_st0 hb, xk_st1 hb, xk_st10 hb, xk_st11 hb, xk_st12 hb, xk_st13 hb, xk_st14 hb, xk_st15 hb, xk_st16 hb, xk_st17 hb, xk_st18 hb, xk_st2 hb, xk_st3 hb, xk_st4 hb, xk_st5 hb, xk_st6 hb, xk_st7 hb, xk_st8 hb, xk_st9 hb, xm_0_0 hx, xm_0_10 hx, xm_0_11 hx, xm_0_12 hx, xm_0_13 hx, xm_0_14 hx, xm_0_15 hx, xm_0_2 hx, xm_0_9 hx, xm_40_0 hx, xm_40_1 hx, xm_41_0 hx, xm_44_0 hx, xm_44_1 hx, xm_73_4 hx, xm_73_5 hx, xm_73_6 hx, xm_77_1 hx, xm_77_2 hx, xm_77_3 hx, xm_77_4 hx, xm_77_5 hx, xm_77_6 hx, xm_77_7 hx, xm_77_8 hx, xm_77_9 hx, xm_87_2 hx, xm_87_3 hx, xm_87_4 hx, xm_87_5 hx, xm_87_6 hx, xm_87_7 hx, xm_87_8 hx, xm_lw2 hx hb, xm_lw3 hx hb, xm_lw4 hx hb, xm_lw5 hx hb, xm_st1 hx hb, xm_st10 hx hb, xm_st11 hx hb, xm_st13 hx hb, xm_st14 hx hb, xm_st15 hx hb, xm_st16 hx hb, xm_st17 hx hb, xm_st2 hx hb, xm_st4 hx hb, xm_st5 hx hb, xm_st6 hx hb, xm_st7 hx hb, xm_st9 hx hb, ite_self, Bool.false_eq_true, eq_self, isk_t, i20_t, w20_t, l23_t, b21_t, b22_t, w_t, bif_t, bif_f, bif_d, if_pos, if_neg, if_true, if_false, not_true_eq_false, not_false_eq_true, Option.bind_some, Option.toList_some, Option.toList_none, List.cons_append, List.nil_append, Int.toNat_natCast, Int.reduceToNat, up_eq, up_p, up_k, sN,  f4, z2, z1 ]
      | inr s' =>
        obtain ⟨z1, z2⟩ := g3 s' hq
        refine xso_le (hrest s' μ2 (fun e => by rw [e] at hq; exact tv_39 hq) g1 z1 (sv_tv hV hq) (sg_tv hG hq)) (fun _ _ _ => rfl) (fun res hres => ?_)
        rw [← hres]
        rw [e21_52]; simp (disch := omega) only [e21_67, e21_121, xk_0, xk_1, xk_40, xk_41, xk_42, xk_43, xk_44, xk_45, xk_46, xk_47, xk_48, xk_49, xk_50, xk_51, xk_52, xk_53, xk_54, xk_55, xk_56, xk_57, xk_58, xk_59, xk_60, xk_61, xk_62, xk_63, xk_64, xk_65, xk_66, xk_67, xk_68, xk_69, xk_70, xk_71, xk_72, xk_73, xk_74, xk_75, xk_76, xk_77, xk_78, xk_79, xk_80, xk_81, xk_82, xk_83, xk_84, xk_85, xk_86, xk_87, xk_88, xk_89, xk_90, xk_91, xk_92, xk_93, xk_94, xk_95, xk_96, xk_97, xk_98, xk_st0 hb, xk_st1 hb, xk_st10 hb, xk_st11 hb, xk_st12 hb, xk_st13 hb, xk_st14 hb, xk_st15 hb, xk_st16 hb, xk_st17 hb, xk_st18 hb, xk_st2 hb, xk_st3 hb, xk_st4 hb, xk_st5 hb, xk_st6 hb, xk_st7 hb, xk_st8 hb, xk_st9 hb, xm_0_0 hx, xm_0_10 hx, xm_0_11 hx, xm_0_12 hx, xm_0_13 hx, xm_0_14 hx, xm_0_15 hx, xm_0_2 hx, xm_0_9 hx, xm_40_0 hx, xm_40_1 hx, xm_41_0 hx, xm_44_0 hx, xm_44_1 hx, xm_73_4 hx, xm_73_5 hx, xm_73_6 hx, xm_77_1 hx, xm_77_2 hx, xm_77_3 hx, xm_77_4 hx, xm_77_5 hx, xm_77_6 hx, xm_77_7 hx, xm_77_8 hx, xm_77_9 hx, xm_87_2 hx, xm_87_3 hx, xm_87_4 hx, xm_87_5 hx, xm_87_6 hx, xm_87_7 hx, xm_87_8 hx, xm_lw2 hx hb, xm_lw3 hx hb, xm_lw4 hx hb, xm_lw5 hx hb, xm_st1 hx hb, xm_st10 hx hb, xm_st11 hx hb, xm_st13 hx hb, xm_st14 hx hb, xm_st15 hx hb, xm_st16 hx hb, xm_st17 hx hb, xm_st2 hx hb, xm_st4 hx hb, xm_st5 hx hb, xm_st6 hx hb, xm_st7 hx hb, xm_st9 hx hb, ite_self, Bool.false_eq_true, eq_self, isk_t, i20_t, w20_t, l23_t, b21_t, b22_t, w_t, bif_t, bif_f, bif_d, if_pos, if_neg, if_true, if_false, not_true_eq_false, not_false_eq_true, Option.bind_some, Option.toList_some, Option.toList_none, List.cons_append, List.nil_append, Int.toNat_natCast, Int.reduceToNat, up_eq, up_p, up_k, sN,  f4, z2 ]
    · have hd : due = false := by cases due <;> simp_all
      subst hd
      have hxd : x = 0 := hxd
      subst hxd
      by_cases hdn : t.1 = 27 ∧ s.2.1 = 0
      · rw [if_pos ⟨rfl, hdn⟩]
        obtain ⟨e27, eo⟩ := hdn
        have hlen := sv_len hV
        have hkn := hV.1
        have hkm := hV.2.2.1
        obtain ⟨μ2, g1, g2, g3⟩ := X_settle (d := d + 1) (cs := cs) hx hb hL (l := 1) (by decide) s.1 s.2.1 s.2.2.1 s.2.2.2 hM1 hlen.1 (by omega)
        obtain ⟨b1, b2, b3, b4, b5, b6⟩ := g2
        rw [eo] at ho
        rw [e27] at k4
        have ho : μ1 44 3 = 0 := ho
        refine ⟨am_up μ2 (c + 18) r (μ2 (c + 14) 1), ?_, ?_, ?_, ?_, ?_, ?_, ?_⟩
        · intro q k hq
          rw [am_up_no (fun e => hq (by omega)), g1 _ _ (by omega), f1 _ _ (by omega)]
        · exact xt_up (xt_fr f2 rfl (fun i => g1 _ _ (by omega)) (fun i => g1 _ _ (by omega)) (g1 _ _ (by omega)) (g1 _ _ (by omega))) (by omega)
        · rw [up_p (by omega)]; exact b4
        · rw [up_p (by omega)]; exact b5
        · intro j hj
          rw [up_p (by omega), up_p (by omega)]
          exact b6 j hj
        · rw [up_eq]; exact b5
        · rw [e21_52]; simp (disch := omega) only [e21_67, e21_95, xk_0, xk_1, xk_40, xk_41, xk_42, xk_43, xk_44, xk_45, xk_46, xk_47, xk_48, xk_49, xk_50, xk_51, xk_52, xk_53, xk_54, xk_55, xk_56, xk_57, xk_58, xk_59, xk_60, xk_61, xk_62, xk_63, xk_64, xk_65, xk_66, xk_67, xk_68, xk_69, xk_70, xk_71, xk_72, xk_73, xk_74, xk_75, xk_76, xk_77, xk_78, xk_79, xk_80, xk_81, xk_82, xk_83, xk_84, xk_85, xk_86, xk_87, xk_88, xk_89, xk_90, xk_91, xk_92, xk_93, xk_94, xk_95, xk_96, xk_97, xk_98, xk_st0 hb, xk_st1 hb, xk_st10 hb, xk_st11 hb, xk_st12 hb, xk_st13 hb, xk_st14 hb, xk_st15 hb, xk_st16 hb, xk_st17 hb, xk_st18 hb, xk_st2 hb, xk_st3 hb, xk_st4 hb, xk_st5 hb, xk_st6 hb, xk_st7 hb, xk_st8 hb, xk_st9 hb, xm_0_0 hx, xm_0_10 hx, xm_0_11 hx, xm_0_12 hx, xm_0_13 hx, xm_0_14 hx, xm_0_15 hx, xm_0_2 hx, xm_0_9 hx, xm_40_0 hx, xm_40_1 hx, xm_41_0 hx, xm_44_0 hx, xm_44_1 hx, xm_73_4 hx, xm_73_5 hx, xm_73_6 hx, xm_77_1 hx, xm_77_2 hx, xm_77_3 hx, xm_77_4 hx, xm_77_5 hx, xm_77_6 hx, xm_77_7 hx, xm_77_8 hx, xm_77_9 hx, xm_87_2 hx, xm_87_3 hx, xm_87_4 hx, xm_87_5 hx, xm_87_6 hx, xm_87_7 hx, xm_87_8 hx, xm_lw2 hx hb, xm_lw3 hx hb, xm_lw4 hx hb, xm_lw5 hx hb, xm_st1 hx hb, xm_st10 hx hb, xm_st11 hx hb, xm_st13 hx hb, xm_st14 hx hb, xm_st15 hx hb, xm_st16 hx hb, xm_st17 hx hb, xm_st2 hx hb, xm_st4 hx hb, xm_st5 hx hb, xm_st6 hx hb, xm_st7 hx hb, xm_st9 hx hb, ite_self, Bool.false_eq_true, eq_self, isk_t, i20_t, w20_t, l23_t, b21_t, b22_t, w_t, bif_t, bif_f, bif_d, if_pos, if_neg, if_true, if_false, not_true_eq_false, not_false_eq_true, Option.bind_some, Option.toList_some, Option.toList_none, List.cons_append, List.nil_append, Int.toNat_natCast, Int.reduceToNat, up_eq, up_p, up_k, sN,  f4, k4, ho, hL, g3 ]
          all_goals rfl
      · rw [if_neg (fun e => hdn e.2), if_neg (by decide)]
        obtain ⟨μ2, g1, g2, g3⟩ := X_tb (d := d) (cs := cs) hx hb hL hM1 hV hG k4
        have e67 : am_E (d + 4) 21 67 [some (.inr (.inr 44)), some (.inr (.inr (c + 14))), some (.inl (r : Int)), some (.inl 0), some (.inl (i : Int)), none] [] (SH, ρ, μ1, cs) = (am_E (d + 3) 23 0 [some (.inr (.inr 44)), none] [] (SH, ρ, μ1, cs)).bind (fun r1 => am_E (d + 4) 21 128 [some (.inr (.inr 44)), some (.inr (.inr (c + 14))), some (.inl (r : Int)), some (.inl 0), some (.inl (i : Int)), none] (r1.1.toList ++ []) r1.2) := by
          by_cases c1 : t.1 = 27
          · have c2 : (s.2.1 : Int) ≠ 0 := by
              intro e
              exact hdn ⟨c1, by omega⟩
            rw [c1] at k4
            rw [e21_67]; simp (disch := omega) only [xk_0, xk_1, xk_40, xk_41, xk_42, xk_43, xk_44, xk_45, xk_46, xk_47, xk_48, xk_49, xk_50, xk_51, xk_52, xk_53, xk_54, xk_55, xk_56, xk_57, xk_58, xk_59, xk_60, xk_61, xk_62, xk_63, xk_64, xk_65, xk_66, xk_67, xk_68, xk_69, xk_70, xk_71, xk_72, xk_73, xk_74, xk_75, xk_76, xk_77, xk_78, xk_79, xk_80, xk_81, xk_82, xk_83, xk_84, xk_85, xk_86, xk_87, xk_88, xk_89, xk_90, xk_91, xk_92, xk_93, xk_94, xk_95, xk_96, xk_97, xk_98, xk_st0 hb, xk_st1 hb, xk_st10 hb, xk_st11 hb, xk_st12 hb, xk_st13 hb, xk_st14 hb, xk_st15 hb, xk_st16 hb, xk_st17 hb, xk_st18 hb, xk_st2 hb, xk_st3 hb, xk_st4 hb, xk_st5 hb, xk_st6 hb, xk_st7 hb, xk_st8 hb, xk_st9 hb, xm_0_0 hx, xm_0_10 hx, xm_0_11 hx, xm_0_12 hx, xm_0_13 hx, xm_0_14 hx, xm_0_15 hx, xm_0_2 hx, xm_0_9 hx, xm_40_0 hx, xm_40_1 hx, xm_41_0 hx, xm_44_0 hx, xm_44_1 hx, xm_73_4 hx, xm_73_5 hx, xm_73_6 hx, xm_77_1 hx, xm_77_2 hx, xm_77_3 hx, xm_77_4 hx, xm_77_5 hx, xm_77_6 hx, xm_77_7 hx, xm_77_8 hx, xm_77_9 hx, xm_87_2 hx, xm_87_3 hx, xm_87_4 hx, xm_87_5 hx, xm_87_6 hx, xm_87_7 hx, xm_87_8 hx, xm_lw2 hx hb, xm_lw3 hx hb, xm_lw4 hx hb, xm_lw5 hx hb, xm_st1 hx hb, xm_st10 hx hb, xm_st11 hx hb, xm_st13 hx hb, xm_st14 hx hb, xm_st15 hx hb, xm_st16 hx hb, xm_st17 hx hb, xm_st2 hx hb, xm_st4 hx hb, xm_st5 hx hb, xm_st6 hx hb, xm_st7 hx hb, xm_st9 hx hb, ite_self, Bool.false_eq_true, eq_self, isk_t, i20_t, w20_t, l23_t, b21_t, b22_t, w_t, bif_t, bif_f, bif_d, if_pos, if_neg, if_true, if_false, not_true_eq_false, not_false_eq_true, Option.bind_some, Option.toList_some, Option.toList_none, List.cons_append, List.nil_append, Int.toNat_natCast, Int.reduceToNat, up_eq, up_p, up_k, sN,  k4, ho, c2 ]
          · rw [e21_67]; simp (disch := omega) only [xk_0, xk_1, xk_40, xk_41, xk_42, xk_43, xk_44, xk_45, xk_46, xk_47, xk_48, xk_49, xk_50, xk_51, xk_52, xk_53, xk_54, xk_55, xk_56, xk_57, xk_58, xk_59, xk_60, xk_61, xk_62, xk_63, xk_64, xk_65, xk_66, xk_67, xk_68, xk_69, xk_70, xk_71, xk_72, xk_73, xk_74, xk_75, xk_76, xk_77, xk_78, xk_79, xk_80, xk_81, xk_82, xk_83, xk_84, xk_85, xk_86, xk_87, xk_88, xk_89, xk_90, xk_91, xk_92, xk_93, xk_94, xk_95, xk_96, xk_97, xk_98, xk_st0 hb, xk_st1 hb, xk_st10 hb, xk_st11 hb, xk_st12 hb, xk_st13 hb, xk_st14 hb, xk_st15 hb, xk_st16 hb, xk_st17 hb, xk_st18 hb, xk_st2 hb, xk_st3 hb, xk_st4 hb, xk_st5 hb, xk_st6 hb, xk_st7 hb, xk_st8 hb, xk_st9 hb, xm_0_0 hx, xm_0_10 hx, xm_0_11 hx, xm_0_12 hx, xm_0_13 hx, xm_0_14 hx, xm_0_15 hx, xm_0_2 hx, xm_0_9 hx, xm_40_0 hx, xm_40_1 hx, xm_41_0 hx, xm_44_0 hx, xm_44_1 hx, xm_73_4 hx, xm_73_5 hx, xm_73_6 hx, xm_77_1 hx, xm_77_2 hx, xm_77_3 hx, xm_77_4 hx, xm_77_5 hx, xm_77_6 hx, xm_77_7 hx, xm_77_8 hx, xm_77_9 hx, xm_87_2 hx, xm_87_3 hx, xm_87_4 hx, xm_87_5 hx, xm_87_6 hx, xm_87_7 hx, xm_87_8 hx, xm_lw2 hx hb, xm_lw3 hx hb, xm_lw4 hx hb, xm_lw5 hx hb, xm_st1 hx hb, xm_st10 hx hb, xm_st11 hx hb, xm_st13 hx hb, xm_st14 hx hb, xm_st15 hx hb, xm_st16 hx hb, xm_st17 hx hb, xm_st2 hx hb, xm_st4 hx hb, xm_st5 hx hb, xm_st6 hx hb, xm_st7 hx hb, xm_st9 hx hb, ite_self, Bool.false_eq_true, eq_self, isk_t, i20_t, w20_t, l23_t, b21_t, b22_t, w_t, bif_t, bif_f, bif_d, if_pos, if_neg, if_true, if_false, not_true_eq_false, not_false_eq_true, Option.bind_some, Option.toList_some, Option.toList_none, List.cons_append, List.nil_append, Int.toNat_natCast, Int.reduceToNat, up_eq, up_p, up_k, sN,  k4, c1 ]
        cases hq : tbS t.1 s with
        | inl q =>
          obtain ⟨z1, z2⟩ := g2 q hq
          refine ⟨μ2, fk_tr (fk_ft f1) (fk_fl g1), ?_, z1, ?_⟩
          · rw [g1 _ _ (by omega)]; exact k6
          · show _ = some (some (Sum.inl q), (SH, ρ, μ2, cs))
            rw [e21_52]; simp (disch := omega) only [e21_128, xk_0, xk_1, xk_40, xk_41, xk_42, xk_43, xk_44, xk_45, xk_46, xk_47, xk_48, xk_49, xk_50, xk_51, xk_52, xk_53, xk_54, xk_55, xk_56, xk_57, xk_58, xk_59, xk_60, xk_61, xk_62, xk_63, xk_64, xk_65, xk_66, xk_67, xk_68, xk_69, xk_70, xk_71, xk_72, xk_73, xk_74, xk_75, xk_76, xk_77, xk_78, xk_79, xk_80, xk_81, xk_82, xk_83, xk_84, xk_85, xk_86, xk_87, xk_88, xk_89, xk_90, xk_91, xk_92, xk_93, xk_94, xk_95, xk_96, xk_97, xk_98, xk_st0 hb, xk_st1 hb, xk_st10 hb, xk_st11 hb, xk_st12 hb, xk_st13 hb, xk_st14 hb, xk_st15 hb, xk_st16 hb, xk_st17 hb, xk_st18 hb, xk_st2 hb, xk_st3 hb, xk_st4 hb, xk_st5 hb, xk_st6 hb, xk_st7 hb, xk_st8 hb, xk_st9 hb, xm_0_0 hx, xm_0_10 hx, xm_0_11 hx, xm_0_12 hx, xm_0_13 hx, xm_0_14 hx, xm_0_15 hx, xm_0_2 hx, xm_0_9 hx, xm_40_0 hx, xm_40_1 hx, xm_41_0 hx, xm_44_0 hx, xm_44_1 hx, xm_73_4 hx, xm_73_5 hx, xm_73_6 hx, xm_77_1 hx, xm_77_2 hx, xm_77_3 hx, xm_77_4 hx, xm_77_5 hx, xm_77_6 hx, xm_77_7 hx, xm_77_8 hx, xm_77_9 hx, xm_87_2 hx, xm_87_3 hx, xm_87_4 hx, xm_87_5 hx, xm_87_6 hx, xm_87_7 hx, xm_87_8 hx, xm_lw2 hx hb, xm_lw3 hx hb, xm_lw4 hx hb, xm_lw5 hx hb, xm_st1 hx hb, xm_st10 hx hb, xm_st11 hx hb, xm_st13 hx hb, xm_st14 hx hb, xm_st15 hx hb, xm_st16 hx hb, xm_st17 hx hb, xm_st2 hx hb, xm_st4 hx hb, xm_st5 hx hb, xm_st6 hx hb, xm_st7 hx hb, xm_st9 hx hb, ite_self, Bool.false_eq_true, eq_self, isk_t, i20_t, w20_t, l23_t, b21_t, b22_t, w_t, bif_t, bif_f, bif_d, if_pos, if_neg, if_true, if_false, not_true_eq_false, not_false_eq_true, Option.bind_some, Option.toList_some, Option.toList_none, List.cons_append, List.nil_append, Int.toNat_natCast, Int.reduceToNat, up_eq, up_p, up_k, sN,  f4, e67, z2, z1 ]
        | inr s' =>
          obtain ⟨z1, z2⟩ := g3 s' hq
          have sv2 := sv_tb hV hG hq
          refine xso_le (hrest s' μ2 (fun e => by rw [e] at hq; exact tb_39 hq) g1 z1 sv2.1 sv2.2) (fun _ _ _ => rfl) (fun res hres => ?_)
          rw [← hres]
          rw [e21_52]; simp (disch := omega) only [xk_0, xk_1, xk_40, xk_41, xk_42, xk_43, xk_44, xk_45, xk_46, xk_47, xk_48, xk_49, xk_50, xk_51, xk_52, xk_53, xk_54, xk_55, xk_56, xk_57, xk_58, xk_59, xk_60, xk_61, xk_62, xk_63, xk_64, xk_65, xk_66, xk_67, xk_68, xk_69, xk_70, xk_71, xk_72, xk_73, xk_74, xk_75, xk_76, xk_77, xk_78, xk_79, xk_80, xk_81, xk_82, xk_83, xk_84, xk_85, xk_86, xk_87, xk_88, xk_89, xk_90, xk_91, xk_92, xk_93, xk_94, xk_95, xk_96, xk_97, xk_98, xk_st0 hb, xk_st1 hb, xk_st10 hb, xk_st11 hb, xk_st12 hb, xk_st13 hb, xk_st14 hb, xk_st15 hb, xk_st16 hb, xk_st17 hb, xk_st18 hb, xk_st2 hb, xk_st3 hb, xk_st4 hb, xk_st5 hb, xk_st6 hb, xk_st7 hb, xk_st8 hb, xk_st9 hb, xm_0_0 hx, xm_0_10 hx, xm_0_11 hx, xm_0_12 hx, xm_0_13 hx, xm_0_14 hx, xm_0_15 hx, xm_0_2 hx, xm_0_9 hx, xm_40_0 hx, xm_40_1 hx, xm_41_0 hx, xm_44_0 hx, xm_44_1 hx, xm_73_4 hx, xm_73_5 hx, xm_73_6 hx, xm_77_1 hx, xm_77_2 hx, xm_77_3 hx, xm_77_4 hx, xm_77_5 hx, xm_77_6 hx, xm_77_7 hx, xm_77_8 hx, xm_77_9 hx, xm_87_2 hx, xm_87_3 hx, xm_87_4 hx, xm_87_5 hx, xm_87_6 hx, xm_87_7 hx, xm_87_8 hx, xm_lw2 hx hb, xm_lw3 hx hb, xm_lw4 hx hb, xm_lw5 hx hb, xm_st1 hx hb, xm_st10 hx hb, xm_st11 hx hb, xm_st13 hx hb, xm_st14 hx hb, xm_st15 hx hb, xm_st16 hx hb, xm_st17 hx hb, xm_st2 hx hb, xm_st4 hx hb, xm_st5 hx hb, xm_st6 hx hb, xm_st7 hx hb, xm_st9 hx hb, ite_self, Bool.false_eq_true, eq_self, isk_t, i20_t, w20_t, l23_t, b21_t, b22_t, w_t, bif_t, bif_f, bif_d, if_pos, if_neg, if_true, if_false, not_true_eq_false, not_false_eq_true, Option.bind_some, Option.toList_some, Option.toList_none, List.cons_append, List.nil_append, Int.toNat_natCast, Int.reduceToNat, up_eq, up_p, up_k, sN,  f4, e67, z2 ]
end XSW
