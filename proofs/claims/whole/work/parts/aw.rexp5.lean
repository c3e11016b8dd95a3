/-! TEXT: the reference's expressions: what is denied or held against another -/
section RNG
variable {ρ : Nat → Nat → Nat} {g : Nat → Nat → Int} {μ : Nat → Nat → Int} {cs : Nat × Nat × Nat} {n B a d : Nat} {b : Nat → Int}
/-- is there a sign of comparing -/
theorem R_cmpN (h : RH μ b n a) (hc : rnk (tok b n a).1 ≠ 4) : am_E (d + 1) 170 34 [some (.inr (.inr 99)), none] [] (SH, ρ, μ, cs) = some (none, (SH, ρ, μ, cs)) := by
  obtain ⟨hT, hK, h0⟩ := h
  have hs := rk_sort hK (tok_nn b n a) (tok_39 b n a)
  by_cases c : μ 99 26 = 3
  · have c2 : 25 ≤ (tok b n a).1 ∧ (tok b n a).1 ≤ 37 := by omega
    have v := (hK.2.2.2.2.1 c2.1 c2.2).2
    have hn : ¬ (32 ≤ (tok b n a).1 ∧ (tok b n a).1 ≤ 37) := fun e => hc (rnk_4.mpr e)
    have hq : ∀ x : Int, 25 ≤ x → x ≤ 31 → schr x ≠ 60 ∧ schr x ≠ 62 ∧ schr x ≠ 61 ∧ ¬ 256 ≤ schr x := by
      intro x h0 h1
      unfold schr
      repeat' split
      all_goals omega
    obtain ⟨q1, q2, q3, q4⟩ := hq _ c2.1 (by omega)
    rw [← v] at q1 q2 q3 q4
    simp (disch := (first | omega | (simp (disch := omega) only [sr_up, wr_up_o]; omega))) only [e170_34, ks_99, ite_self, Bool.false_eq_true, eq_self, isk_t, i20_t, w20_t, l23_t, b21_t, b22_t, w_t, bif_t, bif_f, bif_d, if_pos, if_neg, if_true, if_false, not_true_eq_false, not_false_eq_true, Option.bind_some, Option.toList_some, Option.toList_none, List.cons_append, List.nil_append, Int.toNat_natCast, Int.reduceToNat, up_eq, up_p, up_k, sN,  h0, c, q1, q2, q3, q4 ]
  · simp (disch := (first | omega | (simp (disch := omega) only [sr_up, wr_up_o]; omega))) only [e170_34, ks_99, ite_self, Bool.false_eq_true, eq_self, isk_t, i20_t, w20_t, l23_t, b21_t, b22_t, w_t, bif_t, bif_f, bif_d, if_pos, if_neg, if_true, if_false, not_true_eq_false, not_false_eq_true, Option.bind_some, Option.toList_some, Option.toList_none, List.cons_append, List.nil_append, Int.toNat_natCast, Int.reduceToNat, up_eq, up_p, up_k, sN,  h0, c ]
theorem R_cmpY (h : RH μ b n a) (hc : rnk (tok b n a).1 = 4) {μ1 : Nat → Nat → Int} (h1 : am_E d 167 0 [some (.inr (.inr 99))] [] (SH, ρ, μ, cs) = some (none, (SH, ρ, μ1, cs))) : am_E (d + 1) 170 34 [some (.inr (.inr 99)), none] [] (SH, ρ, μ, cs) = am_E (d + 1) 170 96 [some (.inr (.inr 99)), some (.inl (ksg (tok b n a).1))] [] (SH, ρ, μ1, cs) := by
  obtain ⟨hT, hK, h0⟩ := h
  have hn := rnk_4.mp hc
  have c : μ 99 26 = 3 := by
    have hs := rk_sort hK (tok_nn b n a) (tok_39 b n a)
    omega
  have v := (hK.2.2.2.2.1 (by omega) (by omega)).2
  generalize (tok b n a).1 = k at *
  have hk : k = 32 ∨ k = 33 ∨ k = 34 ∨ k = 35 ∨ k = 36 ∨ k = 37 := by omega
  rcases hk with rfl | rfl | rfl | rfl | rfl | rfl
  · have v : μ 99 27 = 60 := v
    have e : ksg 32 = 60 := rfl
    simp (disch := (first | omega | (simp (disch := omega) only [sr_up, wr_up_o]; omega))) only [e170_34, ks_99, ite_self, Bool.false_eq_true, eq_self, isk_t, i20_t, w20_t, l23_t, b21_t, b22_t, w_t, bif_t, bif_f, bif_d, if_pos, if_neg, if_true, if_false, not_true_eq_false, not_false_eq_true, Option.bind_some, Option.toList_some, Option.toList_none, List.cons_append, List.nil_append, Int.toNat_natCast, Int.reduceToNat, up_eq, up_p, up_k, sN,  h0, c, v, h1, e ]
  · have v : μ 99 27 = 256 := v
    have e : ksg 33 = 256 := rfl
    simp (disch := (first | omega | (simp (disch := omega) only [sr_up, wr_up_o]; omega))) only [e170_34, ks_99, ite_self, Bool.false_eq_true, eq_self, isk_t, i20_t, w20_t, l23_t, b21_t, b22_t, w_t, bif_t, bif_f, bif_d, if_pos, if_neg, if_true, if_false, not_true_eq_false, not_false_eq_true, Option.bind_some, Option.toList_some, Option.toList_none, List.cons_append, List.nil_append, Int.toNat_natCast, Int.reduceToNat, up_eq, up_p, up_k, sN,  h0, c, v, h1, e ]
  · have v : μ 99 27 = 61 := v
    have e : ksg 34 = 61 := rfl
    simp (disch := (first | omega | (simp (disch := omega) only [sr_up, wr_up_o]; omega))) only [e170_34, ks_99, ite_self, Bool.false_eq_true, eq_self, isk_t, i20_t, w20_t, l23_t, b21_t, b22_t, w_t, bif_t, bif_f, bif_d, if_pos, if_neg, if_true, if_false, not_true_eq_false, not_false_eq_true, Option.bind_some, Option.toList_some, Option.toList_none, List.cons_append, List.nil_append, Int.toNat_natCast, Int.reduceToNat, up_eq, up_p, up_k, sN,  h0, c, v, h1, e ]
  · have v : μ 99 27 = 257 := v
    have e : ksg 35 = 257 := rfl
    simp (disch := (first | omega | (simp (disch := omega) only [sr_up, wr_up_o]; omega))) only [e170_34, ks_99, ite_self, Bool.false_eq_true, eq_self, isk_t, i20_t, w20_t, l23_t, b21_t, b22_t, w_t, bif_t, bif_f, bif_d, if_pos, if_neg, if_true, if_false, not_true_eq_false, not_false_eq_true, Option.bind_some, Option.toList_some, Option.toList_none, List.cons_append, List.nil_append, Int.toNat_natCast, Int.reduceToNat, up_eq, up_p, up_k, sN,  h0, c, v, h1, e ]
  · have v : μ 99 27 = 258 := v
    have e : ksg 36 = 258 := rfl
    simp (disch := (first | omega | (simp (disch := omega) only [sr_up, wr_up_o]; omega))) only [e170_34, ks_99, ite_self, Bool.false_eq_true, eq_self, isk_t, i20_t, w20_t, l23_t, b21_t, b22_t, w_t, bif_t, bif_f, bif_d, if_pos, if_neg, if_true, if_false, not_true_eq_false, not_false_eq_true, Option.bind_some, Option.toList_some, Option.toList_none, List.cons_append, List.nil_append, Int.toNat_natCast, Int.reduceToNat, up_eq, up_p, up_k, sN,  h0, c, v, h1, e ]
  · have v : μ 99 27 = 62 := v
    have e : ksg 37 = 62 := rfl
    simp (disch := (first | omega | (simp (disch := omega) only [sr_up, wr_up_o]; omega))) only [e170_34, ks_99, ite_self, Bool.false_eq_true, eq_self, isk_t, i20_t, w20_t, l23_t, b21_t, b22_t, w_t, bif_t, bif_f, bif_d, if_pos, if_neg, if_true, if_false, not_true_eq_false, not_false_eq_true, Option.bind_some, Option.toList_some, Option.toList_none, List.cons_append, List.nil_append, Int.toNat_natCast, Int.reduceToNat, up_eq, up_p, up_k, sN,  h0, c, v, h1, e ]
theorem en_53 {k : Int} {st : List Int} {o : List (Int × Int)} (h : EN 5 k st o) (h4 : rnk k = 4 → rnk (topS (stl 5 st o).1) = 4) : EN 3 k st o := by
  rcases h with q | q | q
  · by_cases c : rnk k = 4
    · exact Or.inr (Or.inr ⟨c, h4 c⟩)
    · by_cases c2 : rnk k < 3
      · exact Or.inl c2
      · refine Or.inr (Or.inl ?_)
        have e : rnk k = 3 := by omega
        unfold rnk at e
        repeat' split at e
        all_goals omega
  · exact Or.inr (Or.inl q)
  · exact Or.inr (Or.inr q)
theorem R_neg (hρ : RM ρ) : ∀ (m a : Nat), n < a + m → (∀ a', a ≤ a' → SPC g ρ cs b n B 5 5 171 [some (.inr (.inr 99)), none] 3 a') → SPC g ρ cs b n B 3 4 170 [some (.inr (.inr 99)), none] 2 a := by
  intro m
  induction m with
  | zero =>
    intro a hm hO D st op kn o μ hD ha
    omega
  | succ m ih =>
    intro a hm hO D st op kn o μ hD ha h hE hV hG ht h20
    have hD0 := hD
    unfold dN at hD0
    obtain ⟨d, rfl⟩ : ∃ d, D = d + 8 := ⟨D - 8, by omega⟩
    have i15 := fun d => R_isW (ρ := ρ) (cs := cs) (d := d) h (w := 15) (k := 20) w15 (by omega)
    have hkm : kn ≤ 64 := hV.2.2.1
    have hkk : kn = ((B + o.length + nop st : Nat) : Int) := hV.1
    by_cases c : (tok b n a).1 = 20
    · rw [if_pos c] at i15
      have i15 : ∀ d, am_E d 150 0 [some (.inr (.inr 99)), some (.inl 15)] [] (SH, ρ, μ, cs) = some (some (.inl 1), (SH, ρ, μ, cs)) := i15
      have hsy : sy b n a true (st, op, kn, o) = if 64 ≤ kn then .inl (2, (tok b n a).2.2.1) else sy b n (tok b n a).2.2.2 true (20 :: st, op, kn + 1, o) := by
        rw [sy_tv ha]
        have : tvS (tok b n a).1 (tok b n a).2.1 (st, op, kn, o) = wk 20 (st, op, kn, o) := by
          unfold tvS
          rw [c, if_neg (by decide), if_neg (by decide), if_pos ⟨rfl, by show rnk (topS st) ≤ 3; omega⟩]
        rw [this]
        unfold wk
        have c20 := c
        by_cases c : 64 ≤ kn
        · rw [if_pos c, if_pos c]
        · rw [if_neg c, if_neg c]
          have hd : dueB (tok b n a).1 = true := by rw [c20]; decide
          rw [hd]
      obtain ⟨μ1, f1, f2, f3, f4⟩ := R_knot (d := d + 6) (ρ := ρ) (cs := cs) h hE (by omega) hkm
      by_cases c64 : 64 ≤ kn
      · have hr := f2 c64
        have hne : μ1 99 28 ≠ 0 := by rw [hr.1]; exact hr.2.2
        have g1 := R_goOnF (ρ := ρ) (cs := cs) (d := d) hne
        have g2 := R_negF (ρ := ρ) (cs := cs) (d := d + 3) hne
        have g3 := R_putsF (ρ := ρ) (cs := cs) (d := d + 6) (x := 2) (y := 260) hρ hne
        refine ⟨μ1, f1, Or.inl ⟨_, hr, by rw [hsy, if_pos c64]⟩, ?_⟩
        simp (disch := (first | omega | (simp (disch := omega) only [sr_up, wr_up_o]; omega))) only [e170_0, e170_6, e170_13, e170_17, e170_21, e170_29, ks_99, ite_self, Bool.false_eq_true, eq_self, isk_t, i20_t, w20_t, l23_t, b21_t, b22_t, w_t, bif_t, bif_f, bif_d, if_pos, if_neg, if_true, if_false, not_true_eq_false, not_false_eq_true, Option.bind_some, Option.toList_some, Option.toList_none, List.cons_append, List.nil_append, Int.toNat_natCast, Int.reduceToNat, up_eq, up_p, up_k, sN,  i15, f4, g1, g2, g3 ]
      · obtain ⟨g1, g2, g3⟩ := f3 c64
        obtain ⟨μ2, r1, r2, r3⟩ := R_goOn (ρ := ρ) (cs := cs) (d := d) hρ g1
        have tg := tk_gt (b := b) ha (by omega)
        have hV2 : SV B (20 :: st, op, kn + 1, o) := sv_wk (k := 20) hV (by decide) (by unfold wk; rw [if_neg c64])
        have hG2 : SG (20 :: st) := fun x hx => by
          rcases List.mem_cons.mp hx with rfl | hx
          · exact Or.inl (by decide)
          · exact hG x hx
        have hdn3 : dN op (kn + 1) + 1 ≤ dN op kn := by
          unfold dN
          omega
        obtain ⟨μ3, k1, k2, k3⟩ := ih (tok b n a).2.2.2 (by omega) (fun a' h' => hO a' (by omega)) (d + 7) (20 :: st) op (kn + 1) o μ2 (by omega) tg.2 r2 (re_fw g2 (fw_fr r1)) hV2 hG2 (by show rnk 20 < 4; decide) (fun _ => Or.inl (by decide))
        have fr3 : FE B μ μ3 := fe_tr (fe_tr f1 (fe_fw (fw_fr r1))) k1
        rw [if_neg c64] at hsy
        rcases k2 with ⟨q, z1, z2⟩ | ⟨a', τ2, kn', o', z1, z2, z3, z4, z5, z6, z7, z8⟩
        · have hne : μ3 99 28 ≠ 0 := by rw [z1.1]; exact z1.2.2
          have g3 := R_putsF (ρ := ρ) (cs := cs) (d := d + 6) (x := 2) (y := 260) hρ hne
          refine ⟨μ3, fr3, Or.inl ⟨q, z1, hsy.trans z2⟩, ?_⟩
          simp (disch := (first | omega | (simp (disch := omega) only [sr_up, wr_up_o]; omega))) only [e170_0, e170_6, e170_13, e170_17, e170_21, e170_29, ks_99, ite_self, Bool.false_eq_true, eq_self, isk_t, i20_t, w20_t, l23_t, b21_t, b22_t, w_t, bif_t, bif_f, bif_d, if_pos, if_neg, if_true, if_false, not_true_eq_false, not_false_eq_true, Option.bind_some, Option.toList_some, Option.toList_none, List.cons_append, List.nil_append, Int.toNat_natCast, Int.reduceToNat, up_eq, up_p, up_k, sN,  i15, f4, r3, k3, g3 ]
        · have hV4 := sv_app (fun k hk => by have := z5 k hk; omega) z4
          have hk4 : kn' = ((B + (o' ++ τ2.map pz).length + (nop st + (if (20 : Int) = 25 then 0 else 1)) : Nat) : Int) := hV4.1
          rw [if_neg (by decide)] at hk4
          have hk5 : kn' ≤ 64 := hV4.2.2.1
          obtain ⟨μ4, y1, y2, y3, y4⟩ := R_puts (d := d + 6) (ρ := ρ) (cs := cs) (k := 20) (v := 0) (x := 2) (y := 260) hρ z2 z3 (by omega) rfl rfl
          have ea : (τ2 ++ [20]) ++ st = τ2 ++ 20 :: st := by simp
          have eo : o' ++ (τ2 ++ [20]).map pz = (o' ++ τ2.map pz) ++ [(20, 0)] := by simp [pz]
          refine ⟨μ4, fe_tr fr3 y1, Or.inr ⟨a', τ2 ++ [20], kn', o', ⟨by omega, z1.2⟩, y2, by rw [eo]; exact y3, by rw [ea]; exact z4, fun k hk => ?_, by rw [ea]; exact hsy.trans z6, by omega, by rw [ea]; exact z8⟩, ?_⟩
          · rcases List.mem_append.mp hk with q | q
            · exact z5 k q
            · rw [List.mem_singleton.mp q]; decide
          · simp (disch := (first | omega | (simp (disch := omega) only [sr_up, wr_up_o]; omega))) only [e170_0, e170_6, e170_13, e170_17, e170_21, e170_29, ks_99, ite_self, Bool.false_eq_true, eq_self, isk_t, i20_t, w20_t, l23_t, b21_t, b22_t, w_t, bif_t, bif_f, bif_d, if_pos, if_neg, if_true, if_false, not_true_eq_false, not_false_eq_true, Option.bind_some, Option.toList_some, Option.toList_none, List.cons_append, List.nil_append, Int.toNat_natCast, Int.reduceToNat, up_eq, up_p, up_k, sN,  i15, f4, r3, k3, y4 ]
    · rw [if_neg c] at i15
      have i15 : ∀ d, am_E d 150 0 [some (.inr (.inr 99)), some (.inl 15)] [] (SH, ρ, μ, cs) = some (some (.inl 0), (SH, ρ, μ, cs)) := i15
      obtain ⟨μ0, s1, s2, s3⟩ := hO a (Nat.le_refl _) (d + 7) st op kn o μ (by omega) ha h hE hV hG (by omega) (fun e => absurd e c)
      have e0 : am_E (d + 8) 170 0 [some (.inr (.inr 99)), none] [] (SH, ρ, μ, cs) = am_E (d + 8) 170 34 [some (.inr (.inr 99)), none] [] (SH, ρ, μ0, cs) := by
        simp (disch := (first | omega | (simp (disch := omega) only [sr_up, wr_up_o]; omega))) only [e170_0, e170_6, ks_99, ite_self, Bool.false_eq_true, eq_self, isk_t, i20_t, w20_t, l23_t, b21_t, b22_t, w_t, bif_t, bif_f, bif_d, if_pos, if_neg, if_true, if_false, not_true_eq_false, not_false_eq_true, Option.bind_some, Option.toList_some, Option.toList_none, List.cons_append, List.nil_append, Int.toNat_natCast, Int.reduceToNat, up_eq, up_p, up_k, sN,  i15, s3 ]
      rcases s2 with ⟨q, z1, z2⟩ | ⟨a1, τ1, kn1, o1, p1, p2, p3, p4, p5, p6, p7, p8⟩
      · have hne : μ0 99 28 ≠ 0 := by rw [z1.1]; exact z1.2.2
        refine ⟨μ0, s1, Or.inl ⟨q, z1, z2⟩, ?_⟩
        rw [e0]
        simp (disch := (first | omega | (simp (disch := omega) only [sr_up, wr_up_o]; omega))) only [e170_34, ks_99, ite_self, Bool.false_eq_true, eq_self, isk_t, i20_t, w20_t, l23_t, b21_t, b22_t, w_t, bif_t, bif_f, bif_d, if_pos, if_neg, if_true, if_false, not_true_eq_false, not_false_eq_true, Option.bind_some, Option.toList_some, Option.toList_none, List.cons_append, List.nil_append, Int.toNat_natCast, Int.reduceToNat, up_eq, up_p, up_k, sN,  hne ]
      · by_cases c4 : rnk (tok b n a1).1 = 4
        · have hsb := sy_cmp (op := op) (kn := kn1) (o := o1) (st := st) (τ := τ1) p1.2 c4 p5 ht
          have hτ1 : ∀ k ∈ τ1, 1 ≤ rnk k := fun k hk => by have := p5 k hk; omega
          have hV1 := sv_app hτ1 p4
          have hkm1 : kn1 ≤ 64 := hV1.2.2.1
          have hkk1 : kn1 = ((B + (o1 ++ τ1.map pz).length + nop st : Nat) : Int) := hV1.1
          obtain ⟨μ1, f1, f2, f3, f4⟩ := R_knot (d := d + 6) (ρ := ρ) (cs := cs) p2 p3 (by omega) hkm1
          have msg := mk_sg (k := (tok b n a1).1) (by omega)
          have e1 := e0.trans (R_cmpY (d := d + 7) (ρ := ρ) (cs := cs) p2 c4 f4)
          by_cases c64 : 64 ≤ kn1
          · have hr := f2 c64
            have hne : μ1 99 28 ≠ 0 := by rw [hr.1]; exact hr.2.2
            have g1 := R_goOnF (ρ := ρ) (cs := cs) (d := d) hne
            have g2 := R_sumF (ρ := ρ) (cs := cs) (d := d + 4) hne
            have g3 := R_putsF (ρ := ρ) (cs := cs) (d := d + 6) (x := 2) (y := ksg (tok b n a1).1) hρ hne
            refine ⟨μ1, fe_tr s1 f1, Or.inl ⟨_, hr, by rw [p6, hsb, if_pos c64]⟩, ?_⟩
            rw [e1]
            generalize ksg (tok b n a1).1 = K at *
            simp (disch := (first | omega | (simp (disch := omega) only [sr_up, wr_up_o]; omega))) only [e170_96, e170_100, e170_104, e170_110, ks_99, ite_self, Bool.false_eq_true, eq_self, isk_t, i20_t, w20_t, l23_t, b21_t, b22_t, w_t, bif_t, bif_f, bif_d, if_pos, if_neg, if_true, if_false, not_true_eq_false, not_false_eq_true, Option.bind_some, Option.toList_some, Option.toList_none, List.cons_append, List.nil_append, Int.toNat_natCast, Int.reduceToNat, up_eq, up_p, up_k, sN,  g1, g2, g3 ]
          · obtain ⟨g1, g2, g3⟩ := f3 c64
            obtain ⟨μ2, r1, r2, r3⟩ := R_goOn (ρ := ρ) (cs := cs) (d := d) hρ g1
            have tg := tk_gt (b := b) p1.2 (fun e => by rw [e] at c4; exact absurd c4 (by decide))
            have k25 : (tok b n a1).1 ≠ 25 := fun e => by rw [e] at c4; exact absurd c4 (by decide)
            have hV2 : SV B ((tok b n a1).1 :: st, op, kn1 + 1, o1 ++ τ1.map pz) := sv_wk hV1 k25 (by unfold wk; rw [if_neg c64])
            have hG2 : SG ((tok b n a1).1 :: st) := fun x hx => by
              rcases List.mem_cons.mp hx with rfl | hx
              · exact Or.inl (by omega)
              · exact hG x hx
            have hdn3 : dN op (kn1 + 1) + 1 ≤ dN op kn := by
              unfold dN
              omega
            obtain ⟨μ3, k1, k2, k3⟩ := hO (tok b n a1).2.2.2 (by omega) (d + 7) ((tok b n a1).1 :: st) op (kn1 + 1) (o1 ++ τ1.map pz) μ2 (by omega) tg.2 r2 (re_fw g2 (fw_fr r1)) hV2 hG2 (by show rnk (tok b n a1).1 < 5; omega) (fun _ => Or.inr (by show 3 < rnk (tok b n a1).1; omega))
            have fr3 : FE B μ μ3 := fe_tr (fe_tr (fe_tr s1 f1) (fe_fw (fw_fr r1))) k1
            have hS2 : sy b n a true (st, op, kn, o) = sy b n (tok b n a1).2.2.2 true ((tok b n a1).1 :: st, op, kn1 + 1, o1 ++ τ1.map pz) := by rw [p6, hsb, if_neg c64]
            rcases k2 with ⟨q, z1, z2⟩ | ⟨a', τ2, kn', o', z1, z2, z3, z4, z5, z6, z7, z8⟩
            · have hne : μ3 99 28 ≠ 0 := by rw [z1.1]; exact z1.2.2
              have g3 := R_putsF (ρ := ρ) (cs := cs) (d := d + 6) (x := 2) (y := ksg (tok b n a1).1) hρ hne
              refine ⟨μ3, fr3, Or.inl ⟨q, z1, hS2.trans z2⟩, ?_⟩
              rw [e1]
              generalize ksg (tok b n a1).1 = K at *
              simp (disch := (first | omega | (simp (disch := omega) only [sr_up, wr_up_o]; omega))) only [e170_96, e170_100, e170_104, e170_110, ks_99, ite_self, Bool.false_eq_true, eq_self, isk_t, i20_t, w20_t, l23_t, b21_t, b22_t, w_t, bif_t, bif_f, bif_d, if_pos, if_neg, if_true, if_false, not_true_eq_false, not_false_eq_true, Option.bind_some, Option.toList_some, Option.toList_none, List.cons_append, List.nil_append, Int.toNat_natCast, Int.reduceToNat, up_eq, up_p, up_k, sN,  r3, k3, g3 ]
            · have hV4 := sv_app (fun k hk => by have := z5 k hk; omega) z4
              have hk4 : kn' = ((B + (o' ++ τ2.map pz).length + (nop st + (if (tok b n a1).1 = 25 then 0 else 1)) : Nat) : Int) := hV4.1
              rw [if_neg k25] at hk4
              have hk5 : kn' ≤ 64 := hV4.2.2.1
              obtain ⟨μ4, y1, y2, y3, y4⟩ := R_puts (d := d + 6) (ρ := ρ) (cs := cs) hρ z2 z3 (by omega) msg.1 msg.2
              have ea : (τ2 ++ [(tok b n a1).1]) ++ st = τ2 ++ (tok b n a1).1 :: st := by simp
              have eo : o' ++ (τ2 ++ [(tok b n a1).1]).map pz = (o' ++ τ2.map pz) ++ [((tok b n a1).1, 0)] := by simp [pz]
              refine ⟨μ4, fe_tr fr3 y1, Or.inr ⟨a', τ2 ++ [(tok b n a1).1], kn', o', ⟨by omega, z1.2⟩, y2, by rw [eo]; exact y3, by rw [ea]; exact z4, fun k hk => ?_, by rw [ea]; exact hS2.trans z6, by omega, ?_⟩, ?_⟩
              · rcases List.mem_append.mp hk with q | q
                · have := z5 k q; omega
                · rw [List.mem_singleton.mp q]; omega
              · rw [ea]
                refine en_53 z8 (fun _ => ?_)
                rw [stl_ts z5 (by show rnk (tok b n a1).1 < 5; omega)]
                exact c4
              · rw [e1]
                clear ea eo
                generalize ksg (tok b n a1).1 = K at *
                simp (disch := (first | omega | (simp (disch := omega) only [sr_up, wr_up_o]; omega))) only [e170_96, e170_100, e170_104, e170_110, ks_99, ite_self, Bool.false_eq_true, eq_self, isk_t, i20_t, w20_t, l23_t, b21_t, b22_t, w_t, bif_t, bif_f, bif_d, if_pos, if_neg, if_true, if_false, not_true_eq_false, not_false_eq_true, Option.bind_some, Option.toList_some, Option.toList_none, List.cons_append, List.nil_append, Int.toNat_natCast, Int.reduceToNat, up_eq, up_p, up_k, sN,  r3, k3, y4 ]
        · refine ⟨μ0, s1, Or.inr ⟨a1, τ1, kn1, o1, p1, p2, p3, p4, fun k hk => by have := p5 k hk; omega, p6, p7, en_53 p8 (fun e => absurd e c4)⟩, ?_⟩
          rw [e0]
          exact R_cmpN (d := d + 7) p2 c4
/-- a law's words, read whole -/
theorem R_exprA (hρ : RM ρ) : ∀ (m a : Nat), n < a + m → SPC g ρ cs b n B 1 1 168 [some (.inr (.inr 99))] 0 a := by
  intro m
  induction m with
  | zero =>
    intro a hm D st op kn o μ hD ha
    omega
  | succ m ih =>
    intro a hm
    by_cases ha : a ≤ n
    · have hP : ∀ a', a ≤ a' → SPC g ρ cs b n B 7 7 173 [some (.inr (.inr 99)), none] 5 a' := fun a' h' => R_prim hρ (fun a'' h'' => ih a'' (by omega))
      exact R_expr hρ (fun a1 h1 => R_conj hρ (fun a2 h2 => R_neg hρ (n + 1) a2 (by omega) (fun a3 h3 => R_sum hρ (fun a4 h4 => R_prod hρ (fun a5 h5 => hP a5 (by omega))))))
    · intro D st op kn o μ hD ha'
      exact absurd ha' ha
end RNG
