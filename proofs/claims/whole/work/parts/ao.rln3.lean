/-! TEXT: the reference's lines, on -/
section RLO
variable {ρ : Nat → Nat → Nat} {μ : Nat → Nat → Int} {cs : Nat × Nat × Nat} {d n a i : Nat} {b : Nat → Int} {Z : MS}
theorem R_thing2 (hρ : RM ρ) (h : RH μ b n a) (hn : 0 ≤ μ 99 22) (hn2 : μ 99 22 < 1000) (hZ : SR2 μ = Z) (hi : Z 0 1 = (i : Int)) (hi7 : i < 6) : RLo ρ cs b n μ (am_E (d + 8) 163 96 [some (.inr (.inr 99)), some (.inl 1), none, none, none, none] [.inl 1] (SH, ρ, μ, cs)) (bnd (nN b n (nmR Z 3) (Z 0 1).toNat a) fun q => bnd (nU b n 0 99 q.2) fun w => bnd (nU b n 0 99 w.2) fun x => bnd (lE b n x.2) fun a' => .inr (zp (zp (zp (zp Z 3 (Z 0 1) q.1) 4 (Z 0 1) w.1) 5 (Z 0 1) x.1) 0 1 (Z 0 1 + 1), a')) := by
  have ei : (Z 0 1).toNat = i := by omega
  have m0 : μ 101 11 = (i : Int) := by rw [← hi, ← hZ]; rfl
  have en : nmR Z 3 = fun j => μ 104 (6 + j) := by rw [← hZ]; rfl
  rw [ei, en]
  have e7 : ((6 : Int) + (i : Int)).toNat = 6 + i := by omega
  obtain ⟨μ1, f1, f2, f3⟩ := R_nN (d := d) (cs := cs) (c := i) (q := 104) (len := 12) (B := 6) hρ h (ks_104 cs.2.2) (by omega) (by omega)
  have n0 : μ1 101 11 = (i : Int) := by rw [f1 _ _ (by omega)]; exact m0
  have st1 : ∀ {Q : Int}, am_E (d + 7) 155 0 [some (.inr (.inr 99)), some (.inr (.inr 104)), some (.inl 6), some (.inl (i : Int)), none] [] (SH, ρ, μ, cs) = some (some (.inl Q), (SH, ρ, μ1, cs)) → am_E (d + 8) 163 96 [some (.inr (.inr 99)), some (.inl 1), none, none, none, none] [.inl 1] (SH, ρ, μ, cs) = am_E (d + 8) 163 235 [some (.inr (.inr 99)), some (.inl 1), none, some (.inl (6 + (i : Int))), none, none] [.inl Q, .inl (6 + (i : Int)), .inr (.inr 104)] (SH, ρ, μ1, cs) := by
    intro Q r2
    simp (disch := (first | omega | (simp (disch := omega) only [sr_up, wr_up_o]; omega))) only [e163_96_c1, e163_213, e163_232, e156_0, ks_101, ks_104, ks_99, rm_number hρ, rm_thingName hρ, ite_self, Bool.false_eq_true, eq_self, isk_t, i20_t, w20_t, l23_t, b21_t, b22_t, w_t, bif_t, bif_f, bif_d, if_pos, if_neg, if_true, if_false, not_true_eq_false, not_false_eq_true, Option.bind_some, Option.toList_some, Option.toList_none, List.cons_append, List.nil_append, Int.toNat_natCast, Int.reduceToNat, up_eq, up_p, up_k, sN,  Int.reduceAdd, m0, e7, r2 ]
  have st2 : ∀ {Q W : Int} {μ2 : Nat → Nat → Int}, am_E (d + 7) 153 0 [some (.inr (.inr 99)), some (.inl 0), some (.inl 99), none] [] (SH, ρ, am_up μ1 104 (6 + i) Q, cs) = some (some (.inl W), (SH, ρ, μ2, cs)) → am_E (d + 8) 163 235 [some (.inr (.inr 99)), some (.inl 1), none, some (.inl (6 + (i : Int))), none, none] [.inl Q, .inl (6 + (i : Int)), .inr (.inr 104)] (SH, ρ, μ1, cs) = am_E (d + 8) 163 249 [some (.inr (.inr 99)), some (.inl 1), none, some (.inl (6 + (i : Int))), none, none] [] (SH, ρ, am_up μ2 105 (6 + i) W, cs) := by
    intro Q W μ2 r2
    simp (disch := (first | omega | (simp (disch := omega) only [sr_up, wr_up_o]; omega))) only [e163_235, e163_248, ks_105, ks_99, rm_thingDay hρ, ite_self, Bool.false_eq_true, eq_self, isk_t, i20_t, w20_t, l23_t, b21_t, b22_t, w_t, bif_t, bif_f, bif_d, if_pos, if_neg, if_true, if_false, not_true_eq_false, not_false_eq_true, Option.bind_some, Option.toList_some, Option.toList_none, List.cons_append, List.nil_append, Int.toNat_natCast, Int.reduceToNat, up_eq, up_p, up_k, sN,  e7, r2, ks_104 ]
  have st3 : ∀ {W : Int} {μ2 μ4 : Nat → Nat → Int}, μ4 101 11 = (i : Int) → am_E (d + 7) 153 0 [some (.inr (.inr 99)), some (.inl 0), some (.inl 99), none] [] (SH, ρ, μ2, cs) = some (some (.inl W), (SH, ρ, μ4, cs)) → am_E (d + 8) 163 249 [some (.inr (.inr 99)), some (.inl 1), none, some (.inl (6 + (i : Int))), none, none] [] (SH, ρ, μ2, cs) = am_E (d + 8) 163 506 [some (.inr (.inr 99)), some (.inl 1), none, some (.inl (6 + (i : Int))), none, none] [] (SH, ρ, am_up (am_up μ4 106 (6 + i) W) 101 11 ((i : Int) + 1), cs) := by
    intro W μ2 μ4 p0 r2
    simp (disch := (first | omega | (simp (disch := omega) only [sr_up, wr_up_o]; omega))) only [e163_249, e163_261, e163_269, e163_274, e156_0, e157_0, ks_101, ks_106, ks_99, rm_number hρ, rm_thingHats hρ, ite_self, Bool.false_eq_true, eq_self, isk_t, i20_t, w20_t, l23_t, b21_t, b22_t, w_t, bif_t, bif_f, bif_d, if_pos, if_neg, if_true, if_false, not_true_eq_false, not_false_eq_true, Option.bind_some, Option.toList_some, Option.toList_none, List.cons_append, List.nil_append, Int.toNat_natCast, Int.reduceToNat, up_eq, up_p, up_k, sN,  Int.reduceAdd, p0, e7, r2 ]
  cases hq : nN b n (fun j => μ 104 (6 + j)) i a with
  | inl q =>
    obtain ⟨r1, r2⟩ := f2 q hq
    have hne : μ1 99 28 ≠ 0 := by rw [r1.1]; exact r1.2.2
    have he := R_eolF (d := d + 1) (ρ := ρ) (cs := cs) (μ := am_up (am_up (am_up (am_up μ1 104 (6 + i) 0) 105 (6 + i) 0) 106 (6 + i) 0) 101 11 ((i : Int) + 1)) (w := 1) (l2 := none) (l3 := some (.inl ((6 : Int) + i))) (l4 := none) (l5 := none) (by simp (disch := omega) only [up_p]; exact hne)
    refine ⟨am_up (am_up (am_up (am_up μ1 104 (6 + i) 0) 105 (6 + i) 0) 106 (6 + i) 0) 101 11 ((i : Int) + 1), fz_row 0 1 (fz_row 5 i (fz_row 4 i (fz_row 3 i (fz_fw f1) (by decide)) (by decide)) (by decide)) (by decide), ⟨by simp (disch := omega) only [up_p]; exact r1.1, by simp (disch := omega) only [up_p]; exact r1.2.1, r1.2.2⟩, ?_⟩
    rw [st1 r2, st2 (R_nUF (by simp (disch := omega) only [up_p]; exact hne)), st3 (by simp (disch := omega) only [up_p]; exact n0) (R_nUF (by simp (disch := omega) only [up_p]; exact hne))]
    exact he
  | inr q =>
    obtain ⟨r1, r2⟩ := f3 q hq
    show RLo ρ cs b n μ _ (bnd (nU b n 0 99 q.2) _)
    obtain ⟨μ2, g1, g2, g3⟩ := R_nU (d := d) (cs := cs) (lo := 0) (hi := 99) hρ (rh_up (q := 104) (k := 6 + i) (v := q.1) r1 (by omega))
    have p0 : μ2 101 11 = (i : Int) := by rw [g1 _ _ (by omega), up_p (by omega)]; exact n0
    have frA : FZ μ μ2 := fz_tr (fz_row 3 i (fz_fw f1) (by decide)) (fz_fw g1)
    cases hw : nU b n 0 99 q.2 with
    | inl w =>
      obtain ⟨s1, s2⟩ := g2 w hw
      have hne : μ2 99 28 ≠ 0 := by rw [s1.1]; exact s1.2.2
      have he := R_eolF (d := d + 1) (ρ := ρ) (cs := cs) (μ := am_up (am_up (am_up μ2 105 (6 + i) 0) 106 (6 + i) 0) 101 11 ((i : Int) + 1)) (w := 1) (l2 := none) (l3 := some (.inl ((6 : Int) + i))) (l4 := none) (l5 := none) (by simp (disch := omega) only [up_p]; exact hne)
      refine ⟨am_up (am_up (am_up μ2 105 (6 + i) 0) 106 (6 + i) 0) 101 11 ((i : Int) + 1), fz_row 0 1 (fz_row 5 i (fz_row 4 i frA (by decide)) (by decide)) (by decide), ⟨by simp (disch := omega) only [up_p]; exact s1.1, by simp (disch := omega) only [up_p]; exact s1.2.1, s1.2.2⟩, ?_⟩
      rw [st1 r2, st2 s2, st3 (by simp (disch := omega) only [up_p]; exact p0) (R_nUF (by simp (disch := omega) only [up_p]; exact hne))]
      exact he
    | inr w =>
      obtain ⟨s1, s2⟩ := g3 w hw
      show RLo ρ cs b n μ _ (bnd (nU b n 0 99 w.2) _)
      obtain ⟨μ4, l1, l2, l3⟩ := R_nU (d := d) (cs := cs) (lo := 0) (hi := 99) hρ (rh_up (q := 105) (k := 6 + i) (v := w.1) s1 (by omega))
      have p4 : μ4 101 11 = (i : Int) := by rw [l1 _ _ (by omega), up_p (by omega)]; exact p0
      have frC : FZ μ μ4 := fz_tr (fz_row 4 i frA (by decide)) (fz_fw l1)
      cases hx : nU b n 0 99 w.2 with
      | inl x =>
        obtain ⟨v1, v2⟩ := l2 x hx
        have hne : μ4 99 28 ≠ 0 := by rw [v1.1]; exact v1.2.2
        have he := R_eolF (d := d + 1) (ρ := ρ) (cs := cs) (μ := am_up (am_up μ4 106 (6 + i) 0) 101 11 ((i : Int) + 1)) (w := 1) (l2 := none) (l3 := some (.inl ((6 : Int) + i))) (l4 := none) (l5 := none) (by simp (disch := omega) only [up_p]; exact hne)
        refine ⟨am_up (am_up μ4 106 (6 + i) 0) 101 11 ((i : Int) + 1), fz_row 0 1 (fz_row 5 i frC (by decide)) (by decide), ⟨by simp (disch := omega) only [up_p]; exact v1.1, by simp (disch := omega) only [up_p]; exact v1.2.1, v1.2.2⟩, ?_⟩
        rw [st1 r2, st2 s2, st3 p4 v2]
        exact he
      | inr x =>
        obtain ⟨v1, v2⟩ := l3 x hx
        show RLo ρ cs b n μ _ (bnd (lE b n x.2) _)
        have l22 : (am_up (am_up μ4 106 (6 + i) x.1) 101 11 ((i : Int) + 1)) 99 22 = μ 99 22 := by rw [up_p (by omega), up_p (by omega), l1 _ _ (by omega), up_p (by omega), g1 _ _ (by omega), up_p (by omega), f1 _ _ (by omega)]
        obtain ⟨μ3, k1, k2, k3, k4⟩ := R_eol (d := d + 1) (cs := cs) (w := 1) (l2 := none) (l3 := some (.inl ((6 : Int) + i))) (l4 := none) (l5 := none) hρ (rh_up (q := 101) (k := 11) (v := (i : Int) + 1) (rh_up (q := 106) (k := 6 + i) (v := x.1) v1 (by omega)) (by omega)) (by rw [l22]; exact hn) (by rw [l22]; exact hn2)
        have frB : FZ μ μ3 := fz_tr (fz_row 0 1 (fz_row 5 i frC (by decide)) (by decide)) (fun q k hq => k1 q k (by omega))
        have run : am_E (d + 8) 163 96 [some (.inr (.inr 99)), some (.inl 1), none, none, none, none] [.inl 1] (SH, ρ, μ, cs) = some (none, (SH, ρ, μ3, cs)) := by
          rw [st1 r2, st2 s2, st3 p4 v2]
          exact k4
        refine ⟨μ3, frB, ?_⟩
        cases he : lE b n x.2 with
        | inl y => exact ⟨k2 y he, run⟩
        | inr a' =>
          obtain ⟨t1, t2⟩ := k3 a' he
          refine ⟨t1, ?_, t2.trans (by rw [l22]), ?_, ?_, ?_, run⟩
          · have e1 : SR2 μ3 = SR2 (am_up (am_up μ4 106 (6 + i) x.1) 101 11 ((i : Int) + 1)) := sr2_fr (fun q k h0 h1 => k1 q k (by omega))
            have e2 : SR2 μ2 = SR2 (am_up μ1 104 (6 + i) q.1) := fw_sr2 g1
            have e4 : SR2 μ4 = SR2 (am_up μ2 105 (6 + i) w.1) := fw_sr2 l1
            have e3 : SR2 μ1 = Z := (fw_sr2 f1).trans hZ
            have u1 := sr2_up (μ := am_up μ4 106 (6 + i) x.1) (a := 0) (i := 1) (v := (i : Int) + 1) (by decide)
            have u4 := sr2_up (μ := μ4) (a := 5) (i := i) (v := x.1) (by decide)
            have u2 := sr2_up (μ := μ2) (a := 4) (i := i) (v := w.1) (by decide)
            have u3 := sr2_up (μ := μ1) (a := 3) (i := i) (v := q.1) (by decide)
            show SR2 μ3 = zp (zp (zp (zp Z 3 (Z 0 1) q.1) 4 (Z 0 1) w.1) 5 (Z 0 1) x.1) 0 1 (Z 0 1 + 1)
            rw [e1, hi]
            refine u1.trans ?_
            rw [← e3, ← show SR2 (am_up μ1 104 (6 + i) q.1) = zp (SR2 μ1) 3 i q.1 from u3, ← e2, ← show SR2 (am_up μ2 105 (6 + i) w.1) = zp (SR2 μ2) 4 i w.1 from u2, ← e4, ← show SR2 (am_up μ4 106 (6 + i) x.1) = zp (SR2 μ4) 5 i x.1 from u4]
            all_goals rfl
          · rw [k1 _ _ (by omega), up_p (by omega), up_p (by omega), l1 _ _ (by omega), up_p (by omega), g1 _ _ (by omega), up_p (by omega), f1 _ _ (by omega)]
          · rw [k1 _ _ (by omega), up_p (by omega), up_p (by omega), l1 _ _ (by omega), up_p (by omega), g1 _ _ (by omega), up_p (by omega), f1 _ _ (by omega)]
          · rw [k1 _ _ (by omega), up_p (by omega), up_p (by omega), l1 _ _ (by omega), up_p (by omega), g1 _ _ (by omega), up_p (by omega), f1 _ _ (by omega)]
theorem R_set2 (hρ : RM ρ) (h : RH μ b n a) (hn : 0 ≤ μ 99 22) (hn2 : μ 99 22 < 1000) (hZ : SR2 μ = Z) {s : Nat} (hs : s < 4) : RLo ρ cs b n μ (am_E (d + 8) 163 96 [some (.inr (.inr 99)), some (.inl (5 + (s : Int))), none, none, none, none] [.inl (5 + (s : Int))] (SH, ρ, μ, cs)) (bnd (nU b n 0 (mxS s) a) fun q => bnd (lE b n q.2) fun a' => .inr (zp Z 0 (5 + s) q.1, a')) := by
  have st : ∀ {W : Int} {μ4 : Nat → Nat → Int}, am_E (d + 7) 153 0 [some (.inr (.inr 99)), some (.inl 0), some (.inl (mxS s)), none] [] (SH, ρ, μ, cs) = some (some (.inl W), (SH, ρ, μ4, cs)) → am_E (d + 8) 163 96 [some (.inr (.inr 99)), some (.inl (5 + (s : Int))), none, none, none, none] [.inl (5 + (s : Int))] (SH, ρ, μ, cs) = am_E (d + 8) 163 506 [some (.inr (.inr 99)), some (.inl (5 + (s : Int))), none, none, none, none] [] (SH, ρ, am_up μ4 101 (15 + s) W, cs) := by
    intro W μ4 r2
    rcases (show s = 0 ∨ s = 1 ∨ s = 2 ∨ s = 3 by omega) with rfl | rfl | rfl | rfl
    · have r2 : am_E (d + 7) 153 0 [some (.inr (.inr 99)), some (.inl 0), some (.inl 99), none] [] (SH, ρ, μ, cs) = some (some (.inl W), (SH, ρ, μ4, cs)) := r2
      show am_E (d + 8) 163 96 [some (.inr (.inr 99)), some (.inl 5), none, none, none, none] [.inl 5] (SH, ρ, μ, cs) = am_E (d + 8) 163 506 [some (.inr (.inr 99)), some (.inl 5), none, none, none, none] [] (SH, ρ, am_up μ4 101 15 W, cs)
      simp (disch := (first | omega | (simp (disch := omega) only [sr_up, wr_up_o]; omega))) only [e163_96_c5, e163_448, e163_451, e157_0, ks_101, ks_99, rm_number hρ, ite_self, Bool.false_eq_true, eq_self, isk_t, i20_t, w20_t, l23_t, b21_t, b22_t, w_t, bif_t, bif_f, bif_d, if_pos, if_neg, if_true, if_false, not_true_eq_false, not_false_eq_true, Option.bind_some, Option.toList_some, Option.toList_none, List.cons_append, List.nil_append, Int.toNat_natCast, Int.reduceToNat, up_eq, up_p, up_k, sN,  Int.reduceAdd, r2 ]
    · have r2 : am_E (d + 7) 153 0 [some (.inr (.inr 99)), some (.inl 0), some (.inl 99), none] [] (SH, ρ, μ, cs) = some (some (.inl W), (SH, ρ, μ4, cs)) := r2
      show am_E (d + 8) 163 96 [some (.inr (.inr 99)), some (.inl 6), none, none, none, none] [.inl 6] (SH, ρ, μ, cs) = am_E (d + 8) 163 506 [some (.inr (.inr 99)), some (.inl 6), none, none, none, none] [] (SH, ρ, am_up μ4 101 16 W, cs)
      simp (disch := (first | omega | (simp (disch := omega) only [sr_up, wr_up_o]; omega))) only [e163_96_c6, e163_464, e163_467, e157_0, ks_101, ks_99, rm_number hρ, ite_self, Bool.false_eq_true, eq_self, isk_t, i20_t, w20_t, l23_t, b21_t, b22_t, w_t, bif_t, bif_f, bif_d, if_pos, if_neg, if_true, if_false, not_true_eq_false, not_false_eq_true, Option.bind_some, Option.toList_some, Option.toList_none, List.cons_append, List.nil_append, Int.toNat_natCast, Int.reduceToNat, up_eq, up_p, up_k, sN,  Int.reduceAdd, r2 ]
    · have r2 : am_E (d + 7) 153 0 [some (.inr (.inr 99)), some (.inl 0), some (.inl 100), none] [] (SH, ρ, μ, cs) = some (some (.inl W), (SH, ρ, μ4, cs)) := r2
      show am_E (d + 8) 163 96 [some (.inr (.inr 99)), some (.inl 7), none, none, none, none] [.inl 7] (SH, ρ, μ, cs) = am_E (d + 8) 163 506 [some (.inr (.inr 99)), some (.inl 7), none, none, none, none] [] (SH, ρ, am_up μ4 101 17 W, cs)
      simp (disch := (first | omega | (simp (disch := omega) only [sr_up, wr_up_o]; omega))) only [e163_96_c7, e163_480, e163_483, e157_0, ks_101, ks_99, rm_number hρ, ite_self, Bool.false_eq_true, eq_self, isk_t, i20_t, w20_t, l23_t, b21_t, b22_t, w_t, bif_t, bif_f, bif_d, if_pos, if_neg, if_true, if_false, not_true_eq_false, not_false_eq_true, Option.bind_some, Option.toList_some, Option.toList_none, List.cons_append, List.nil_append, Int.toNat_natCast, Int.reduceToNat, up_eq, up_p, up_k, sN,  Int.reduceAdd, r2 ]
    · have r2 : am_E (d + 7) 153 0 [some (.inr (.inr 99)), some (.inl 0), some (.inl 99999), none] [] (SH, ρ, μ, cs) = some (some (.inl W), (SH, ρ, μ4, cs)) := r2
      show am_E (d + 8) 163 96 [some (.inr (.inr 99)), some (.inl 8), none, none, none, none] [.inl 8] (SH, ρ, μ, cs) = am_E (d + 8) 163 506 [some (.inr (.inr 99)), some (.inl 8), none, none, none, none] [] (SH, ρ, am_up μ4 101 18 W, cs)
      simp (disch := (first | omega | (simp (disch := omega) only [sr_up, wr_up_o]; omega))) only [e163_96_c8, e163_496, e163_499, e157_0, ks_101, ks_99, rm_number hρ, ite_self, Bool.false_eq_true, eq_self, isk_t, i20_t, w20_t, l23_t, b21_t, b22_t, w_t, bif_t, bif_f, bif_d, if_pos, if_neg, if_true, if_false, not_true_eq_false, not_false_eq_true, Option.bind_some, Option.toList_some, Option.toList_none, List.cons_append, List.nil_append, Int.toNat_natCast, Int.reduceToNat, up_eq, up_p, up_k, sN,  Int.reduceAdd, r2 ]
  obtain ⟨μ1, f1, f2, f3⟩ := R_nU (d := d) (cs := cs) (lo := 0) (hi := mxS s) hρ h
  have fzr : ∀ {v : Int}, FZ μ (am_up μ1 101 (15 + s) v) := fun {v} => by
    have := fz_row (v := v) 0 (5 + s) (fz_fw f1) (by decide)
    rw [show hfR 0 + (5 + s) = 15 + s by show 10 + (5 + s) = 15 + s; omega] at this
    exact this
  cases hq : nU b n 0 (mxS s) a with
  | inl q =>
    obtain ⟨r1, r2⟩ := f2 q hq
    have hne : μ1 99 28 ≠ 0 := by rw [r1.1]; exact r1.2.2
    have he := R_eolF (d := d + 1) (ρ := ρ) (cs := cs) (μ := am_up μ1 101 (15 + s) 0) (w := 5 + (s : Int)) (l2 := none) (l3 := none) (l4 := none) (l5 := none) (by simp (disch := omega) only [up_p]; exact hne)
    refine ⟨am_up μ1 101 (15 + s) 0, fzr, ⟨by simp (disch := omega) only [up_p]; exact r1.1, by simp (disch := omega) only [up_p]; exact r1.2.1, r1.2.2⟩, ?_⟩
    rw [st r2]
    exact he
  | inr q =>
    obtain ⟨r1, r2⟩ := f3 q hq
    show RLo ρ cs b n μ _ (bnd (lE b n q.2) _)
    have l22 : (am_up μ1 101 (15 + s) q.1) 99 22 = μ 99 22 := by rw [up_p (by omega), f1 _ _ (by omega)]
    obtain ⟨μ3, k1, k2, k3, k4⟩ := R_eol (d := d + 1) (cs := cs) (w := 5 + (s : Int)) (l2 := none) (l3 := none) (l4 := none) (l5 := none) hρ (rh_up (q := 101) (k := 15 + s) (v := q.1) r1 (by omega)) (by rw [l22]; exact hn) (by rw [l22]; exact hn2)
    have run : am_E (d + 8) 163 96 [some (.inr (.inr 99)), some (.inl (5 + (s : Int))), none, none, none, none] [.inl (5 + (s : Int))] (SH, ρ, μ, cs) = some (none, (SH, ρ, μ3, cs)) := by
      rw [st r2]
      exact k4
    refine ⟨μ3, fz_tr fzr (fun q k hq => k1 q k (by omega)), ?_⟩
    cases he : lE b n q.2 with
    | inl y => exact ⟨k2 y he, run⟩
    | inr a' =>
      obtain ⟨t1, t2⟩ := k3 a' he
      refine ⟨t1, ?_, t2.trans (by rw [l22]), ?_, ?_, ?_, run⟩
      · have e1 : SR2 μ3 = SR2 (am_up μ1 101 (15 + s) q.1) := sr2_fr (fun q k h0 h1 => k1 q k (by omega))
        have e3 : SR2 μ1 = Z := (fw_sr2 f1).trans hZ
        have u1 := sr2_up (μ := μ1) (a := 0) (i := 5 + s) (v := q.1) (by decide)
        rw [show hfR 0 + (5 + s) = 15 + s by show 10 + (5 + s) = 15 + s; omega] at u1
        show SR2 μ3 = zp Z 0 (5 + s) q.1
        rw [e1, ← e3]
        exact u1
      · rw [k1 _ _ (by omega), up_p (by omega), f1 _ _ (by omega)]
      · rw [k1 _ _ (by omega), up_p (by omega), f1 _ _ (by omega)]
      · rw [k1 _ _ (by omega), up_p (by omega), f1 _ _ (by omega)]
end RLO
