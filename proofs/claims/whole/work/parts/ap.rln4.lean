/-! TEXT: the reference's lines, ways and tellings -/
section RLP
variable {ρ : Nat → Nat → Nat} {μ : Nat → Nat → Int} {cs : Nat × Nat × Nat} {d n a i : Nat} {b : Nat → Int} {Z : MS}
theorem R_manH (hρ : RM ρ) (h : RH μ b n a) {c : Nat} (hc : μ 101 10 = (c : Int)) (hc7 : c ≤ 7) : ∃ μ', FW μ μ' ∧ (∀ y, oN b n (fun j => μ 102 (7 + j)) c a = .inl y → RF μ' y ∧ am_E (d + 8) 159 0 [some (.inr (.inr 99))] [] (SH, ρ, μ, cs) = some (some (.inl 0), (SH, ρ, μ', cs))) ∧ ∀ y, oN b n (fun j => μ 102 (7 + j)) c a = .inr y → μ' = μ ∧ am_E (d + 8) 159 0 [some (.inr (.inr 99))] [] (SH, ρ, μ, cs) = some (some (.inl y.1), (SH, ρ, μ', cs)) := by
  obtain ⟨μ1, f1, f2, f3⟩ := R_oN (d := d) (ρ := ρ) (cs := cs) (c := c) (q := 102) (len := 14) (B := 7) h (ks_102 cs.2.2) (by omega) (by omega)
  have st : ∀ {W : Int}, am_E (d + 7) 158 0 [some (.inr (.inr 99)), some (.inr (.inr 102)), some (.inl 7), some (.inl (c : Int)), none] [] (SH, ρ, μ, cs) = some (some (.inl W), (SH, ρ, μ1, cs)) → am_E (d + 8) 159 0 [some (.inr (.inr 99))] [] (SH, ρ, μ, cs) = some (some (.inl W), (SH, ρ, μ1, cs)) := by
    intro W r2
    simp (disch := (first | omega | (simp (disch := omega) only [sr_up, wr_up_o]; omega))) only [e159_0, e159_12, e159_15, e156_0, ks_101, ks_102, ks_99, rm_manName hρ, rm_number hρ, ite_self, Bool.false_eq_true, eq_self, isk_t, i20_t, w20_t, l23_t, b21_t, b22_t, w_t, bif_t, bif_f, bif_d, if_pos, if_neg, if_true, if_false, not_true_eq_false, not_false_eq_true, Option.bind_some, Option.toList_some, Option.toList_none, List.cons_append, List.nil_append, Int.toNat_natCast, Int.reduceToNat, up_eq, up_p, up_k, sN,  Int.reduceAdd, hc, r2 ]
  exact ⟨μ1, f1, fun y hy => ⟨(f2 y hy).1, st (f2 y hy).2⟩, fun y hy => ⟨(f3 y hy).1, st (f3 y hy).2⟩⟩
theorem R_manHF (hρ : RM ρ) (h : μ 99 28 ≠ 0) : am_E (d + 8) 159 0 [some (.inr (.inr 99))] [] (SH, ρ, μ, cs) = some (some (.inl 0), (SH, ρ, μ, cs)) := by
  simp (disch := (first | omega | (simp (disch := omega) only [sr_up, wr_up_o]; omega))) only [e159_0, e159_12, e159_15, e156_0, e158_0, ks_101, ks_102, ks_99, rm_manName hρ, rm_number hρ, ite_self, Bool.false_eq_true, eq_self, isk_t, i20_t, w20_t, l23_t, b21_t, b22_t, w_t, bif_t, bif_f, bif_d, if_pos, if_neg, if_true, if_false, not_true_eq_false, not_false_eq_true, Option.bind_some, Option.toList_some, Option.toList_none, List.cons_append, List.nil_append, Int.toNat_natCast, Int.reduceToNat, up_eq, up_p, up_k, sN,  Int.reduceAdd, h ]
theorem R_manA (hρ : RM ρ) (h : RH μ b n a) {c : Nat} (hc : μ 101 10 = (c : Int)) (hc7 : c ≤ 7) : ∃ μ', FW μ μ' ∧ (∀ y, oN b n (fun j => μ 102 (7 + j)) c a = .inl y → RF μ' y ∧ am_E (d + 9) 160 0 [some (.inr (.inr 99)), none] [] (SH, ρ, μ, cs) = some (some (.inl 0), (SH, ρ, μ', cs))) ∧ ∀ y, oN b n (fun j => μ 102 (7 + j)) c a = .inr y → RH μ' b n y.2 ∧ am_E (d + 9) 160 0 [some (.inr (.inr 99)), none] [] (SH, ρ, μ, cs) = some (some (.inl y.1), (SH, ρ, μ', cs)) := by
  obtain ⟨μ1, f1, f2, f3⟩ := R_manH (d := d) (cs := cs) hρ h hc hc7
  cases hh : oN b n (fun j => μ 102 (7 + j)) c a with
  | inl y =>
    obtain ⟨r1, r2⟩ := f2 y hh
    have hne : μ1 99 28 ≠ 0 := by rw [r1.1]; exact r1.2.2
    have hg := R_goOnF (ρ := ρ) (cs := cs) (d := d + 1) hne
    refine ⟨μ1, f1, fun z hz => ?_, fun z hz => (by cases hz)⟩
    cases hz
    refine ⟨r1, ?_⟩
    simp (disch := (first | omega | (simp (disch := omega) only [sr_up, wr_up_o]; omega))) only [e160_0, e160_4, e160_9, ks_99, ite_self, Bool.false_eq_true, eq_self, isk_t, i20_t, w20_t, l23_t, b21_t, b22_t, w_t, bif_t, bif_f, bif_d, if_pos, if_neg, if_true, if_false, not_true_eq_false, not_false_eq_true, Option.bind_some, Option.toList_some, Option.toList_none, List.cons_append, List.nil_append, Int.toNat_natCast, Int.reduceToNat, up_eq, up_p, up_k, sN,  r2, hg ]
  | inr y =>
    obtain ⟨r1, r2⟩ := f3 y hh
    subst r1
    obtain ⟨μ2, g1, g2, g3⟩ := R_goOn (ρ := ρ) (cs := cs) (d := d + 1) hρ h
    obtain ⟨_, _, rfl⟩ := oN_inr hh
    refine ⟨μ2, fw_fr g1, fun z hz => (by cases hz), fun z hz => ?_⟩
    cases hz
    refine ⟨g2, ?_⟩
    generalize fnd (fun j => μ1 102 (7 + j)) 0 (tok b n a).2.1 c 0 = F at *
    simp (disch := (first | omega | (simp (disch := omega) only [sr_up, wr_up_o]; omega))) only [e160_0, e160_4, e160_9, ks_99, ite_self, Bool.false_eq_true, eq_self, isk_t, i20_t, w20_t, l23_t, b21_t, b22_t, w_t, bif_t, bif_f, bif_d, if_pos, if_neg, if_true, if_false, not_true_eq_false, not_false_eq_true, Option.bind_some, Option.toList_some, Option.toList_none, List.cons_append, List.nil_append, Int.toNat_natCast, Int.reduceToNat, up_eq, up_p, up_k, sN,  r2, g3 ]
theorem R_manAF (hρ : RM ρ) (h : μ 99 28 ≠ 0) : am_E (d + 9) 160 0 [some (.inr (.inr 99)), none] [] (SH, ρ, μ, cs) = some (some (.inl 0), (SH, ρ, μ, cs)) := by
  have h1 := R_manHF (d := d) (cs := cs) hρ h
  have h2 := R_goOnF (ρ := ρ) (cs := cs) (d := d + 1) h
  simp (disch := (first | omega | (simp (disch := omega) only [sr_up, wr_up_o]; omega))) only [e160_0, e160_4, e160_9, ks_99, ite_self, Bool.false_eq_true, eq_self, isk_t, i20_t, w20_t, l23_t, b21_t, b22_t, w_t, bif_t, bif_f, bif_d, if_pos, if_neg, if_true, if_false, not_true_eq_false, not_false_eq_true, Option.bind_some, Option.toList_some, Option.toList_none, List.cons_append, List.nil_append, Int.toNat_natCast, Int.reduceToNat, up_eq, up_p, up_k, sN,  h1, h2 ]
theorem R_thA (hρ : RM ρ) (h : RH μ b n a) {c : Nat} (hc : μ 101 11 = (c : Int)) (hc7 : c ≤ 6) : ∃ μ', FW μ μ' ∧ (∀ y, oN b n (fun j => μ 104 (6 + j)) c a = .inl y → RF μ' y ∧ am_E (d + 9) 161 0 [some (.inr (.inr 99)), none] [] (SH, ρ, μ, cs) = some (some (.inl 0), (SH, ρ, μ', cs))) ∧ ∀ y, oN b n (fun j => μ 104 (6 + j)) c a = .inr y → RH μ' b n y.2 ∧ am_E (d + 9) 161 0 [some (.inr (.inr 99)), none] [] (SH, ρ, μ, cs) = some (some (.inl y.1), (SH, ρ, μ', cs)) := by
  obtain ⟨μ1, f1, f2, f3⟩ := R_oN (d := d + 1) (ρ := ρ) (cs := cs) (c := c) (q := 104) (len := 12) (B := 6) h (ks_104 cs.2.2) (by omega) (by omega)
  cases hh : oN b n (fun j => μ 104 (6 + j)) c a with
  | inl y =>
    obtain ⟨r1, r2⟩ := f2 y hh
    have r2 : am_E (d + 8) 158 0 [some (.inr (.inr 99)), some (.inr (.inr 104)), some (.inl 6), some (.inl (c : Int)), none] [] (SH, ρ, μ, cs) = some (some (.inl 0), (SH, ρ, μ1, cs)) := r2
    have hne : μ1 99 28 ≠ 0 := by rw [r1.1]; exact r1.2.2
    have hg := R_goOnF (ρ := ρ) (cs := cs) (d := d + 1) hne
    refine ⟨μ1, f1, fun z hz => ?_, fun z hz => (by cases hz)⟩
    cases hz
    refine ⟨r1, ?_⟩
    simp (disch := (first | omega | (simp (disch := omega) only [sr_up, wr_up_o]; omega))) only [e161_0, e161_12, e161_15, e161_20, e156_0, ks_101, ks_104, ks_99, rm_number hρ, rm_thingName hρ, ite_self, Bool.false_eq_true, eq_self, isk_t, i20_t, w20_t, l23_t, b21_t, b22_t, w_t, bif_t, bif_f, bif_d, if_pos, if_neg, if_true, if_false, not_true_eq_false, not_false_eq_true, Option.bind_some, Option.toList_some, Option.toList_none, List.cons_append, List.nil_append, Int.toNat_natCast, Int.reduceToNat, up_eq, up_p, up_k, sN,  Int.reduceAdd, hc, r2, hg ]
  | inr y =>
    obtain ⟨r1, r2⟩ := f3 y hh
    have r2 : am_E (d + 8) 158 0 [some (.inr (.inr 99)), some (.inr (.inr 104)), some (.inl 6), some (.inl (c : Int)), none] [] (SH, ρ, μ, cs) = some (some (.inl y.1), (SH, ρ, μ1, cs)) := r2
    subst r1
    obtain ⟨μ2, g1, g2, g3⟩ := R_goOn (ρ := ρ) (cs := cs) (d := d + 1) hρ h
    obtain ⟨_, _, rfl⟩ := oN_inr hh
    refine ⟨μ2, fw_fr g1, fun z hz => (by cases hz), fun z hz => ?_⟩
    cases hz
    refine ⟨g2, ?_⟩
    have r2 : am_E (d + 8) 158 0 [some (.inr (.inr 99)), some (.inr (.inr 104)), some (.inl 6), some (.inl (c : Int)), none] [] (SH, ρ, μ1, cs) = some (some (.inl (fnd (fun j => μ1 104 (6 + j)) 0 (tok b n a).2.1 c 0)), (SH, ρ, μ1, cs)) := r2
    show (_ : Option am_Res) = some (some (.inl (fnd (fun j => μ1 104 (6 + j)) 0 (tok b n a).2.1 c 0)), (SH, ρ, μ2, cs))
    generalize fnd (fun j => μ1 104 (6 + j)) 0 (tok b n a).2.1 c 0 = F at *
    simp (disch := (first | omega | (simp (disch := omega) only [sr_up, wr_up_o]; omega))) only [e161_0, e161_12, e161_15, e161_20, e156_0, ks_101, ks_104, ks_99, rm_number hρ, rm_thingName hρ, ite_self, Bool.false_eq_true, eq_self, isk_t, i20_t, w20_t, l23_t, b21_t, b22_t, w_t, bif_t, bif_f, bif_d, if_pos, if_neg, if_true, if_false, not_true_eq_false, not_false_eq_true, Option.bind_some, Option.toList_some, Option.toList_none, List.cons_append, List.nil_append, Int.toNat_natCast, Int.reduceToNat, up_eq, up_p, up_k, sN,  Int.reduceAdd, hc, r2, g3 ]
theorem R_thAF (hρ : RM ρ) (h : μ 99 28 ≠ 0) : am_E (d + 9) 161 0 [some (.inr (.inr 99)), none] [] (SH, ρ, μ, cs) = some (some (.inl 0), (SH, ρ, μ, cs)) := by
  have h2 := R_goOnF (ρ := ρ) (cs := cs) (d := d + 1) h
  simp (disch := (first | omega | (simp (disch := omega) only [sr_up, wr_up_o]; omega))) only [e161_0, e161_12, e161_15, e161_20, e156_0, e158_0, ks_101, ks_104, ks_99, rm_number hρ, rm_thingName hρ, ite_self, Bool.false_eq_true, eq_self, isk_t, i20_t, w20_t, l23_t, b21_t, b22_t, w_t, bif_t, bif_f, bif_d, if_pos, if_neg, if_true, if_false, not_true_eq_false, not_false_eq_true, Option.bind_some, Option.toList_some, Option.toList_none, List.cons_append, List.nil_append, Int.toNat_natCast, Int.reduceToNat, up_eq, up_p, up_k, sN,  Int.reduceAdd, h, h2 ]
theorem R_way (hρ : RM ρ) (h : RH μ b n a) (hn : 0 ≤ μ 99 22) (hn2 : μ 99 22 < 1000) (hZ : SR2 μ = Z) {c : Nat} (hc : Z 0 0 = (c : Int)) (hc7 : c ≤ 7) (hi : Z 0 3 = (i : Int)) (hi7 : i < 12) : RLo ρ cs b n μ (am_E (d + 10) 163 96 [some (.inr (.inr 99)), some (.inl 3), none, none, none, none] [.inl 3] (SH, ρ, μ, cs)) (bnd (oN b n (nmR Z 1) (Z 0 0).toNat a) fun q => bnd (oN b n (nmR Z 1) (Z 0 0).toNat q.2) fun w => if w.1 = q.1 then .inl (5, (tok b n q.2).2.2.1) else bnd (nU b n 1 9 w.2) fun x => bnd (lE b n x.2) fun a' => .inr (zp (zp (zp (zp Z 8 (Z 0 3) q.1) 9 (Z 0 3) w.1) 10 (Z 0 3) x.1) 0 3 (Z 0 3 + 1), a')) := by
  have ei : (Z 0 0).toNat = c := by omega
  have mc : μ 101 10 = (c : Int) := by rw [← hc, ← hZ]; rfl
  have m0 : μ 101 13 = (i : Int) := by rw [← hi, ← hZ]; rfl
  have en : nmR Z 1 = fun j => μ 102 (7 + j) := by rw [← hZ]; rfl
  rw [ei, en]
  have e7 : ((12 : Int) + (i : Int)).toNat = 12 + i := by omega
  have st1 : ∀ {Q : Int} {μ1 : Nat → Nat → Int}, am_E (d + 9) 160 0 [some (.inr (.inr 99)), none] [] (SH, ρ, μ, cs) = some (some (.inl Q), (SH, ρ, μ1, cs)) → am_E (d + 10) 163 96 [some (.inr (.inr 99)), some (.inl 3), none, none, none, none] [.inl 3] (SH, ρ, μ, cs) = am_E (d + 10) 163 304 [some (.inr (.inr 99)), some (.inl 3), none, none, some (.inl (12 + (i : Int))), none] [.inl Q, .inl (12 + (i : Int)), .inr (.inr 109)] (SH, ρ, μ1, cs) := by
    intro Q μ1 r2
    simp (disch := (first | omega | (simp (disch := omega) only [sr_up, wr_up_o]; omega))) only [e163_96_c3, e163_291, e156_0, ks_101, ks_109, ks_99, rm_number hρ, rm_wayFrom hρ, ite_self, Bool.false_eq_true, eq_self, isk_t, i20_t, w20_t, l23_t, b21_t, b22_t, w_t, bif_t, bif_f, bif_d, if_pos, if_neg, if_true, if_false, not_true_eq_false, not_false_eq_true, Option.bind_some, Option.toList_some, Option.toList_none, List.cons_append, List.nil_append, Int.toNat_natCast, Int.reduceToNat, up_eq, up_p, up_k, sN,  Int.reduceAdd, m0, e7, r2 ]
  have st2 : ∀ {Q W : Int} {μ1 μ2 : Nat → Nat → Int}, am_E (d + 9) 159 0 [some (.inr (.inr 99))] [] (SH, ρ, am_up μ1 109 (12 + i) Q, cs) = some (some (.inl W), (SH, ρ, μ2, cs)) → am_E (d + 10) 163 304 [some (.inr (.inr 99)), some (.inl 3), none, none, some (.inl (12 + (i : Int))), none] [.inl Q, .inl (12 + (i : Int)), .inr (.inr 109)] (SH, ρ, μ1, cs) = am_E (d + 10) 163 315 [some (.inr (.inr 99)), some (.inl 3), none, none, some (.inl (12 + (i : Int))), none] [.inl W, .inl (12 + (i : Int)), .inr (.inr 110)] (SH, ρ, μ2, cs) := by
    intro Q W μ1 μ2 r2
    simp (disch := (first | omega | (simp (disch := omega) only [sr_up, wr_up_o]; omega))) only [e163_304, ks_110, ks_99, rm_wayTo hρ, ite_self, Bool.false_eq_true, eq_self, isk_t, i20_t, w20_t, l23_t, b21_t, b22_t, w_t, bif_t, bif_f, bif_d, if_pos, if_neg, if_true, if_false, not_true_eq_false, not_false_eq_true, Option.bind_some, Option.toList_some, Option.toList_none, List.cons_append, List.nil_append, Int.toNat_natCast, Int.reduceToNat, up_eq, up_p, up_k, sN,  e7, r2, ks_109 ]
  have st3F : ∀ {W : Int} {μ2 : Nat → Nat → Int}, μ2 99 28 ≠ 0 → am_E (d + 10) 163 315 [some (.inr (.inr 99)), some (.inl 3), none, none, some (.inl (12 + (i : Int))), none] [.inl W, .inl (12 + (i : Int)), .inr (.inr 110)] (SH, ρ, μ2, cs) = am_E (d + 10) 163 345 [some (.inr (.inr 99)), some (.inl 3), none, none, some (.inl (12 + (i : Int))), none] [] (SH, ρ, am_up μ2 110 (12 + i) W, cs) := by
    intro W μ2 hne
    simp (disch := (first | omega | (simp (disch := omega) only [sr_up, wr_up_o]; omega))) only [e163_315, ks_109, ks_110, ks_99, rm_wayFrom hρ, rm_wayTo hρ, ite_self, Bool.false_eq_true, eq_self, isk_t, i20_t, w20_t, l23_t, b21_t, b22_t, w_t, bif_t, bif_f, bif_d, if_pos, if_neg, if_true, if_false, not_true_eq_false, not_false_eq_true, Option.bind_some, Option.toList_some, Option.toList_none, List.cons_append, List.nil_append, Int.toNat_natCast, Int.reduceToNat, up_eq, up_p, up_k, sN,  e7, hne, ks_110 ]
  have st3 : ∀ {Q W : Int} {μ2 : Nat → Nat → Int}, μ2 99 28 = 0 → μ2 109 (12 + i) = Q → W ≠ Q → am_E (d + 10) 163 315 [some (.inr (.inr 99)), some (.inl 3), none, none, some (.inl (12 + (i : Int))), none] [.inl W, .inl (12 + (i : Int)), .inr (.inr 110)] (SH, ρ, μ2, cs) = am_E (d + 10) 163 345 [some (.inr (.inr 99)), some (.inl 3), none, none, some (.inl (12 + (i : Int))), none] [] (SH, ρ, am_up μ2 110 (12 + i) W, cs) := by
    intro Q W μ2 h0 hQ hne
    simp (disch := (first | omega | (simp (disch := omega) only [sr_up, wr_up_o]; omega))) only [e163_315, ks_109, ks_110, ks_99, rm_wayFrom hρ, rm_wayTo hρ, ite_self, Bool.false_eq_true, eq_self, isk_t, i20_t, w20_t, l23_t, b21_t, b22_t, w_t, bif_t, bif_f, bif_d, if_pos, if_neg, if_true, if_false, not_true_eq_false, not_false_eq_true, Option.bind_some, Option.toList_some, Option.toList_none, List.cons_append, List.nil_append, Int.toNat_natCast, Int.reduceToNat, up_eq, up_p, up_k, sN,  e7, h0, hQ, hne, ks_110 ]
  have st3E : ∀ {Q : Int} {μ2 : Nat → Nat → Int}, μ2 99 28 = 0 → μ2 109 (12 + i) = Q → am_E (d + 10) 163 315 [some (.inr (.inr 99)), some (.inl 3), none, none, some (.inl (12 + (i : Int))), none] [.inl Q, .inl (12 + (i : Int)), .inr (.inr 110)] (SH, ρ, μ2, cs) = am_E (d + 10) 163 345 [some (.inr (.inr 99)), some (.inl 3), none, none, some (.inl (12 + (i : Int))), none] [] (SH, ρ, am_up (am_up (am_up μ2 110 (12 + i) Q) 99 28 5) 99 29 (μ2 99 25), cs) := by
    intro Q μ2 h0 hQ
    simp (disch := (first | omega | (simp (disch := omega) only [sr_up, wr_up_o]; omega))) only [e163_315, e149_0, ks_109, ks_110, ks_99, rm_wayFrom hρ, rm_wayTo hρ, ite_self, Bool.false_eq_true, eq_self, isk_t, i20_t, w20_t, l23_t, b21_t, b22_t, w_t, bif_t, bif_f, bif_d, if_pos, if_neg, if_true, if_false, not_true_eq_false, not_false_eq_true, Option.bind_some, Option.toList_some, Option.toList_none, List.cons_append, List.nil_append, Int.toNat_natCast, Int.reduceToNat, up_eq, up_p, up_k, sN,  e7, h0, hQ, ks_110 ]
  have st4 : ∀ {μ2 μ4 : Nat → Nat → Int}, am_E (d + 9) 152 0 [some (.inr (.inr 99))] [] (SH, ρ, μ2, cs) = some (none, (SH, ρ, μ4, cs)) → am_E (d + 10) 163 345 [some (.inr (.inr 99)), some (.inl 3), none, none, some (.inl (12 + (i : Int))), none] [] (SH, ρ, μ2, cs) = am_E (d + 10) 163 349 [some (.inr (.inr 99)), some (.inl 3), none, none, some (.inl (12 + (i : Int))), none] [] (SH, ρ, μ4, cs) := by
    intro μ2 μ4 r2
    simp (disch := (first | omega | (simp (disch := omega) only [sr_up, wr_up_o]; omega))) only [e163_345, ks_99, ite_self, Bool.false_eq_true, eq_self, isk_t, i20_t, w20_t, l23_t, b21_t, b22_t, w_t, bif_t, bif_f, bif_d, if_pos, if_neg, if_true, if_false, not_true_eq_false, not_false_eq_true, Option.bind_some, Option.toList_some, Option.toList_none, List.cons_append, List.nil_append, Int.toNat_natCast, Int.reduceToNat, up_eq, up_p, up_k, sN,  r2 ]
  have st5 : ∀ {W : Int} {μ2 μ4 : Nat → Nat → Int}, μ4 101 13 = (i : Int) → am_E (d + 9) 153 0 [some (.inr (.inr 99)), some (.inl 1), some (.inl 9), none] [] (SH, ρ, μ2, cs) = some (some (.inl W), (SH, ρ, μ4, cs)) → am_E (d + 10) 163 349 [some (.inr (.inr 99)), some (.inl 3), none, none, some (.inl (12 + (i : Int))), none] [] (SH, ρ, μ2, cs) = am_E (d + 10) 163 506 [some (.inr (.inr 99)), some (.inl 3), none, none, some (.inl (12 + (i : Int))), none] [] (SH, ρ, am_up (am_up μ4 111 (12 + i) W) 101 13 ((i : Int) + 1), cs) := by
    intro W μ2 μ4 p0 r2
    simp (disch := (first | omega | (simp (disch := omega) only [sr_up, wr_up_o]; omega))) only [e163_349, e163_362, e163_370, e163_375, e156_0, e157_0, ks_101, ks_111, ks_99, rm_number hρ, rm_wayDays hρ, ite_self, Bool.false_eq_true, eq_self, isk_t, i20_t, w20_t, l23_t, b21_t, b22_t, w_t, bif_t, bif_f, bif_d, if_pos, if_neg, if_true, if_false, not_true_eq_false, not_false_eq_true, Option.bind_some, Option.toList_some, Option.toList_none, List.cons_append, List.nil_append, Int.toNat_natCast, Int.reduceToNat, up_eq, up_p, up_k, sN,  Int.reduceAdd, p0, e7, r2 ]
  -- the rest, once there is a fault
  have fin : ∀ {μ2 : Nat → Nat → Int} {y : Int × Nat}, FZ μ μ2 → RF μ2 y → μ2 101 13 = (i : Int) → ∃ μ', FZ μ μ' ∧ RF μ' y ∧ am_E (d + 10) 163 345 [some (.inr (.inr 99)), some (.inl 3), none, none, some (.inl (12 + (i : Int))), none] [] (SH, ρ, μ2, cs) = some (none, (SH, ρ, μ', cs)) := by
    intro μ2 y hF hr p0
    have hne : μ2 99 28 ≠ 0 := by rw [hr.1]; exact hr.2.2
    have he := R_eolF (d := d + 3) (ρ := ρ) (cs := cs) (μ := am_up (am_up μ2 111 (12 + i) 1) 101 13 ((i : Int) + 1)) (w := 3) (l2 := none) (l3 := none) (l4 := some (.inl ((12 : Int) + i))) (l5 := none) (by simp (disch := omega) only [up_p]; exact hne)
    refine ⟨am_up (am_up μ2 111 (12 + i) 1) 101 13 ((i : Int) + 1), fz_row 0 3 (fz_row 10 i hF (by decide)) (by decide), ⟨by simp (disch := omega) only [up_p]; exact hr.1, by simp (disch := omega) only [up_p]; exact hr.2.1, hr.2.2⟩, ?_⟩
    rw [st4 (R_goOnF hne), st5 p0 (R_nUF hne)]
    exact he
  obtain ⟨μ1, f1, f2, f3⟩ := R_manA (d := d) (cs := cs) hρ h mc hc7
  have n0 : μ1 101 13 = (i : Int) := by rw [f1 _ _ (by omega)]; exact m0
  cases hq : oN b n (fun j => μ 102 (7 + j)) c a with
  | inl q =>
    obtain ⟨r1, r2⟩ := f2 q hq
    have hne : μ1 99 28 ≠ 0 := by rw [r1.1]; exact r1.2.2
    obtain ⟨μ', w1, w2, w3⟩ := fin (μ2 := am_up (am_up μ1 109 (12 + i) 0) 110 (12 + i) 0) (y := q) (fz_row 9 i (fz_row 8 i (fz_fw f1) (by decide)) (by decide)) ⟨by simp (disch := omega) only [up_p]; exact r1.1, by simp (disch := omega) only [up_p]; exact r1.2.1, r1.2.2⟩ (by simp (disch := omega) only [up_p]; exact n0)
    refine ⟨μ', w1, w2, ?_⟩
    rw [st1 r2, st2 (R_manHF hρ (by simp (disch := omega) only [up_p]; exact hne)), st3F (by simp (disch := omega) only [up_p]; exact hne)]
    exact w3
  | inr q =>
    obtain ⟨r1, r2⟩ := f3 q hq
    show RLo ρ cs b n μ _ (bnd (oN b n (fun j => μ 102 (7 + j)) c q.2) _)
    have eo : (fun j => μ 102 (7 + j)) = fun j => (am_up μ1 109 (12 + i) q.1) 102 (7 + j) := by funext j; rw [up_p (by omega), f1 _ _ (by omega)]
    rw [eo]
    obtain ⟨μ2, g1, g2, g3⟩ := R_manH (d := d + 1) (cs := cs) hρ (rh_up (q := 109) (k := 12 + i) (v := q.1) r1 (by omega)) (c := c) (by rw [up_p (by omega), f1 _ _ (by omega)]; exact mc) hc7
    have p0 : μ2 101 13 = (i : Int) := by rw [g1 _ _ (by omega), up_p (by omega)]; exact n0
    have frA : FZ μ μ2 := fz_tr (fz_row 8 i (fz_fw f1) (by decide)) (fz_fw g1)
    cases hw : oN b n (fun j => (am_up μ1 109 (12 + i) q.1) 102 (7 + j)) c q.2 with
    | inl w =>
      obtain ⟨s1, s2⟩ := g2 w hw
      have hne : μ2 99 28 ≠ 0 := by rw [s1.1]; exact s1.2.2
      obtain ⟨μ', w1, w2, w3⟩ := fin (μ2 := am_up μ2 110 (12 + i) 0) (y := w) (fz_row 9 i frA (by decide)) ⟨by simp (disch := omega) only [up_p]; exact s1.1, by simp (disch := omega) only [up_p]; exact s1.2.1, s1.2.2⟩ (by simp (disch := omega) only [up_p]; exact p0)
      refine ⟨μ', w1, w2, ?_⟩
      rw [st1 r2, st2 s2, st3F hne]
      exact w3
    | inr w =>
      obtain ⟨s1, s2⟩ := g3 w hw
      have s0 := rh_up (q := 109) (k := 12 + i) (v := q.1) r1 (by omega)
      rw [← s1] at s0
      have q9 : μ2 109 (12 + i) = q.1 := by rw [s1, up_eq]
      have h0 := s0.2.2
      show RLo ρ cs b n μ _ (if w.1 = q.1 then _ else _)
      by_cases cw : w.1 = q.1
      · rw [if_pos cw]
        obtain ⟨μ', w1, w2, w3⟩ := fin (μ2 := am_up (am_up (am_up μ2 110 (12 + i) q.1) 99 28 5) 99 29 (μ2 99 25)) (y := (5, (tok b n q.2).2.2.1)) (fz_up (fz_up (fz_row 9 i frA (by decide)) (by decide)) (by decide)) ⟨by rw [up_k (by omega), up_eq], by rw [up_eq]; exact s0.2.1.1, by show (5 : Int) ≠ 0; decide⟩ (by simp (disch := omega) only [up_p]; exact p0)
        refine ⟨μ', w1, w2, ?_⟩
        rw [st1 r2, st2 s2, cw, st3E h0 q9]
        exact w3
      · rw [if_neg cw]
        have hpos : w.2 = (tok b n q.2).2.2.2 := by obtain ⟨_, _, rfl⟩ := oN_inr hw; rfl
        obtain ⟨μ5, v1, v2, v3⟩ := R_goOn (ρ := ρ) (cs := cs) (d := d + 2) hρ (rh_up (q := 110) (k := 12 + i) (v := w.1) s0 (by omega))
        rw [← hpos] at v2
        obtain ⟨μ4, l1, l2, l3⟩ := R_nU (d := d + 2) (cs := cs) (lo := 1) (hi := 9) hρ v2
        have p4 : μ4 101 13 = (i : Int) := by rw [l1 _ _ (by omega), v1 _ _ (by omega), up_p (by omega)]; exact p0
        have frC : FZ μ μ4 := fz_tr (fz_tr (fz_row 9 i frA (by decide)) (fz_fw (fw_fr v1))) (fz_fw l1)
        cases hx : nU b n 1 9 w.2 with
        | inl x =>
          obtain ⟨y1, y2⟩ := l2 x hx
          have hne : μ4 99 28 ≠ 0 := by rw [y1.1]; exact y1.2.2
          have he := R_eolF (d := d + 3) (ρ := ρ) (cs := cs) (μ := am_up (am_up μ4 111 (12 + i) 1) 101 13 ((i : Int) + 1)) (w := 3) (l2 := none) (l3 := none) (l4 := some (.inl ((12 : Int) + i))) (l5 := none) (by simp (disch := omega) only [up_p]; exact hne)
          refine ⟨am_up (am_up μ4 111 (12 + i) 1) 101 13 ((i : Int) + 1), fz_row 0 3 (fz_row 10 i frC (by decide)) (by decide), ⟨by simp (disch := omega) only [up_p]; exact y1.1, by simp (disch := omega) only [up_p]; exact y1.2.1, y1.2.2⟩, ?_⟩
          rw [st1 r2, st2 s2, st3 h0 q9 cw, st4 v3, st5 p4 y2]
          exact he
        | inr x =>
          obtain ⟨y1, y2⟩ := l3 x hx
          show RLo ρ cs b n μ _ (bnd (lE b n x.2) _)
          have l22 : (am_up (am_up μ4 111 (12 + i) x.1) 101 13 ((i : Int) + 1)) 99 22 = μ 99 22 := by rw [up_p (by omega), up_p (by omega), l1 _ _ (by omega), v1 _ _ (by omega), up_p (by omega), g1 _ _ (by omega), up_p (by omega), f1 _ _ (by omega)]
          obtain ⟨μ3, k1, k2, k3, k4⟩ := R_eol (d := d + 3) (cs := cs) (w := 3) (l2 := none) (l3 := none) (l4 := some (.inl ((12 : Int) + i))) (l5 := none) hρ (rh_up (q := 101) (k := 13) (v := (i : Int) + 1) (rh_up (q := 111) (k := 12 + i) (v := x.1) y1 (by omega)) (by omega)) (by rw [l22]; exact hn) (by rw [l22]; exact hn2)
          have run : am_E (d + 10) 163 96 [some (.inr (.inr 99)), some (.inl 3), none, none, none, none] [.inl 3] (SH, ρ, μ, cs) = some (none, (SH, ρ, μ3, cs)) := by
            rw [st1 r2, st2 s2, st3 h0 q9 cw, st4 v3, st5 p4 y2]
            exact k4
          refine ⟨μ3, fz_tr (fz_row 0 3 (fz_row 10 i frC (by decide)) (by decide)) (fun q k hq => k1 q k (by omega)), ?_⟩
          cases he : lE b n x.2 with
          | inl y => exact ⟨k2 y he, run⟩
          | inr a' =>
            obtain ⟨t1, t2⟩ := k3 a' he
            refine ⟨t1, ?_, t2.trans (by rw [l22]), ?_, ?_, ?_, run⟩
            · have e1 : SR2 μ3 = SR2 (am_up (am_up μ4 111 (12 + i) x.1) 101 13 ((i : Int) + 1)) := sr2_fr (fun q k h0 h1 => k1 q k (by omega))
              have e2 : SR2 μ2 = SR2 (am_up μ1 109 (12 + i) q.1) := fw_sr2 g1
              have e4 : SR2 μ4 = SR2 (am_up μ2 110 (12 + i) w.1) := (fw_sr2 l1).trans (fw_sr2 (fw_fr v1))
              have e3 : SR2 μ1 = Z := (fw_sr2 f1).trans hZ
              have u1 := sr2_up (μ := am_up μ4 111 (12 + i) x.1) (a := 0) (i := 3) (v := (i : Int) + 1) (by decide)
              have u4 := sr2_up (μ := μ4) (a := 10) (i := i) (v := x.1) (by decide)
              have u2 := sr2_up (μ := μ2) (a := 9) (i := i) (v := w.1) (by decide)
              have u3 := sr2_up (μ := μ1) (a := 8) (i := i) (v := q.1) (by decide)
              show SR2 μ3 = zp (zp (zp (zp Z 8 (Z 0 3) q.1) 9 (Z 0 3) w.1) 10 (Z 0 3) x.1) 0 3 (Z 0 3 + 1)
              rw [e1, hi]
              refine u1.trans ?_
              rw [← e3, ← show SR2 (am_up μ1 109 (12 + i) q.1) = zp (SR2 μ1) 8 i q.1 from u3, ← e2, ← show SR2 (am_up μ2 110 (12 + i) w.1) = zp (SR2 μ2) 9 i w.1 from u2, ← e4, ← show SR2 (am_up μ4 111 (12 + i) x.1) = zp (SR2 μ4) 10 i x.1 from u4]
              all_goals rfl
            · rw [k1 _ _ (by omega), up_p (by omega), up_p (by omega), l1 _ _ (by omega), v1 _ _ (by omega), up_p (by omega), g1 _ _ (by omega), up_p (by omega), f1 _ _ (by omega)]
            · rw [k1 _ _ (by omega), up_p (by omega), up_p (by omega), l1 _ _ (by omega), v1 _ _ (by omega), up_p (by omega), g1 _ _ (by omega), up_p (by omega), f1 _ _ (by omega)]
            · rw [k1 _ _ (by omega), up_p (by omega), up_p (by omega), l1 _ _ (by omega), v1 _ _ (by omega), up_p (by omega), g1 _ _ (by omega), up_p (by omega), f1 _ _ (by omega)]
theorem R_tell2 (hρ : RM ρ) (h : RH μ b n a) (hn : 0 ≤ μ 99 22) (hn2 : μ 99 22 < 1000) (hZ : SR2 μ = Z) {c c1 : Nat} (hc : Z 0 0 = (c : Int)) (hc7 : c ≤ 7) (hc1 : Z 0 1 = (c1 : Int)) (hc6 : c1 ≤ 6) (hi : Z 0 4 = (i : Int)) (hi7 : i < 12) : RLo ρ cs b n μ (am_E (d + 10) 163 96 [some (.inr (.inr 99)), some (.inl 4), none, none, none, none] [.inl 4] (SH, ρ, μ, cs)) (bnd (oN b n (nmR Z 1) (Z 0 0).toNat a) fun q => bnd (oN b n (nmR Z 3) (Z 0 1).toNat q.2) fun w => bnd (nU b n 0 99 w.2) fun x => bnd (lE b n x.2) fun a' => .inr (zp (zp (zp (zp Z 11 (Z 0 4) q.1) 12 (Z 0 4) w.1) 13 (Z 0 4) x.1) 0 4 (Z 0 4 + 1), a')) := by
  have ei : (Z 0 0).toNat = c := by omega
  have ei1 : (Z 0 1).toNat = c1 := by omega
  have mc : μ 101 10 = (c : Int) := by rw [← hc, ← hZ]; rfl
  have mc1 : μ 101 11 = (c1 : Int) := by rw [← hc1, ← hZ]; rfl
  have m0 : μ 101 14 = (i : Int) := by rw [← hi, ← hZ]; rfl
  have en : nmR Z 1 = fun j => μ 102 (7 + j) := by rw [← hZ]; rfl
  have en3 : nmR Z 3 = fun j => μ 104 (6 + j) := by rw [← hZ]; rfl
  rw [ei, ei1, en, en3]
  have e7 : ((12 : Int) + (i : Int)).toNat = 12 + i := by omega
  have st1 : ∀ {Q : Int} {μ1 : Nat → Nat → Int}, am_E (d + 9) 160 0 [some (.inr (.inr 99)), none] [] (SH, ρ, μ, cs) = some (some (.inl Q), (SH, ρ, μ1, cs)) → am_E (d + 10) 163 96 [some (.inr (.inr 99)), some (.inl 4), none, none, none, none] [.inl 4] (SH, ρ, μ, cs) = am_E (d + 10) 163 399 [some (.inr (.inr 99)), some (.inl 4), none, none, none, some (.inl (12 + (i : Int)))] [] (SH, ρ, am_up μ1 112 (12 + i) Q, cs) := by
    intro Q μ1 r2
    simp (disch := (first | omega | (simp (disch := omega) only [sr_up, wr_up_o]; omega))) only [e163_96_c4, e163_385, e163_398, e156_0, ks_101, ks_112, ks_99, rm_number hρ, rm_tellWho hρ, ite_self, Bool.false_eq_true, eq_self, isk_t, i20_t, w20_t, l23_t, b21_t, b22_t, w_t, bif_t, bif_f, bif_d, if_pos, if_neg, if_true, if_false, not_true_eq_false, not_false_eq_true, Option.bind_some, Option.toList_some, Option.toList_none, List.cons_append, List.nil_append, Int.toNat_natCast, Int.reduceToNat, up_eq, up_p, up_k, sN,  Int.reduceAdd, m0, e7, r2, ks_112 ]
  have st2 : ∀ {W : Int} {μ1 μ2 : Nat → Nat → Int}, am_E (d + 9) 161 0 [some (.inr (.inr 99)), none] [] (SH, ρ, μ1, cs) = some (some (.inl W), (SH, ρ, μ2, cs)) → am_E (d + 10) 163 399 [some (.inr (.inr 99)), some (.inl 4), none, none, none, some (.inl (12 + (i : Int)))] [] (SH, ρ, μ1, cs) = am_E (d + 10) 163 409 [some (.inr (.inr 99)), some (.inl 4), none, none, none, some (.inl (12 + (i : Int)))] [.inl W, .inl (12 + (i : Int)), .inr (.inr 113)] (SH, ρ, μ2, cs) := by
    intro W μ1 μ2 r2
    simp (disch := (first | omega | (simp (disch := omega) only [sr_up, wr_up_o]; omega))) only [e163_399, ks_113, ks_99, rm_tellWhat hρ, ite_self, Bool.false_eq_true, eq_self, isk_t, i20_t, w20_t, l23_t, b21_t, b22_t, w_t, bif_t, bif_f, bif_d, if_pos, if_neg, if_true, if_false, not_true_eq_false, not_false_eq_true, Option.bind_some, Option.toList_some, Option.toList_none, List.cons_append, List.nil_append, Int.toNat_natCast, Int.reduceToNat, up_eq, up_p, up_k, sN,  e7, r2 ]
  have st5 : ∀ {W X : Int} {μ2 μ4 : Nat → Nat → Int}, μ4 101 14 = (i : Int) → am_E (d + 9) 153 0 [some (.inr (.inr 99)), some (.inl 0), some (.inl 99), none] [] (SH, ρ, am_up μ2 113 (12 + i) W, cs) = some (some (.inl X), (SH, ρ, μ4, cs)) → am_E (d + 10) 163 409 [some (.inr (.inr 99)), some (.inl 4), none, none, none, some (.inl (12 + (i : Int)))] [.inl W, .inl (12 + (i : Int)), .inr (.inr 113)] (SH, ρ, μ2, cs) = am_E (d + 10) 163 506 [some (.inr (.inr 99)), some (.inl 4), none, none, none, some (.inl (12 + (i : Int)))] [] (SH, ρ, am_up (am_up μ4 114 (12 + i) X) 101 14 ((i : Int) + 1), cs) := by
    intro W X μ2 μ4 p0 r2
    simp (disch := (first | omega | (simp (disch := omega) only [sr_up, wr_up_o]; omega))) only [e163_409, e163_423, e163_431, e163_436, e156_0, e157_0, ks_101, ks_114, ks_99, rm_number hρ, rm_tellDay hρ, ite_self, Bool.false_eq_true, eq_self, isk_t, i20_t, w20_t, l23_t, b21_t, b22_t, w_t, bif_t, bif_f, bif_d, if_pos, if_neg, if_true, if_false, not_true_eq_false, not_false_eq_true, Option.bind_some, Option.toList_some, Option.toList_none, List.cons_append, List.nil_append, Int.toNat_natCast, Int.reduceToNat, up_eq, up_p, up_k, sN,  Int.reduceAdd, p0, e7, r2, ks_113, ks_114 ]
  have fin : ∀ {μ4 : Nat → Nat → Int} {y : Int × Nat}, FZ μ μ4 → RF μ4 y → ∃ μ', FZ μ μ' ∧ RF μ' y ∧ am_E (d + 10) 163 506 [some (.inr (.inr 99)), some (.inl 4), none, none, none, some (.inl (12 + (i : Int)))] [] (SH, ρ, am_up (am_up μ4 114 (12 + i) 0) 101 14 ((i : Int) + 1), cs) = some (none, (SH, ρ, μ', cs)) := by
    intro μ4 y hF hr
    have hne : μ4 99 28 ≠ 0 := by rw [hr.1]; exact hr.2.2
    have he := R_eolF (d := d + 3) (ρ := ρ) (cs := cs) (μ := am_up (am_up μ4 114 (12 + i) 0) 101 14 ((i : Int) + 1)) (w := 4) (l2 := none) (l3 := none) (l4 := none) (l5 := some (.inl ((12 : Int) + i))) (by simp (disch := omega) only [up_p]; exact hne)
    exact ⟨am_up (am_up μ4 114 (12 + i) 0) 101 14 ((i : Int) + 1), fz_row 0 4 (fz_row 13 i hF (by decide)) (by decide), ⟨by simp (disch := omega) only [up_p]; exact hr.1, by simp (disch := omega) only [up_p]; exact hr.2.1, hr.2.2⟩, he⟩
  obtain ⟨μ1, f1, f2, f3⟩ := R_manA (d := d) (cs := cs) hρ h mc hc7
  have n0 : μ1 101 14 = (i : Int) := by rw [f1 _ _ (by omega)]; exact m0
  cases hq : oN b n (fun j => μ 102 (7 + j)) c a with
  | inl q =>
    obtain ⟨r1, r2⟩ := f2 q hq
    have hne : μ1 99 28 ≠ 0 := by rw [r1.1]; exact r1.2.2
    obtain ⟨μ', w1, w2, w3⟩ := fin (μ4 := am_up (am_up μ1 112 (12 + i) 0) 113 (12 + i) 0) (y := q) (fz_row 12 i (fz_row 11 i (fz_fw f1) (by decide)) (by decide)) ⟨by simp (disch := omega) only [up_p]; exact r1.1, by simp (disch := omega) only [up_p]; exact r1.2.1, r1.2.2⟩
    refine ⟨μ', w1, w2, ?_⟩
    rw [st1 r2, st2 (R_thAF hρ (by simp (disch := omega) only [up_p]; exact hne)), st5 (by simp (disch := omega) only [up_p]; exact n0) (R_nUF (by simp (disch := omega) only [up_p]; exact hne))]
    exact w3
  | inr q =>
    obtain ⟨r1, r2⟩ := f3 q hq
    show RLo ρ cs b n μ _ (bnd (oN b n (fun j => μ 104 (6 + j)) c1 q.2) _)
    have eo : (fun j => μ 104 (6 + j)) = fun j => (am_up μ1 112 (12 + i) q.1) 104 (6 + j) := by funext j; rw [up_p (by omega), f1 _ _ (by omega)]
    rw [eo]
    obtain ⟨μ2, g1, g2, g3⟩ := R_thA (d := d) (cs := cs) hρ (rh_up (q := 112) (k := 12 + i) (v := q.1) r1 (by omega)) (c := c1) (by rw [up_p (by omega), f1 _ _ (by omega)]; exact mc1) hc6
    have p0 : μ2 101 14 = (i : Int) := by rw [g1 _ _ (by omega), up_p (by omega)]; exact n0
    have frA : FZ μ μ2 := fz_tr (fz_row 11 i (fz_fw f1) (by decide)) (fz_fw g1)
    cases hw : oN b n (fun j => (am_up μ1 112 (12 + i) q.1) 104 (6 + j)) c1 q.2 with
    | inl w =>
      obtain ⟨s1, s2⟩ := g2 w hw
      have hne : μ2 99 28 ≠ 0 := by rw [s1.1]; exact s1.2.2
      obtain ⟨μ', w1, w2, w3⟩ := fin (μ4 := am_up μ2 113 (12 + i) 0) (y := w) (fz_row 12 i frA (by decide)) ⟨by simp (disch := omega) only [up_p]; exact s1.1, by simp (disch := omega) only [up_p]; exact s1.2.1, s1.2.2⟩
      refine ⟨μ', w1, w2, ?_⟩
      rw [st1 r2, st2 s2, st5 (by simp (disch := omega) only [up_p]; exact p0) (R_nUF (by simp (disch := omega) only [up_p]; exact hne))]
      exact w3
    | inr w =>
      obtain ⟨s1, s2⟩ := g3 w hw
      show RLo ρ cs b n μ _ (bnd (nU b n 0 99 w.2) _)
      obtain ⟨μ4, l1, l2, l3⟩ := R_nU (d := d + 2) (cs := cs) (lo := 0) (hi := 99) hρ (rh_up (q := 113) (k := 12 + i) (v := w.1) s1 (by omega))
      have p4 : μ4 101 14 = (i : Int) := by rw [l1 _ _ (by omega), up_p (by omega)]; exact p0
      have frC : FZ μ μ4 := fz_tr (fz_row 12 i frA (by decide)) (fz_fw l1)
      cases hx : nU b n 0 99 w.2 with
      | inl x =>
        obtain ⟨y1, y2⟩ := l2 x hx
        obtain ⟨μ', w1, w2, w3⟩ := fin (μ4 := μ4) (y := x) frC y1
        refine ⟨μ', w1, w2, ?_⟩
        rw [st1 r2, st2 s2, st5 p4 y2]
        exact w3
      | inr x =>
        obtain ⟨y1, y2⟩ := l3 x hx
        show RLo ρ cs b n μ _ (bnd (lE b n x.2) _)
        have l22 : (am_up (am_up μ4 114 (12 + i) x.1) 101 14 ((i : Int) + 1)) 99 22 = μ 99 22 := by rw [up_p (by omega), up_p (by omega), l1 _ _ (by omega), up_p (by omega), g1 _ _ (by omega), up_p (by omega), f1 _ _ (by omega)]
        obtain ⟨μ3, k1, k2, k3, k4⟩ := R_eol (d := d + 3) (cs := cs) (w := 4) (l2 := none) (l3 := none) (l4 := none) (l5 := some (.inl ((12 : Int) + i))) hρ (rh_up (q := 101) (k := 14) (v := (i : Int) + 1) (rh_up (q := 114) (k := 12 + i) (v := x.1) y1 (by omega)) (by omega)) (by rw [l22]; exact hn) (by rw [l22]; exact hn2)
        have run : am_E (d + 10) 163 96 [some (.inr (.inr 99)), some (.inl 4), none, none, none, none] [.inl 4] (SH, ρ, μ, cs) = some (none, (SH, ρ, μ3, cs)) := by
          rw [st1 r2, st2 s2, st5 p4 y2]
          exact k4
        refine ⟨μ3, fz_tr (fz_row 0 4 (fz_row 13 i frC (by decide)) (by decide)) (fun q k hq => k1 q k (by omega)), ?_⟩
        cases he : lE b n x.2 with
        | inl y => exact ⟨k2 y he, run⟩
        | inr a' =>
          obtain ⟨t1, t2⟩ := k3 a' he
          refine ⟨t1, ?_, t2.trans (by rw [l22]), ?_, ?_, ?_, run⟩
          · have e1 : SR2 μ3 = SR2 (am_up (am_up μ4 114 (12 + i) x.1) 101 14 ((i : Int) + 1)) := sr2_fr (fun q k h0 h1 => k1 q k (by omega))
            have e2 : SR2 μ2 = SR2 (am_up μ1 112 (12 + i) q.1) := fw_sr2 g1
            have e4 : SR2 μ4 = SR2 (am_up μ2 113 (12 + i) w.1) := fw_sr2 l1
            have e3 : SR2 μ1 = Z := (fw_sr2 f1).trans hZ
            have u1 := sr2_up (μ := am_up μ4 114 (12 + i) x.1) (a := 0) (i := 4) (v := (i : Int) + 1) (by decide)
            have u4 := sr2_up (μ := μ4) (a := 13) (i := i) (v := x.1) (by decide)
            have u2 := sr2_up (μ := μ2) (a := 12) (i := i) (v := w.1) (by decide)
            have u3 := sr2_up (μ := μ1) (a := 11) (i := i) (v := q.1) (by decide)
            show SR2 μ3 = zp (zp (zp (zp Z 11 (Z 0 4) q.1) 12 (Z 0 4) w.1) 13 (Z 0 4) x.1) 0 4 (Z 0 4 + 1)
            rw [e1, hi]
            refine u1.trans ?_
            rw [← e3, ← show SR2 (am_up μ1 112 (12 + i) q.1) = zp (SR2 μ1) 11 i q.1 from u3, ← e2, ← show SR2 (am_up μ2 113 (12 + i) w.1) = zp (SR2 μ2) 12 i w.1 from u2, ← e4, ← show SR2 (am_up μ4 114 (12 + i) x.1) = zp (SR2 μ4) 13 i x.1 from u4]
            all_goals rfl
          · rw [k1 _ _ (by omega), up_p (by omega), up_p (by omega), l1 _ _ (by omega), up_p (by omega), g1 _ _ (by omega), up_p (by omega), f1 _ _ (by omega)]
          · rw [k1 _ _ (by omega), up_p (by omega), up_p (by omega), l1 _ _ (by omega), up_p (by omega), g1 _ _ (by omega), up_p (by omega), f1 _ _ (by omega)]
          · rw [k1 _ _ (by omega), up_p (by omega), up_p (by omega), l1 _ _ (by omega), up_p (by omega), g1 _ _ (by omega), up_p (by omega), f1 _ _ (by omega)]
end RLP
