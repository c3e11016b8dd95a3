/-! TEXT: the reference's lines, who sees what -/
section RLQ
variable {ρ : Nat → Nat → Nat} {μ : Nat → Nat → Int} {cs : Nat × Nat × Nat} {d n a i : Nat} {b : Nat → Int} {Z : MS}
theorem R_seeF (hρ : RM ρ) (hi : i < 10) (h : μ 99 28 ≠ 0) : ∀ (m k : Nat), k + m = i → am_E (d + 1) 164 43 [some (.inr (.inr 99)), some (.inl (10 + (i : Int))), some (.inl (10 + (k : Int)))] [] (SH, ρ, μ, cs) = am_E (d + 1) 164 43 [some (.inr (.inr 99)), some (.inl (10 + (i : Int))), some (.inl (10 + (i : Int)))] [] (SH, ρ, μ, cs) := by
  intro m
  induction m with
  | zero => intro k hk; rw [show k = i by omega]
  | succ m ih =>
    intro k hk
    rw [← ih (k + 1) (by omega), show (10 : Int) + ((k + 1 : Nat) : Int) = 10 + (k : Int) + 1 by omega]
    rw [e164_43]; simp (disch := (first | omega | (simp (disch := omega) only [sr_up, wr_up_o]; omega))) only [e164_90, ks_107, ks_108, ks_99, rm_seesWhat hρ, rm_seesWho hρ, ite_self, Bool.false_eq_true, eq_self, isk_t, i20_t, w20_t, l23_t, b21_t, b22_t, w_t, bif_t, bif_f, bif_d, if_pos, if_neg, if_true, if_false, not_true_eq_false, not_false_eq_true, Option.bind_some, Option.toList_some, Option.toList_none, List.cons_append, List.nil_append, Int.toNat_natCast, Int.reduceToNat, up_eq, up_p, up_k, sN,  h ]
theorem R_see1 (hρ : RM ρ) (hi : i < 10) {p t : Int} (h : μ 99 28 = 0) (hp : μ 107 (10 + i) = p) (ht : μ 108 (10 + i) = t) (hZ : ∀ k : Nat, k < i → Z 6 k = μ 107 (10 + k) ∧ Z 7 k = μ 108 (10 + k)) : ∀ (m k : Nat), k + m = i → am_E (d + 1) 164 43 [some (.inr (.inr 99)), some (.inl (10 + (i : Int))), some (.inl (10 + (k : Int)))] [] (SH, ρ, μ, cs) = am_E (d + 1) 164 43 [some (.inr (.inr 99)), some (.inl (10 + (i : Int))), some (.inl (10 + (i : Int)))] [] (SH, ρ, if seeB Z p t m k = true then am_up (am_up μ 99 28 3) 99 29 (μ 99 25) else μ, cs) := by
  intro m
  induction m with
  | zero => intro k hk; rw [show k = i by omega]; rfl
  | succ m ih =>
    intro k hk
    obtain ⟨z6, z7⟩ := hZ k (by omega)
    have es : seeB Z p t (m + 1) k = (decide (Z 6 k = p ∧ Z 7 k = t) || seeB Z p t m ((k : Int) + 1)) := rfl
    have ek : ((10 : Int) + (k : Int)).toNat = 10 + k := by omega
    have eI : ((10 : Int) + (i : Int)).toNat = 10 + i := by omega
    have hn := ih (k + 1) (by omega)
    rw [show (10 : Int) + ((k + 1 : Nat) : Int) = 10 + (k : Int) + 1 by omega, show ((k + 1 : Nat) : Int) = (k : Int) + 1 by omega] at hn
    rw [es]
    by_cases c1 : μ 107 (10 + k) = p
    · by_cases c2 : μ 108 (10 + k) = t
      · rw [decide_eq_true ⟨by rw [z6]; exact c1, by rw [z7]; exact c2⟩, Bool.true_or, if_pos rfl]
        have hF := R_seeF (d := d) (ρ := ρ) (cs := cs) (μ := am_up (am_up μ 99 28 3) 99 29 (μ 99 25)) hρ hi (by rw [up_k (by omega), up_eq]; decide) m (k + 1) (by omega)
        rw [show (10 : Int) + ((k + 1 : Nat) : Int) = 10 + (k : Int) + 1 by omega] at hF
        rw [← hF]
        have hw := fun d => R_wr (ρ := ρ) (cs := cs) (d := d) (f := 3) h
        rw [e164_43]; simp (disch := (first | omega | (simp (disch := omega) only [sr_up, wr_up_o]; omega))) only [e164_90, ks_107, ks_108, ks_99, rm_seesWhat hρ, rm_seesWho hρ, ite_self, Bool.false_eq_true, eq_self, isk_t, i20_t, w20_t, l23_t, b21_t, b22_t, w_t, bif_t, bif_f, bif_d, if_pos, if_neg, if_true, if_false, not_true_eq_false, not_false_eq_true, Option.bind_some, Option.toList_some, Option.toList_none, List.cons_append, List.nil_append, Int.toNat_natCast, Int.reduceToNat, up_eq, up_p, up_k, sN,  h, ek, eI, hp, ht, c1, c2, hw ]
      · rw [decide_eq_false (fun e => c2 (by rw [← z7]; exact e.2)), Bool.false_or, ← hn]
        rw [e164_43]; simp (disch := (first | omega | (simp (disch := omega) only [sr_up, wr_up_o]; omega))) only [e164_90, ks_107, ks_108, ks_99, rm_seesWhat hρ, rm_seesWho hρ, ite_self, Bool.false_eq_true, eq_self, isk_t, i20_t, w20_t, l23_t, b21_t, b22_t, w_t, bif_t, bif_f, bif_d, if_pos, if_neg, if_true, if_false, not_true_eq_false, not_false_eq_true, Option.bind_some, Option.toList_some, Option.toList_none, List.cons_append, List.nil_append, Int.toNat_natCast, Int.reduceToNat, up_eq, up_p, up_k, sN,  h, ek, eI, hp, ht, c1, c2 ]
    · rw [decide_eq_false (fun e => c1 (by rw [← z6]; exact e.1)), Bool.false_or, ← hn]
      rw [e164_43]; simp (disch := (first | omega | (simp (disch := omega) only [sr_up, wr_up_o]; omega))) only [e164_90, ks_107, ks_108, ks_99, rm_seesWhat hρ, rm_seesWho hρ, ite_self, Bool.false_eq_true, eq_self, isk_t, i20_t, w20_t, l23_t, b21_t, b22_t, w_t, bif_t, bif_f, bif_d, if_pos, if_neg, if_true, if_false, not_true_eq_false, not_false_eq_true, Option.bind_some, Option.toList_some, Option.toList_none, List.cons_append, List.nil_append, Int.toNat_natCast, Int.reduceToNat, up_eq, up_p, up_k, sN,  h, ek, eI, hp, c1 ]
theorem R_sees (hρ : RM ρ) (h : RH μ b n a) (hn : 0 ≤ μ 99 22) (hn2 : μ 99 22 < 1000) (hZ : SR2 μ = Z) {c c1 : Nat} (hc : Z 0 0 = (c : Int)) (hc7 : c ≤ 7) (hc1 : Z 0 1 = (c1 : Int)) (hc6 : c1 ≤ 6) (hi : Z 0 2 = (i : Int)) (hi7 : i < 10) : RLo ρ cs b n μ (am_E (d + 11) 163 96 [some (.inr (.inr 99)), some (.inl 2), none, none, none, none] [.inl 2] (SH, ρ, μ, cs)) (bnd (oN b n (nmR Z 1) (Z 0 0).toNat a) fun q => bnd (oN b n (nmR Z 3) (Z 0 1).toNat q.2) fun w => if seeB Z q.1 w.1 (Z 0 2).toNat 0 = true then .inl (3, (tok b n q.2).2.2.1) else bnd (lE b n w.2) fun a' => .inr (zp (zp (zp Z 6 (Z 0 2) q.1) 7 (Z 0 2) w.1) 0 2 (Z 0 2 + 1), a')) := by
  have ei : (Z 0 0).toNat = c := by omega
  have ei1 : (Z 0 1).toNat = c1 := by omega
  have ei2 : (Z 0 2).toNat = i := by omega
  have mc : μ 101 10 = (c : Int) := by rw [← hc, ← hZ]; rfl
  have mc1 : μ 101 11 = (c1 : Int) := by rw [← hc1, ← hZ]; rfl
  have m0 : μ 101 12 = (i : Int) := by rw [← hi, ← hZ]; rfl
  have en : nmR Z 1 = fun j => μ 102 (7 + j) := by rw [← hZ]; rfl
  have en3 : nmR Z 3 = fun j => μ 104 (6 + j) := by rw [← hZ]; rfl
  rw [ei, ei1, ei2, en, en3]
  have e7 : ((10 : Int) + (i : Int)).toNat = 10 + i := by omega
  have st1 : ∀ {Q : Int} {μ1 : Nat → Nat → Int}, am_E (d + 9) 160 0 [some (.inr (.inr 99)), none] [] (SH, ρ, μ, cs) = some (some (.inl Q), (SH, ρ, μ1, cs)) → am_E (d + 10) 164 0 [some (.inr (.inr 99)), none, none] [] (SH, ρ, μ, cs) = am_E (d + 10) 164 18 [some (.inr (.inr 99)), some (.inl (10 + (i : Int))), none] [.inl Q, .inl (10 + (i : Int)), .inr (.inr 107)] (SH, ρ, μ1, cs) := by
    intro Q μ1 r2
    simp (disch := (first | omega | (simp (disch := omega) only [sr_up, wr_up_o]; omega))) only [e164_0, e164_7, e156_0, ks_101, ks_107, ks_99, rm_number hρ, rm_seesWho hρ, ite_self, Bool.false_eq_true, eq_self, isk_t, i20_t, w20_t, l23_t, b21_t, b22_t, w_t, bif_t, bif_f, bif_d, if_pos, if_neg, if_true, if_false, not_true_eq_false, not_false_eq_true, Option.bind_some, Option.toList_some, Option.toList_none, List.cons_append, List.nil_append, Int.toNat_natCast, Int.reduceToNat, up_eq, up_p, up_k, sN,  Int.reduceAdd, m0, e7, r2 ]
  have st2 : ∀ {Q W : Int} {μ1 μ2 : Nat → Nat → Int}, μ1 101 11 = (c1 : Int) → am_E (d + 9) 158 0 [some (.inr (.inr 99)), some (.inr (.inr 104)), some (.inl 6), some (.inl (c1 : Int)), none] [] (SH, ρ, am_up μ1 107 (10 + i) Q, cs) = some (some (.inl W), (SH, ρ, μ2, cs)) → am_E (d + 10) 164 18 [some (.inr (.inr 99)), some (.inl (10 + (i : Int))), none] [.inl Q, .inl (10 + (i : Int)), .inr (.inr 107)] (SH, ρ, μ1, cs) = am_E (d + 10) 164 43 [some (.inr (.inr 99)), some (.inl (10 + (i : Int))), some (.inl (10 + ((0 : Nat) : Int)))] [] (SH, ρ, am_up μ2 108 (10 + i) W, cs) := by
    intro Q W μ1 μ2 p1 r2
    simp (disch := (first | omega | (simp (disch := omega) only [sr_up, wr_up_o]; omega))) only [e164_18, e164_36, e164_39, e156_0, ks_101, ks_104, ks_108, ks_99, rm_number hρ, rm_seesWhat hρ, rm_thingName hρ, ite_self, Bool.false_eq_true, eq_self, isk_t, i20_t, w20_t, l23_t, b21_t, b22_t, w_t, bif_t, bif_f, bif_d, if_pos, if_neg, if_true, if_false, not_true_eq_false, not_false_eq_true, Option.bind_some, Option.toList_some, Option.toList_none, List.cons_append, List.nil_append, Int.toNat_natCast, Int.reduceToNat, up_eq, up_p, up_k, sN,  Int.reduceAdd, p1, e7, r2, ks_107, ks_108 ]
    all_goals rfl
  have st3 : ∀ {μ2 μ4 : Nat → Nat → Int}, μ4 101 12 = (i : Int) → am_E (d + 9) 152 0 [some (.inr (.inr 99))] [] (SH, ρ, μ2, cs) = some (none, (SH, ρ, μ4, cs)) → am_E (d + 10) 164 43 [some (.inr (.inr 99)), some (.inl (10 + (i : Int))), some (.inl (10 + (i : Int)))] [] (SH, ρ, μ2, cs) = some (none, (SH, ρ, am_up μ4 101 12 ((i : Int) + 1), cs)) := by
    intro μ2 μ4 p0 r2
    rw [e164_43]; simp (disch := (first | omega | (simp (disch := omega) only [sr_up, wr_up_o]; omega))) only [e164_100, e164_107, e164_112, e156_0, e157_0, ks_101, ks_107, ks_108, ks_99, rm_number hρ, rm_seesWhat hρ, rm_seesWho hρ, ite_self, Bool.false_eq_true, eq_self, isk_t, i20_t, w20_t, l23_t, b21_t, b22_t, w_t, bif_t, bif_f, bif_d, if_pos, if_neg, if_true, if_false, not_true_eq_false, not_false_eq_true, Option.bind_some, Option.toList_some, Option.toList_none, List.cons_append, List.nil_append, Int.toNat_natCast, Int.reduceToNat, up_eq, up_p, up_k, sN,  Int.reduceAdd, p0, r2 ]
  have st0 : ∀ {μ4 : Nat → Nat → Int}, am_E (d + 10) 164 0 [some (.inr (.inr 99)), none, none] [] (SH, ρ, μ, cs) = some (none, (SH, ρ, μ4, cs)) → am_E (d + 11) 163 96 [some (.inr (.inr 99)), some (.inl 2), none, none, none, none] [.inl 2] (SH, ρ, μ, cs) = am_E (d + 11) 163 506 [some (.inr (.inr 99)), some (.inl 2), none, none, none, none] [] (SH, ρ, μ4, cs) := by
    intro μ4 r2
    simp (disch := (first | omega | (simp (disch := omega) only [sr_up, wr_up_o]; omega))) only [e163_96_c2, e163_281, ks_99, ite_self, Bool.false_eq_true, eq_self, isk_t, i20_t, w20_t, l23_t, b21_t, b22_t, w_t, bif_t, bif_f, bif_d, if_pos, if_neg, if_true, if_false, not_true_eq_false, not_false_eq_true, Option.bind_some, Option.toList_some, Option.toList_none, List.cons_append, List.nil_append, Int.toNat_natCast, Int.reduceToNat, up_eq, up_p, up_k, sN,  r2 ]
  have fin : ∀ {μ2 : Nat → Nat → Int} {y : Int × Nat}, FZ μ μ2 → RF μ2 y → μ2 101 12 = (i : Int) → am_E (d + 10) 164 0 [some (.inr (.inr 99)), none, none] [] (SH, ρ, μ, cs) = am_E (d + 10) 164 43 [some (.inr (.inr 99)), some (.inl (10 + (i : Int))), some (.inl (10 + (i : Int)))] [] (SH, ρ, μ2, cs) → ∃ μ', FZ μ μ' ∧ RF μ' y ∧ am_E (d + 11) 163 96 [some (.inr (.inr 99)), some (.inl 2), none, none, none, none] [.inl 2] (SH, ρ, μ, cs) = some (none, (SH, ρ, μ', cs)) := by
    intro μ2 y hF hr p0 hrun
    have hne : μ2 99 28 ≠ 0 := by rw [hr.1]; exact hr.2.2
    have he := R_eolF (d := d + 4) (ρ := ρ) (cs := cs) (μ := am_up μ2 101 12 ((i : Int) + 1)) (w := 2) (l2 := none) (l3 := none) (l4 := none) (l5 := none) (by simp (disch := omega) only [up_p]; exact hne)
    refine ⟨am_up μ2 101 12 ((i : Int) + 1), fz_row 0 2 hF (by decide), ⟨by simp (disch := omega) only [up_p]; exact hr.1, by simp (disch := omega) only [up_p]; exact hr.2.1, hr.2.2⟩, ?_⟩
    rw [st0 (hrun.trans (st3 p0 (R_goOnF hne)))]
    exact he
  obtain ⟨μ1, f1, f2, f3⟩ := R_manA (d := d) (cs := cs) hρ h mc hc7
  have n0 : μ1 101 12 = (i : Int) := by rw [f1 _ _ (by omega)]; exact m0
  have n1 : μ1 101 11 = (c1 : Int) := by rw [f1 _ _ (by omega)]; exact mc1
  cases hq : oN b n (fun j => μ 102 (7 + j)) c a with
  | inl q =>
    obtain ⟨r1, r2⟩ := f2 q hq
    have hne : μ1 99 28 ≠ 0 := by rw [r1.1]; exact r1.2.2
    exact fin (μ2 := am_up (am_up μ1 107 (10 + i) 0) 108 (10 + i) 0) (y := q) (fz_row 7 i (fz_row 6 i (fz_fw f1) (by decide)) (by decide)) ⟨by simp (disch := omega) only [up_p]; exact r1.1, by simp (disch := omega) only [up_p]; exact r1.2.1, r1.2.2⟩ (by simp (disch := omega) only [up_p]; exact n0) (by
      rw [st1 r2, st2 n1 (R_oNF (B := 6) (c := c1) (d := d + 2) (by simp (disch := omega) only [up_p]; exact hne))]
      exact R_seeF (d := d + 9) hρ hi7 (by simp (disch := omega) only [up_p]; exact hne) i 0 (by omega))
  | inr q =>
    obtain ⟨r1, r2⟩ := f3 q hq
    show RLo ρ cs b n μ _ (bnd (oN b n (fun j => μ 104 (6 + j)) c1 q.2) _)
    have eo : (fun j => μ 104 (6 + j)) = fun j => (am_up μ1 107 (10 + i) q.1) 104 (6 + j) := by funext j; rw [up_p (by omega), f1 _ _ (by omega)]
    rw [eo]
    have r1' := rh_up (q := 107) (k := 10 + i) (v := q.1) r1 (by omega)
    obtain ⟨μ2, g1, g2, g3⟩ := R_oN (d := d + 2) (ρ := ρ) (cs := cs) (c := c1) (q := 104) (len := 12) (B := 6) r1' (ks_104 cs.2.2) (by omega) (by omega)
    have p0 : μ2 101 12 = (i : Int) := by rw [g1 _ _ (by omega), up_p (by omega)]; exact n0
    have frA : FZ μ μ2 := fz_tr (fz_row 6 i (fz_fw f1) (by decide)) (fz_fw g1)
    cases hw : oN b n (fun j => (am_up μ1 107 (10 + i) q.1) 104 (6 + j)) c1 q.2 with
    | inl w =>
      obtain ⟨s1, s2⟩ := g2 w hw
      have hne : μ2 99 28 ≠ 0 := by rw [s1.1]; exact s1.2.2
      exact fin (μ2 := am_up μ2 108 (10 + i) 0) (y := w) (fz_row 7 i frA (by decide)) ⟨by simp (disch := omega) only [up_p]; exact s1.1, by simp (disch := omega) only [up_p]; exact s1.2.1, s1.2.2⟩ (by simp (disch := omega) only [up_p]; exact p0) (by
        rw [st1 r2, st2 n1 s2]
        exact R_seeF (d := d + 9) hρ hi7 (by simp (disch := omega) only [up_p]; exact hne) i 0 (by omega))
    | inr w =>
      obtain ⟨s1, s2⟩ := g3 w hw
      rw [← s1] at r1'
      have s0 := rh_up (q := 108) (k := 10 + i) (v := w.1) r1' (by omega)
      have h0 := s0.2.2
      have hs := R_see1 (d := d + 9) (ρ := ρ) (cs := cs) (μ := am_up μ2 108 (10 + i) w.1) (Z := Z) (p := q.1) (t := w.1) hρ hi7 h0 (by rw [up_p (by omega), s1, up_eq]) up_eq (fun k hk => by
        rw [← hZ]
        constructor
        · rw [up_p (by omega), s1, up_k (by omega), f1 _ _ (by omega)]; rfl
        · rw [up_k (by omega), s1, up_p (by omega), f1 _ _ (by omega)]; rfl) i 0 (by omega)
      have hrun := ((st1 r2).trans (st2 n1 s2)).trans hs
      show RLo ρ cs b n μ _ (if seeB Z q.1 w.1 i 0 = true then _ else _)
      have hpos : w.2 = (tok b n q.2).2.2.2 := by obtain ⟨_, _, rfl⟩ := oN_inr hw; rfl
      by_cases cw : seeB Z q.1 w.1 i 0 = true
      · rw [if_pos (show seeB Z q.1 w.1 i ((0 : Nat) : Int) = true from cw)] at hrun
        rw [if_pos cw]
        exact fin (y := (3, (tok b n q.2).2.2.1)) (fz_up (fz_up (fz_row 7 i frA (by decide)) (by decide)) (by decide)) (rf_wr s0.2.1 (by decide)) (by simp (disch := omega) only [up_p]; exact p0) hrun
      · rw [if_neg (show ¬ seeB Z q.1 w.1 i ((0 : Nat) : Int) = true from cw)] at hrun
        rw [if_neg cw]
        obtain ⟨μ4, l1, l2, l3⟩ := R_goOn (ρ := ρ) (cs := cs) (d := d + 2) hρ s0
        rw [← hpos] at l2
        have p4 : μ4 101 12 = (i : Int) := by rw [l1 _ _ (by omega), up_p (by omega)]; exact p0
        have frC : FZ μ μ4 := fz_tr (fz_row 7 i frA (by decide)) (fz_fw (fw_fr l1))
        have l22 : (am_up μ4 101 12 ((i : Int) + 1)) 99 22 = μ 99 22 := by rw [up_p (by omega), l1 _ _ (by omega), up_p (by omega), g1 _ _ (by omega), up_p (by omega), f1 _ _ (by omega)]
        obtain ⟨μ3, k1, k2, k3, k4⟩ := R_eol (d := d + 4) (cs := cs) (w := 2) (l2 := none) (l3 := none) (l4 := none) (l5 := none) hρ (rh_up (q := 101) (k := 12) (v := (i : Int) + 1) l2 (by omega)) (by rw [l22]; exact hn) (by rw [l22]; exact hn2)
        have run : am_E (d + 11) 163 96 [some (.inr (.inr 99)), some (.inl 2), none, none, none, none] [.inl 2] (SH, ρ, μ, cs) = some (none, (SH, ρ, μ3, cs)) := by
          rw [st0 (hrun.trans (st3 p4 l3))]
          exact k4
        refine ⟨μ3, fz_tr (fz_row 0 2 frC (by decide)) (fun q k hq => k1 q k (by omega)), ?_⟩
        cases he : lE b n w.2 with
        | inl y => exact ⟨k2 y he, run⟩
        | inr a' =>
          obtain ⟨t1, t2⟩ := k3 a' he
          refine ⟨t1, ?_, t2.trans (by rw [l22]), ?_, ?_, ?_, run⟩
          · have e1 : SR2 μ3 = SR2 (am_up μ4 101 12 ((i : Int) + 1)) := sr2_fr (fun q k h0 h1 => k1 q k (by omega))
            have e2 : SR2 μ2 = SR2 (am_up μ1 107 (10 + i) q.1) := fw_sr2 g1
            have e4 : SR2 μ4 = SR2 (am_up μ2 108 (10 + i) w.1) := fw_sr2 (fw_fr l1)
            have e3 : SR2 μ1 = Z := (fw_sr2 f1).trans hZ
            have u1 := sr2_up (μ := μ4) (a := 0) (i := 2) (v := (i : Int) + 1) (by decide)
            have u2 := sr2_up (μ := μ2) (a := 7) (i := i) (v := w.1) (by decide)
            have u3 := sr2_up (μ := μ1) (a := 6) (i := i) (v := q.1) (by decide)
            show SR2 μ3 = zp (zp (zp Z 6 (Z 0 2) q.1) 7 (Z 0 2) w.1) 0 2 (Z 0 2 + 1)
            rw [e1, hi]
            refine u1.trans ?_
            rw [← e3, ← show SR2 (am_up μ1 107 (10 + i) q.1) = zp (SR2 μ1) 6 i q.1 from u3, ← e2, ← show SR2 (am_up μ2 108 (10 + i) w.1) = zp (SR2 μ2) 7 i w.1 from u2, ← e4]
            all_goals rfl
          · rw [k1 _ _ (by omega), up_p (by omega), l1 _ _ (by omega), up_p (by omega), g1 _ _ (by omega), up_p (by omega), f1 _ _ (by omega)]
          · rw [k1 _ _ (by omega), up_p (by omega), l1 _ _ (by omega), up_p (by omega), g1 _ _ (by omega), up_p (by omega), f1 _ _ (by omega)]
          · rw [k1 _ _ (by omega), up_p (by omega), l1 _ _ (by omega), up_p (by omega), g1 _ _ (by omega), up_p (by omega), f1 _ _ (by omega)]
end RLQ
