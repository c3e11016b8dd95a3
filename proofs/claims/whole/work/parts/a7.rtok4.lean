/-! TEXT: the reference's token, whole -/
section RTP
variable {ρ : Nat → Nat → Nat} {μ : Nat → Nat → Int} {cs : Nat × Nat × Nat} {d n a p e : Nat} {b : Nat → Int}
theorem rk_of {μ : Nat → Nat → Int} {k v : Int} {p e : Nat} (h25 : μ 99 25 = (p : Int)) (hs : RKs μ k) (hk : 25 ≤ k) (hk2 : k ≤ 38) : RK μ (k, v, p, e) := ⟨h25, fun z => absurd z (by show ¬ k ≤ 22; omega), fun z => absurd z (by show ¬ k = 23; omega), fun z => absurd z (by show ¬ k = 24; omega), hs.1, hs.2, fun z => absurd z (by show ¬ k = 39; omega)⟩
theorem rmp_nn {k : Int} (h0 : 0 ≤ k) (h1 : k ≤ 22) : 0 ≤ rmp k ∧ rmp k ≤ 22 := by
  unfold rmp
  repeat' split
  all_goals omega
theorem R_token (hρ : RM ρ) (h : RTk μ b n a) : ∃ μ', FR μ μ' ∧ RTk μ' b n (tok b n a).2.2.2 ∧ RK μ' (tok b n a) ∧ am_E (d + 6) 145 0 [some (.inr (.inr 99)), none] [] (SH, ρ, μ, cs) = some (none, (SH, ρ, μ', cs)) := by
  have ha := h.2.1
  suffices hs : ∃ μ', FR μ μ' ∧ μ' 99 24 = ((tok b n a).2.2.2 : Int) ∧ RK μ' (tok b n a) ∧ am_E (d + 6) 145 0 [some (.inr (.inr 99)), none] [] (SH, ρ, μ, cs) = some (none, (SH, ρ, μ', cs)) by
    obtain ⟨μ', f1, f2, f3, f4⟩ := hs
    exact ⟨μ', f1, ⟨h.1, (tok_bd ha).2.2.1, by rw [f1 _ _ (by omega)]; exact h.2.2.1, f2, fun i hi => by rw [f1 _ _ (by omega)]; exact h.2.2.2.2.1 i hi, by rw [f1 _ _ (by omega)]; exact h.2.2.2.2.2⟩, f3, f4⟩
  rw [R_blk hρ _ a rfl h]
  have g0 := rn_ge (P := blk) (b := b) (n := n) (i := a)
  have g1 := rn_le (P := blk) (b := b) ha
  have g9 := rn_end (P := blk) (b := b) (n := n) (i := a)
  unfold tok
  have k0 := rtk_at h g1
  generalize rn blk b n a = p at *
  have mf : FR μ (am_up μ 99 24 p) := fr_up (fr_rf μ) (by omega)
  generalize am_up μ 99 24 (p : Int) = μ1 at *
  have m4 := k0.2.2.2.1
  have hn := h.1
  have hr := fun d => R_here (ρ := ρ) (cs := cs) (d := d) hρ k0
  have k1 := rtk_up (k := 25) (v := (p : Int)) k0 (by omega)
  have hr1 := fun d => R_here (ρ := ρ) (cs := cs) (d := d) hρ k1
  have kf : FR μ (am_up μ1 99 25 p) := fr_up mf (by omega)
  have k5 : (am_up μ1 99 25 p) 99 25 = (p : Int) := up_eq
  have k4 : (am_up μ1 99 25 p) 99 24 = (p : Int) := by rw [up_k (by decide)]; exact m4
  by_cases c0 : n ≤ p
  · rw [if_pos c0]
    rw [if_neg (by omega)] at hr hr1
    have hr : ∀ d, am_E d 142 0 [some (.inr (.inr 99))] [] (SH, ρ, μ1, cs) = some (some (.inl (-1)), (SH, ρ, μ1, cs)) := hr
    have hr1 : ∀ d, am_E d 142 0 [some (.inr (.inr 99))] [] (SH, ρ, am_up μ1 99 25 p, cs) = some (some (.inl (-1)), (SH, ρ, am_up μ1 99 25 p, cs)) := hr1
    refine ⟨am_up (am_up μ1 99 25 p) 99 26 4, fr_up kf (by omega), by rw [up_k (by decide)]; exact k4, ⟨by rw [up_k (by decide)]; exact k5, fun z => absurd z (by show ¬ (39 : Int) ≤ 22; decide), fun z => absurd z (by show ¬ (39 : Int) = 23; decide), fun z => absurd z (by show ¬ (39 : Int) = 24; decide), fun _ z => absurd z (by show ¬ (39 : Int) ≤ 37; decide), fun z => absurd z (by show ¬ (39 : Int) = 38; decide), fun _ => up_eq⟩, ?_⟩
    rw [e145_0]; simp (disch := (first | omega | (simp (disch := omega) only [sr_up, wr_up_o]; omega))) only [e145_4, e145_13, e145_43, e145_225, ks_99, ite_self, Bool.false_eq_true, eq_self, isk_t, i20_t, w20_t, l23_t, b21_t, b22_t, w_t, bif_t, bif_f, bif_d, if_pos, if_neg, if_true, if_false, not_true_eq_false, not_false_eq_true, Option.bind_some, Option.toList_some, Option.toList_none, List.cons_append, List.nil_append, Int.toNat_natCast, Int.reduceToNat, up_eq, up_p, up_k, sN,  hr, hr1, m4 ]
  rw [if_neg c0]
  rw [if_pos (by omega)] at hr hr1
  have hbd := k0.2.2.2.2.1 p (by omega)
  have hnb := g9 (by omega)
  simp only [blk, decide_eq_false_iff_not] at hnb
  have z1 : b p % 256 ≠ 10 := by omega
  have z2 : b p % 256 ≠ 32 := by omega
  have z3 : b p % 256 ≠ -1 := by omega
  have e0 : am_E (d + 6) 145 0 [some (.inr (.inr 99)), none] [] (SH, ρ, μ1, cs) = am_E (d + 6) 145 43 [some (.inr (.inr 99)), none] [.inl (b p % 256)] (SH, ρ, am_up μ1 99 25 p, cs) := by
    rw [e145_0]; simp (disch := (first | omega | (simp (disch := omega) only [sr_up, wr_up_o]; omega))) only [e145_4, e145_13, ks_99, ite_self, Bool.false_eq_true, eq_self, isk_t, i20_t, w20_t, l23_t, b21_t, b22_t, w_t, bif_t, bif_f, bif_d, if_pos, if_neg, if_true, if_false, not_true_eq_false, not_false_eq_true, Option.bind_some, Option.toList_some, Option.toList_none, List.cons_append, List.nil_append, Int.toNat_natCast, Int.reduceToNat, up_eq, up_p, up_k, sN,  hr, hr1, m4, z1, z2 ]
  rw [e0]
  clear e0 hr
  generalize am_up μ1 99 25 (p : Int) = μ2 at *
  by_cases c1 : ltr (b p) = true
  · rw [if_pos c1]
    have g2 := rn_gt (P := ltr) (b := b) (n := n) (i := p) (by omega) c1
    have g3 := rn_le (P := ltr) (b := b) (n := n) (i := p) (by omega)
    have g4 := fun j => rn_in (P := ltr) (b := b) (n := n) (i := p) (j := j)
    have g5 := rn_end (P := ltr) (b := b) (n := n) (i := p)
    generalize rn ltr b n p = e at *
    simp only [ltr, decide_eq_true_eq] at c1
    have e1 : b p % 256 = b p := by omega
    rw [e1]
    have w1 := R_let (d := d) (cs := cs) (ρ := ρ) (x := b p) hρ g3 (fun j h0 h1 => g4 j h0 h1) (e - p) 0 (by omega) k1
    have w0 : am_E (d + 6) 145 43 [some (.inr (.inr 99)), none] [.inl (b p)] (SH, ρ, μ2, cs) = am_E (d + 6) 145 64 [some (.inr (.inr 99)), some (.inl (b p))] [] (SH, ρ, μ2, cs) := by
      simp (disch := (first | omega | (simp (disch := omega) only [sr_up, wr_up_o]; omega))) only [e145_43, e145_61, e143_0, ks_99, ite_self, Bool.false_eq_true, eq_self, isk_t, i20_t, w20_t, l23_t, b21_t, b22_t, w_t, bif_t, bif_f, bif_d, if_pos, if_neg, if_true, if_false, not_true_eq_false, not_false_eq_true, Option.bind_some, Option.toList_some, Option.toList_none, List.cons_append, List.nil_append, Int.toNat_natCast, Int.reduceToNat, up_eq, up_p, up_k, sN]
    rw [w0, w1]
    have k3 := rtk_at (a' := e) k1 g3
    have j4 : (am_up μ2 99 24 e) 99 24 = (e : Int) := up_eq
    have j5 : (am_up μ2 99 24 e) 99 25 = (p : Int) := by rw [up_k (by decide)]; exact k5
    have jf : FR μ (am_up μ2 99 24 e) := fr_up kf (by omega)
    generalize am_up μ2 99 24 (e : Int) = μ3 at *
    have hr3 := fun d => R_here (ρ := ρ) (cs := cs) (d := d) hρ k3
    have hw := R_word (d := d) (cs := cs) (ρ := ρ) (μ := μ3) hρ hn g3 g2 (fun j h0 h1 => g4 j h0 h1) (fun i hi => (k3.2.2.2.2.1 i hi).1) j4 j5
    have w2 : am_E (d + 6) 145 64 [some (.inr (.inr 99)), some (.inl (b p))] [] (SH, ρ, μ3, cs) = am_E (d + 6) 145 92 [some (.inr (.inr 99)), some (.inl (b p))] [.inl (if 6 < e - p then -1 else rmp (wkd (wc b p e))), .inr (.inr 99)] (SH, ρ, μ3, cs) := by
      by_cases ce : e < n
      · rw [if_pos ce] at hr3
        have hlk := g5 ce
        have hb3 := k3.2.2.2.2.1 e ce
        simp only [ltr, decide_eq_false_iff_not] at hlk
        by_cases c2 : b e % 256 < 97
        · rw [e145_64]; simp (disch := (first | omega | (simp (disch := omega) only [sr_up, wr_up_o]; omega))) only [e145_68, e145_71, e143_0, ks_99, ite_self, Bool.false_eq_true, eq_self, isk_t, i20_t, w20_t, l23_t, b21_t, b22_t, w_t, bif_t, bif_f, bif_d, if_pos, if_neg, if_true, if_false, not_true_eq_false, not_false_eq_true, Option.bind_some, Option.toList_some, Option.toList_none, List.cons_append, List.nil_append, Int.toNat_natCast, Int.reduceToNat, up_eq, up_p, up_k, sN,  hr3, hw ]
        · rw [e145_64]; simp (disch := (first | omega | (simp (disch := omega) only [sr_up, wr_up_o]; omega))) only [e145_68, e145_71, e143_0, ks_99, ite_self, Bool.false_eq_true, eq_self, isk_t, i20_t, w20_t, l23_t, b21_t, b22_t, w_t, bif_t, bif_f, bif_d, if_pos, if_neg, if_true, if_false, not_true_eq_false, not_false_eq_true, Option.bind_some, Option.toList_some, Option.toList_none, List.cons_append, List.nil_append, Int.toNat_natCast, Int.reduceToNat, up_eq, up_p, up_k, sN,  hr3, hw ]
      · rw [if_neg ce] at hr3
        have hr3 : ∀ d, am_E d 142 0 [some (.inr (.inr 99))] [] (SH, ρ, μ3, cs) = some (some (.inl (-1)), (SH, ρ, μ3, cs)) := hr3
        rw [e145_64]; simp (disch := (first | omega | (simp (disch := omega) only [sr_up, wr_up_o]; omega))) only [e145_68, e145_71, e143_0, ks_99, ite_self, Bool.false_eq_true, eq_self, isk_t, i20_t, w20_t, l23_t, b21_t, b22_t, w_t, bif_t, bif_f, bif_d, if_pos, if_neg, if_true, if_false, not_true_eq_false, not_false_eq_true, Option.bind_some, Option.toList_some, Option.toList_none, List.cons_append, List.nil_append, Int.toNat_natCast, Int.reduceToNat, up_eq, up_p, up_k, sN,  hr3, hw ]
    rw [w2]
    have wb := wkd_bd (wc b p e)
    by_cases c2 : 6 < e - p
    · rw [if_pos c2, if_pos c2]
      refine ⟨am_up (am_up μ3 99 27 (-1)) 99 26 5, fr_up (fr_up jf (by omega)) (by omega), by rw [up_k (by decide), up_k (by decide)]; exact j4, ⟨by rw [up_k (by decide), up_k (by decide)]; exact j5, fun z => absurd z (by show ¬ (38 : Int) ≤ 22; decide), fun z => absurd z (by show ¬ (38 : Int) = 23; decide), fun z => absurd z (by show ¬ (38 : Int) = 24; decide), fun _ z => absurd z (by show ¬ (38 : Int) ≤ 37; decide), fun _ => up_eq, fun z => absurd z (by show ¬ (38 : Int) = 39; decide)⟩, ?_⟩
      simp (disch := (first | omega | (simp (disch := omega) only [sr_up, wr_up_o]; omega))) only [e145_92, e145_95, e145_225, ks_99, ite_self, Bool.false_eq_true, eq_self, isk_t, i20_t, w20_t, l23_t, b21_t, b22_t, w_t, bif_t, bif_f, bif_d, if_pos, if_neg, if_true, if_false, not_true_eq_false, not_false_eq_true, Option.bind_some, Option.toList_some, Option.toList_none, List.cons_append, List.nil_append, Int.toNat_natCast, Int.reduceToNat, up_eq, up_p, up_k, sN,  j4, j5 ]
    · rw [if_neg c2, if_neg c2]
      by_cases c3 : wkd (wc b p e) = 23
      · have er : rmp (wkd (wc b p e)) = -1 := by rw [c3]; rfl
        rw [er, c3]
        have hN := R_name (d := d + 5) (cs := cs) (ρ := ρ) (p := p) (μ := am_up (am_up (am_up μ3 99 27 (-1)) 99 26 1) 99 27 0) hρ hn (by omega) g3 (fun j h0 h1 => g4 j h0 h1) 6 0 (by omega) (by simp (disch := decide) only [up_k]; exact j4) (by simp (disch := decide) only [up_k]; exact j5) up_eq (fun i hi => by simp (disch := decide) only [up_p]; exact (k3.2.2.2.2.1 i hi).1)
        rw [am_up2] at hN
        have hN : am_E (d + 5) 148 7 [some (.inr (.inr 99)), some (.inl 0)] [] (SH, ρ, am_up (am_up (am_up μ3 99 27 (-1)) 99 26 1) 99 27 0, cs) = some (none, (SH, ρ, am_up (am_up (am_up μ3 99 27 (-1)) 99 26 1) 99 27 (wc b p e), cs)) := hN
        refine ⟨am_up (am_up (am_up μ3 99 27 (-1)) 99 26 1) 99 27 (wc b p e), fr_up (fr_up (fr_up jf (by omega)) (by omega)) (by omega), by simp (disch := decide) only [up_k]; exact j4, ⟨by simp (disch := decide) only [up_k]; exact j5, fun z => absurd z (by show ¬ (23 : Int) ≤ 22; decide), fun _ => ⟨by simp (disch := decide) only [up_k, up_eq], up_eq⟩, fun z => absurd z (by show ¬ (23 : Int) = 24; decide), fun z => absurd z (by show ¬ (25 : Int) ≤ 23; decide), fun z => absurd z (by show ¬ (23 : Int) = 38; decide), fun z => absurd z (by show ¬ (23 : Int) = 39; decide)⟩, ?_⟩
        simp (disch := (first | omega | (simp (disch := omega) only [sr_up, wr_up_o]; omega))) only [e145_92, e145_95, e145_142, e145_225, e148_0, ks_99, ite_self, Bool.false_eq_true, eq_self, isk_t, i20_t, w20_t, l23_t, b21_t, b22_t, w_t, bif_t, bif_f, bif_d, if_pos, if_neg, if_true, if_false, not_true_eq_false, not_false_eq_true, Option.bind_some, Option.toList_some, Option.toList_none, List.cons_append, List.nil_append, Int.toNat_natCast, Int.reduceToNat, up_eq, up_p, up_k, sN,  j4, j5, hN ]
      · have er := rmp_nn wb.1 (show wkd (wc b p e) ≤ 22 by omega)
        have c4 : rmp (wkd (wc b p e)) ≠ -1 := by omega
        generalize hk : wkd (wc b p e) = k at *
        refine ⟨am_up (am_up μ3 99 27 (rmp k)) 99 26 0, fr_up (fr_up jf (by omega)) (by omega), by rw [up_k (by decide), up_k (by decide)]; exact j4, ⟨by rw [up_k (by decide), up_k (by decide)]; exact j5, fun _ => ⟨up_eq, by rw [up_k (by decide), up_eq]⟩, fun z => absurd z (by show ¬ k = 23; omega), fun z => absurd z (by show ¬ k = 24; omega), fun z => absurd z (by show ¬ 25 ≤ k; omega), fun z => absurd z (by show ¬ k = 38; omega), fun z => absurd z (by show ¬ k = 39; omega)⟩, ?_⟩
        simp (disch := (first | omega | (simp (disch := omega) only [sr_up, wr_up_o]; omega))) only [e145_92, e145_95, e145_225, ks_99, ite_self, Bool.false_eq_true, eq_self, isk_t, i20_t, w20_t, l23_t, b21_t, b22_t, w_t, bif_t, bif_f, bif_d, if_pos, if_neg, if_true, if_false, not_true_eq_false, not_false_eq_true, Option.bind_some, Option.toList_some, Option.toList_none, List.cons_append, List.nil_append, Int.toNat_natCast, Int.reduceToNat, up_eq, up_p, up_k, sN,  j4, j5, c4 ]
  rw [if_neg c1]
  simp only [ltr, decide_eq_true_eq] at c1
  by_cases c2 : dgt (b p) = true
  · rw [if_pos c2]
    have g2 := rn_gt (P := dgt) (b := b) (n := n) (i := p) (by omega) c2
    have g3 := rn_le (P := dgt) (b := b) (n := n) (i := p) (by omega)
    have g4 := fun j => rn_in (P := dgt) (b := b) (n := n) (i := p) (j := j)
    have g5 := rn_end (P := dgt) (b := b) (n := n) (i := p)
    generalize rn dgt b n p = e at *
    simp only [dgt, decide_eq_true_eq] at c2
    have e1 : b p % 256 = b p := by omega
    rw [e1]
    obtain ⟨μ', f1, f2, f3, f4, f5, f6⟩ := R_num (d := d) (cs := cs) (ρ := ρ) (p := p) (x := b p) (μ := am_up (am_up μ2 99 26 2) 99 27 0) hρ g3 (fun j h0 h1 => g4 j h0 h1) g5 (e - p) 0 (by omega) (rtk_up (rtk_up k1 (by omega)) (by omega)) up_eq
    refine ⟨μ', fr_tr (fr_up (fr_up kf (by omega)) (by omega)) f1, f2, ⟨by rw [f3, up_k (by decide), up_k (by decide)]; exact k5, fun z => absurd z (by show ¬ (24 : Int) ≤ 22; decide), fun z => absurd z (by show ¬ (24 : Int) = 23; decide), fun _ => ⟨by rw [f4, up_k (by decide), up_eq], f5⟩, fun z => absurd z (by show ¬ (25 : Int) ≤ 24; decide), fun z => absurd z (by show ¬ (24 : Int) = 38; decide), fun z => absurd z (by show ¬ (24 : Int) = 39; decide)⟩, ?_⟩
    simp (disch := (first | omega | (simp (disch := omega) only [sr_up, wr_up_o]; omega))) only [e145_43, e145_61, e145_149, e143_0, e144_0, ks_99, ite_self, Bool.false_eq_true, eq_self, isk_t, i20_t, w20_t, l23_t, b21_t, b22_t, w_t, bif_t, bif_f, bif_d, if_pos, if_neg, if_true, if_false, not_true_eq_false, not_false_eq_true, Option.bind_some, Option.toList_some, Option.toList_none, List.cons_append, List.nil_append, Int.toNat_natCast, Int.reduceToNat, up_eq, up_p, up_k, sN,  f6 ]
  rw [if_neg c2]
  simp only [dgt, decide_eq_true_eq] at c2
  obtain ⟨μ', f1, f2, f3, f4, f5⟩ := R_sign (d := d + 4) (cs := cs) (ρ := ρ) hρ k1 (by omega)
  have sb := sg2_bd (b := b) (n := n) p
  refine ⟨μ', fr_tr kf f1, f2, rk_of (by rw [f3]; exact k5) f4 sb.1 sb.2, ?_⟩
  have z4 : b p % 256 < 97 ∨ 122 < b p % 256 := by omega
  have z5 : b p % 256 < 48 ∨ 57 < b p % 256 := by omega
  generalize b p % 256 = y at *
  by_cases q1 : y < 97
  · by_cases q2 : y < 48
    · simp (disch := (first | omega | (simp (disch := omega) only [sr_up, wr_up_o]; omega))) only [e145_43, e145_61, e145_149, e143_0, e144_0, e145_225, ks_99, ite_self, Bool.false_eq_true, eq_self, isk_t, i20_t, w20_t, l23_t, b21_t, b22_t, w_t, bif_t, bif_f, bif_d, if_pos, if_neg, if_true, if_false, not_true_eq_false, not_false_eq_true, Option.bind_some, Option.toList_some, Option.toList_none, List.cons_append, List.nil_append, Int.toNat_natCast, Int.reduceToNat, up_eq, up_p, up_k, sN,  f5, z3 ]
    · simp (disch := (first | omega | (simp (disch := omega) only [sr_up, wr_up_o]; omega))) only [e145_43, e145_61, e145_149, e143_0, e144_0, e145_225, ks_99, ite_self, Bool.false_eq_true, eq_self, isk_t, i20_t, w20_t, l23_t, b21_t, b22_t, w_t, bif_t, bif_f, bif_d, if_pos, if_neg, if_true, if_false, not_true_eq_false, not_false_eq_true, Option.bind_some, Option.toList_some, Option.toList_none, List.cons_append, List.nil_append, Int.toNat_natCast, Int.reduceToNat, up_eq, up_p, up_k, sN,  f5, z3 ]
  · simp (disch := (first | omega | (simp (disch := omega) only [sr_up, wr_up_o]; omega))) only [e145_43, e145_61, e145_149, e143_0, e144_0, e145_225, ks_99, ite_self, Bool.false_eq_true, eq_self, isk_t, i20_t, w20_t, l23_t, b21_t, b22_t, w_t, bif_t, bif_f, bif_d, if_pos, if_neg, if_true, if_false, not_true_eq_false, not_false_eq_true, Option.bind_some, Option.toList_some, Option.toList_none, List.cons_append, List.nil_append, Int.toNat_natCast, Int.reduceToNat, up_eq, up_p, up_k, sN,  f5, z3 ]
end RTP
