/-! TEXT: the reference's lines -/
section RLM
variable {ρ : Nat → Nat → Nat} {μ : Nat → Nat → Int} {cs : Nat × Nat × Nat} {d n a i : Nat} {b : Nat → Int} {Z : MS}
def FZ (μ μ' : Nat → Nat → Int) : Prop := ∀ q k, ¬ ((q = 99 ∧ (k = 21 ∨ k = 22 ∨ (24 ≤ k ∧ k ≤ 29) ∨ k = 32 ∨ k = 33)) ∨ (101 ≤ q ∧ q ≤ 118 ∧ hfR (q - 101) ≤ k)) → μ' q k = μ q k
theorem fz_rf (μ : Nat → Nat → Int) : FZ μ μ := fun _ _ _ => rfl
theorem fz_tr {x y z : Nat → Nat → Int} (h1 : FZ x y) (h2 : FZ y z) : FZ x z := fun q k h => (h2 q k h).trans (h1 q k h)
theorem fz_fw {x y : Nat → Nat → Int} (h : FW x y) : FZ x y := fun q k hq => h q k (by omega)
theorem fz_up {μ μ' : Nat → Nat → Int} {q k : Nat} {v : Int} (h1 : FZ μ μ') (h : (q = 99 ∧ (k = 21 ∨ k = 22 ∨ (24 ≤ k ∧ k ≤ 29) ∨ k = 32 ∨ k = 33)) ∨ (101 ≤ q ∧ q ≤ 118 ∧ hfR (q - 101) ≤ k)) : FZ μ (am_up μ' q k v) := fun q' k' h' => by
  rw [am_up_no (fun e => h' (by rw [e.1, e.2]; exact h))]
  exact h1 q' k' h'
theorem fz_row {μ μ' : Nat → Nat → Int} {v : Int} (a i : Nat) (h : FZ μ μ') (ha : a < 18) : FZ μ (am_up μ' (101 + a) (hfR a + i) v) := fz_up h (Or.inr ⟨by omega, by omega, by rw [show 101 + a - 101 = a by omega]; omega⟩)
theorem hf_0 : hfR (101 - 101) = 10 := by decide
/-- what a line comes to -/
def RLo (ρ : Nat → Nat → Nat) (cs : Nat × Nat × Nat) (b : Nat → Int) (n : Nat) (μ : Nat → Nat → Int) (run : Option am_Res) (x : PE (MS × Nat)) : Prop := ∃ μ', FZ μ μ' ∧ match x with
  | .inl q => RF μ' q ∧ run = some (none, (SH, ρ, μ', cs))
  | .inr z => RH μ' b n z.2 ∧ SR2 μ' = z.1 ∧ μ' 99 22 = μ 99 22 + 1 ∧ μ' 99 21 = μ 99 21 ∧ μ' 99 32 = μ 99 32 ∧ μ' 99 33 = μ 99 33 ∧ run = some (none, (SH, ρ, μ', cs))
theorem R_eolF (h : μ 99 28 ≠ 0) {w : Int} {l2 l3 l4 l5 : Option am_V} : am_E (d + 7) 163 506 [some (.inr (.inr 99)), some (.inl w), l2, l3, l4, l5] [] (SH, ρ, μ, cs) = some (none, (SH, ρ, μ, cs)) := by
  refine am_E_le (lv := [some (.inr (.inr 99)), some (.inl w), none, none, none, none]) (am_lq_of _ _ (by simp [am_leb])) ?_
  simp (disch := (first | omega | (simp (disch := omega) only [sr_up, wr_up_o]; omega))) only [e163_506, ks_99, ite_self, Bool.false_eq_true, eq_self, isk_t, i20_t, w20_t, l23_t, b21_t, b22_t, w_t, bif_t, bif_f, bif_d, if_pos, if_neg, if_true, if_false, not_true_eq_false, not_false_eq_true, Option.bind_some, Option.toList_some, Option.toList_none, List.cons_append, List.nil_append, Int.toNat_natCast, Int.reduceToNat, up_eq, up_p, up_k, sN,  h ]
theorem R_eol (hρ : RM ρ) (h : RH μ b n a) (hn : 0 ≤ μ 99 22) (hn2 : μ 99 22 < 1000) {w : Int} {l2 l3 l4 l5 : Option am_V} : ∃ μ', (∀ q k, ¬ (q = 99 ∧ (k = 22 ∨ (24 ≤ k ∧ k ≤ 29))) → μ' q k = μ q k) ∧ (∀ q, lE b n a = .inl q → RF μ' q) ∧ (∀ a', lE b n a = .inr a' → RH μ' b n a' ∧ μ' 99 22 = μ 99 22 + 1) ∧ am_E (d + 7) 163 506 [some (.inr (.inr 99)), some (.inl w), l2, l3, l4, l5] [] (SH, ρ, μ, cs) = some (none, (SH, ρ, μ', cs)) := by
  obtain ⟨hT, hK, h0⟩ := id h
  have hs := rk_sort hK (tok_nn b n a) (tok_39 b n a)
  have hw := fun (f : Int) (d : Nat) => R_wr (ρ := ρ) (cs := cs) (d := d) (f := f) h0
  cases hh : lE b n a with
  | inl q =>
    obtain ⟨g1, rfl⟩ := lE_inl hh
    refine ⟨am_up (am_up (am_up μ 99 28 1) 99 29 (μ 99 25)) 99 22 (μ 99 22 + 1), fun q k hq => ?_, fun q hq => ?_, fun y hy => (by cases hy), ?_⟩
    · rw [am_up_no (by omega), am_up_no (by omega), am_up_no (by omega)]
    · cases hq
      have := rf_wr hK (f := 1) (by decide)
      exact ⟨by rw [up_k (by omega)]; exact this.1, by rw [up_k (by omega)]; exact this.2.1, this.2.2⟩
    · refine am_E_le (lv := [some (.inr (.inr 99)), some (.inl w), none, none, none, none]) (am_lq_of _ _ (by simp [am_leb])) ?_
      by_cases c3 : μ 99 26 = 3
      · have c5 : 25 ≤ (tok b n a).1 ∧ (tok b n a).1 ≤ 37 := by omega
        have v2 := (hK.2.2.2.2.1 c5.1 c5.2).2
        have c4 : schr (tok b n a).1 ≠ 59 := by
          generalize (tok b n a).1 = k at *
          unfold schr
          repeat' split
          all_goals omega
        simp (disch := (first | omega | (simp (disch := omega) only [sr_up, wr_up_o]; omega))) only [e163_506, e151_0, e163_520, e163_528, e163_535, ks_99, ite_self, Bool.false_eq_true, eq_self, isk_t, i20_t, w20_t, l23_t, b21_t, b22_t, w_t, bif_t, bif_f, bif_d, if_pos, if_neg, if_true, if_false, not_true_eq_false, not_false_eq_true, Option.bind_some, Option.toList_some, Option.toList_none, List.cons_append, List.nil_append, Int.toNat_natCast, Int.reduceToNat, up_eq, up_p, up_k, sN,  h0, c3, v2, c4, hw ]
      · simp (disch := (first | omega | (simp (disch := omega) only [sr_up, wr_up_o]; omega))) only [e163_506, e151_0, e163_520, e163_528, e163_535, ks_99, ite_self, Bool.false_eq_true, eq_self, isk_t, i20_t, w20_t, l23_t, b21_t, b22_t, w_t, bif_t, bif_f, bif_d, if_pos, if_neg, if_true, if_false, not_true_eq_false, not_false_eq_true, Option.bind_some, Option.toList_some, Option.toList_none, List.cons_append, List.nil_append, Int.toNat_natCast, Int.reduceToNat, up_eq, up_p, up_k, sN,  h0, c3, hw ]
  | inr a' =>
    obtain ⟨g1, rfl⟩ := lE_inr hh
    obtain ⟨μ', f1, f2, f4⟩ := R_tokH (d := d) (cs := cs) hρ hT h0
    have c3 : μ 99 26 = 3 := by omega
    have v2 := (hK.2.2.2.2.1 (by omega) (by omega)).2
    rw [g1] at v2
    have v2 : μ 99 27 = 59 := v2
    have l22 : μ' 99 22 = μ 99 22 := f1 _ _ (by omega)
    refine ⟨am_up μ' 99 22 (μ 99 22 + 1), fun q k hq => ?_, fun q hq => (by cases hq), fun y hy => ?_, ?_⟩
    · rw [am_up_no (by omega), f1 _ _ (by omega)]
    · cases hy
      exact ⟨rh_up f2 (by omega), up_eq⟩
    · refine am_E_le (lv := [some (.inr (.inr 99)), some (.inl w), none, none, none, none]) (am_lq_of _ _ (by simp [am_leb])) ?_
      simp (disch := (first | omega | (simp (disch := omega) only [sr_up, wr_up_o]; omega))) only [e163_506, e151_0, e163_520, e163_535, ks_99, ite_self, Bool.false_eq_true, eq_self, isk_t, i20_t, w20_t, l23_t, b21_t, b22_t, w_t, bif_t, bif_f, bif_d, if_pos, if_neg, if_true, if_false, not_true_eq_false, not_false_eq_true, Option.bind_some, Option.toList_some, Option.toList_none, List.cons_append, List.nil_append, Int.toNat_natCast, Int.reduceToNat, up_eq, up_p, up_k, sN,  h0, c3, v2, f4, l22 ]
theorem R_fresher (hρ : RM ρ) {k : Nat} (hk : k < 10) : am_E d 156 0 [some (.inr (.inr 99)), some (.inl (k : Int))] [] (SH, ρ, μ, cs) = some (some (.inl (μ 101 (10 + k))), (SH, ρ, μ, cs)) := by
  have e : ((10 : Int) + (k : Int)).toNat = 10 + k := by omega
  simp (disch := (first | omega | (simp (disch := omega) only [sr_up, wr_up_o]; omega))) only [e156_0, ks_101, ks_99, rm_number hρ, ite_self, Bool.false_eq_true, eq_self, isk_t, i20_t, w20_t, l23_t, b21_t, b22_t, w_t, bif_t, bif_f, bif_d, if_pos, if_neg, if_true, if_false, not_true_eq_false, not_false_eq_true, Option.bind_some, Option.toList_some, Option.toList_none, List.cons_append, List.nil_append, Int.toNat_natCast, Int.reduceToNat, up_eq, up_p, up_k, sN,  e ]
theorem R_man (hρ : RM ρ) (h : RH μ b n a) (hn : 0 ≤ μ 99 22) (hn2 : μ 99 22 < 1000) (hZ : SR2 μ = Z) (hi : Z 0 0 = (i : Int)) (hi7 : i < 7) : RLo ρ cs b n μ (am_E (d + 8) 163 96 [some (.inr (.inr 99)), some (.inl 0), none, none, none, none] [.inl 0] (SH, ρ, μ, cs)) (bnd (nN b n (nmR Z 1) (Z 0 0).toNat a) fun q => bnd (nU b n 0 9 q.2) fun w => bnd (lE b n w.2) fun a' => .inr (zp (zp (zp Z 1 (Z 0 0) q.1) 2 (Z 0 0) w.1) 0 0 (Z 0 0 + 1), a')) := by
  have ei : (Z 0 0).toNat = i := by omega
  have m0 : μ 101 10 = (i : Int) := by rw [← hi, ← hZ]; rfl
  have en : nmR Z 1 = fun j => μ 102 (7 + j) := by rw [← hZ]; rfl
  rw [ei, en]
  have e7 : ((7 : Int) + (i : Int)).toNat = 7 + i := by omega
  obtain ⟨μ1, f1, f2, f3⟩ := R_nN (d := d) (cs := cs) (c := i) (q := 102) (len := 14) (B := 7) hρ h (ks_102 cs.2.2) (by omega) (by omega)
  have n0 : μ1 101 10 = (i : Int) := by rw [f1 _ _ (by omega)]; exact m0
  cases hq : nN b n (fun j => μ 102 (7 + j)) i a with
  | inl q =>
    obtain ⟨r1, r2⟩ := f2 q hq
    have r2 : am_E (d + 7) 155 0 [some (.inr (.inr 99)), some (.inr (.inr 102)), some (.inl 7), some (.inl (i : Int)), none] [] (SH, ρ, μ, cs) = some (some (.inl 0), (SH, ρ, μ1, cs)) := r2
    have hne : μ1 99 28 ≠ 0 := by rw [r1.1]; exact r1.2.2
    refine ⟨am_up (am_up (am_up μ1 102 (7 + i) 0) 103 (7 + i) 0) 101 10 ((i : Int) + 1), fz_row 0 0 (fz_row 2 i (fz_row 1 i (fz_fw f1) (by decide)) (by decide)) (by decide), ⟨by simp (disch := omega) only [up_p]; exact r1.1, by simp (disch := omega) only [up_p]; exact r1.2.1, r1.2.2⟩, ?_⟩
    have he := R_eolF (d := d + 1) (ρ := ρ) (cs := cs) (μ := am_up (am_up (am_up μ1 102 (7 + i) 0) 103 (7 + i) 0) 101 10 ((i : Int) + 1)) (w := 0) (l2 := some (.inl ((7 : Int) + i))) (l3 := none) (l4 := none) (l5 := none) (by simp (disch := omega) only [up_p]; exact hne)
    simp (disch := (first | omega | (simp (disch := omega) only [sr_up, wr_up_o]; omega))) only [e163_96_c0, e163_155, e163_174, e163_177, e163_190, e163_198, e163_203, e156_0, e157_0, e153_0, ks_101, ks_102, ks_103, ks_99, rm_bentAs hρ, rm_manName hρ, rm_number hρ, ite_self, Bool.false_eq_true, eq_self, isk_t, i20_t, w20_t, l23_t, b21_t, b22_t, w_t, bif_t, bif_f, bif_d, if_pos, if_neg, if_true, if_false, not_true_eq_false, not_false_eq_true, Option.bind_some, Option.toList_some, Option.toList_none, List.cons_append, List.nil_append, Int.toNat_natCast, Int.reduceToNat, up_eq, up_p, up_k, sN,  Int.reduceAdd, m0, n0, e7, r2, hne, he ]
  | inr q =>
    obtain ⟨r1, r2⟩ := f3 q hq
    have r2 : am_E (d + 7) 155 0 [some (.inr (.inr 99)), some (.inr (.inr 102)), some (.inl 7), some (.inl (i : Int)), none] [] (SH, ρ, μ, cs) = some (some (.inl q.1), (SH, ρ, μ1, cs)) := r2
    show RLo ρ cs b n μ _ (bnd (nU b n 0 9 q.2) _)
    obtain ⟨μ2, g1, g2, g3⟩ := R_nU (d := d) (cs := cs) (lo := 0) (hi := 9) hρ (rh_up (q := 102) (k := 7 + i) (v := q.1) r1 (by omega))
    have p0 : μ2 101 10 = (i : Int) := by rw [g1 _ _ (by omega), up_p (by omega)]; exact n0
    have frA : FZ μ μ2 := fz_tr (fz_row 1 i (fz_fw f1) (by decide)) (fz_fw g1)
    cases hw : nU b n 0 9 q.2 with
    | inl w =>
      obtain ⟨s1, s2⟩ := g2 w hw
      have hne : μ2 99 28 ≠ 0 := by rw [s1.1]; exact s1.2.2
      refine ⟨am_up (am_up μ2 103 (7 + i) 0) 101 10 ((i : Int) + 1), fz_row 0 0 (fz_row 2 i frA (by decide)) (by decide), ⟨by simp (disch := omega) only [up_p]; exact s1.1, by simp (disch := omega) only [up_p]; exact s1.2.1, s1.2.2⟩, ?_⟩
      have he := R_eolF (d := d + 1) (ρ := ρ) (cs := cs) (μ := am_up (am_up μ2 103 (7 + i) 0) 101 10 ((i : Int) + 1)) (w := 0) (l2 := some (.inl ((7 : Int) + i))) (l3 := none) (l4 := none) (l5 := none) (by simp (disch := omega) only [up_p]; exact hne)
      generalize q.1 = Q at *
      simp (disch := (first | omega | (simp (disch := omega) only [sr_up, wr_up_o]; omega))) only [e163_96_c0, e163_155, e163_174, e163_177, e163_190, e163_198, e163_203, e156_0, e157_0, ks_101, ks_102, ks_103, ks_99, rm_bentAs hρ, rm_manName hρ, rm_number hρ, ite_self, Bool.false_eq_true, eq_self, isk_t, i20_t, w20_t, l23_t, b21_t, b22_t, w_t, bif_t, bif_f, bif_d, if_pos, if_neg, if_true, if_false, not_true_eq_false, not_false_eq_true, Option.bind_some, Option.toList_some, Option.toList_none, List.cons_append, List.nil_append, Int.toNat_natCast, Int.reduceToNat, up_eq, up_p, up_k, sN,  Int.reduceAdd, m0, n0, p0, e7, r2, s2, he ]
    | inr w =>
      obtain ⟨s1, s2⟩ := g3 w hw
      show RLo ρ cs b n μ _ (bnd (lE b n w.2) _)
      have l22 : (am_up (am_up μ2 103 (7 + i) w.1) 101 10 ((i : Int) + 1)) 99 22 = μ 99 22 := by rw [up_p (by omega), up_p (by omega), g1 _ _ (by omega), up_p (by omega), f1 _ _ (by omega)]
      obtain ⟨μ3, k1, k2, k3, k4⟩ := R_eol (d := d + 1) (cs := cs) (w := 0) (l2 := some (.inl ((7 : Int) + i))) (l3 := none) (l4 := none) (l5 := none) hρ (rh_up (q := 101) (k := 10) (v := (i : Int) + 1) (rh_up (q := 103) (k := 7 + i) (v := w.1) s1 (by omega)) (by omega)) (by rw [l22]; exact hn) (by rw [l22]; exact hn2)
      have frB : FZ μ μ3 := fz_tr (fz_row 0 0 (fz_row 2 i frA (by decide)) (by decide)) (fun q k hq => k1 q k (by omega))
      have run : am_E (d + 8) 163 96 [some (.inr (.inr 99)), some (.inl 0), none, none, none, none] [.inl 0] (SH, ρ, μ, cs) = some (none, (SH, ρ, μ3, cs)) := by
        generalize q.1 = Q at *
        generalize w.1 = Q2 at *
        simp (disch := (first | omega | (simp (disch := omega) only [sr_up, wr_up_o]; omega))) only [e163_96_c0, e163_155, e163_174, e163_177, e163_190, e163_198, e163_203, e156_0, e157_0, ks_101, ks_102, ks_103, ks_99, rm_bentAs hρ, rm_manName hρ, rm_number hρ, ite_self, Bool.false_eq_true, eq_self, isk_t, i20_t, w20_t, l23_t, b21_t, b22_t, w_t, bif_t, bif_f, bif_d, if_pos, if_neg, if_true, if_false, not_true_eq_false, not_false_eq_true, Option.bind_some, Option.toList_some, Option.toList_none, List.cons_append, List.nil_append, Int.toNat_natCast, Int.reduceToNat, up_eq, up_p, up_k, sN,  Int.reduceAdd, m0, n0, p0, e7, r2, s2, k4 ]
      refine ⟨μ3, frB, ?_⟩
      cases he : lE b n w.2 with
      | inl y => exact ⟨k2 y he, run⟩
      | inr a' =>
        obtain ⟨t1, t2⟩ := k3 a' he
        refine ⟨t1, ?_, t2.trans (by rw [l22]), ?_, ?_, ?_, run⟩
        · have e1 : SR2 μ3 = SR2 (am_up (am_up μ2 103 (7 + i) w.1) 101 10 ((i : Int) + 1)) := sr2_fr (fun q k h0 h1 => k1 q k (by omega))
          have e2 : SR2 μ2 = SR2 (am_up μ1 102 (7 + i) q.1) := fw_sr2 g1
          have e3 : SR2 μ1 = Z := (fw_sr2 f1).trans hZ
          have u1 := sr2_up (μ := am_up μ2 103 (7 + i) w.1) (a := 0) (i := 0) (v := (i : Int) + 1) (by decide)
          have u2 := sr2_up (μ := μ2) (a := 2) (i := i) (v := w.1) (by decide)
          have u3 := sr2_up (μ := μ1) (a := 1) (i := i) (v := q.1) (by decide)
          show SR2 μ3 = zp (zp (zp Z 1 (Z 0 0) q.1) 2 (Z 0 0) w.1) 0 0 (Z 0 0 + 1)
          rw [e1, hi]
          refine u1.trans ?_
          rw [← e3, ← show SR2 (am_up μ1 102 (7 + i) q.1) = zp (SR2 μ1) 1 i q.1 from u3, ← e2, ← show SR2 (am_up μ2 103 (7 + i) w.1) = zp (SR2 μ2) 2 i w.1 from u2]
          all_goals rfl
        · rw [k1 _ _ (by omega), up_p (by omega), up_p (by omega), g1 _ _ (by omega), up_p (by omega), f1 _ _ (by omega)]
        · rw [k1 _ _ (by omega), up_p (by omega), up_p (by omega), g1 _ _ (by omega), up_p (by omega), f1 _ _ (by omega)]
        · rw [k1 _ _ (by omega), up_p (by omega), up_p (by omega), g1 _ _ (by omega), up_p (by omega), f1 _ _ (by omega)]
end RLM
