/-! TEXT: the reference's token, whole -/
section RTO
variable {ρ : Nat → Nat → Nat} {μ : Nat → Nat → Int} {cs : Nat × Nat × Nat} {d n a p e : Nat} {b : Nat → Int}
def RKs (μ : Nat → Nat → Int) (k : Int) : Prop := (25 ≤ k → k ≤ 37 → μ 99 26 = 3 ∧ μ 99 27 = schr k) ∧ (k = 38 → μ 99 26 = 5)
theorem R_sign (hρ : RM ρ) (h : RTk μ b n p) (hp : p < n) : ∃ μ', FR μ μ' ∧ μ' 99 24 = ((p + (sg2 b n p).2 : Nat) : Int) ∧ μ' 99 25 = μ 99 25 ∧ RKs μ' (sg2 b n p).1 ∧ am_E (d + 1) 146 0 [some (.inr (.inr 99)), some (.inl (b p % 256))] [] (SH, ρ, μ, cs) = some (none, (SH, ρ, μ', cs)) := by
  have hbd := h.2.2.2.2.1 p hp
  have h4 := h.2.2.2.1
  have hn := h.1
  have e1 : ((p + 1 : Nat) : Int) = (p : Int) + 1 := by omega
  have hT : ∀ (s v : Int), RTk (am_up (am_up (am_up μ 99 24 ((p : Int) + 1)) 99 26 s) 99 27 v) b n (p + 1) := fun s v => by
    have := rtk_up (k := 27) (v := v) (rtk_up (k := 26) (v := s) (rtk_at (a' := p + 1) h (by omega)) (by omega)) (by omega)
    rw [e1] at this
    exact this
  have hA := fun (s v : Int) (d : Nat) => R_here (ρ := ρ) (cs := cs) (d := d) hρ (hT s v)
  have hB := fun (s v w : Int) (d : Nat) => R_here (ρ := ρ) (cs := cs) (d := d) hρ (rtk_up (k := 27) (v := w) (hT s v) (by omega))
  by_cases c1 : b p = 60
  · have c1' : b p % 256 = 60 := by omega
    rw [c1']
    by_cases c2 : p + 1 < n ∧ b (p + 1) = 61
    · have e : sg2 b n p = (33, 2) := by unfold sg2; rw [if_pos ⟨c1, c2⟩]
      rw [if_pos c2.1, c2.2] at hA hB
      have hA : ∀ (s v : Int) (d : Nat), am_E d 142 0 [some (.inr (.inr 99))] [] (SH, ρ, am_up (am_up (am_up μ 99 24 ((p : Int) + 1)) 99 26 s) 99 27 v, cs) = some (some (.inl 61), (SH, ρ, am_up (am_up (am_up μ 99 24 ((p : Int) + 1)) 99 26 s) 99 27 v, cs)) := hA
      have hB : ∀ (s v w : Int) (d : Nat), am_E d 142 0 [some (.inr (.inr 99))] [] (SH, ρ, am_up (am_up (am_up (am_up μ 99 24 ((p : Int) + 1)) 99 26 s) 99 27 v) 99 27 w, cs) = some (some (.inl 61), (SH, ρ, am_up (am_up (am_up (am_up μ 99 24 ((p : Int) + 1)) 99 26 s) 99 27 v) 99 27 w, cs)) := hB
      rw [e]
      refine ⟨am_up (am_up (am_up (am_up (am_up μ 99 24 ((p : Int) + 1)) 99 26 3) 99 27 60) 99 27 256) 99 24 ((p : Int) + 1 + 1), fr_up (fr_up (fr_up (fr_up (fr_up (fr_rf μ) (by omega)) (by omega)) (by omega)) (by omega)) (by omega), up_eq.trans (by show (p : Int) + 1 + 1 = ((p + 2 : Nat) : Int); omega), by simp (disch := decide) only [up_k], ⟨fun _ _ => ⟨by simp (disch := decide) only [up_k, up_eq], by rw [up_k (by decide), up_eq]; rfl⟩, fun z => absurd z (by show ¬ (33 : Int) = 38; decide)⟩, ?_⟩
      simp (disch := (first | omega | (simp (disch := omega) only [sr_up, wr_up_o]; omega))) only [e146_0, e146_94, e146_116, e146_128, ks_99, ite_self, Bool.false_eq_true, eq_self, isk_t, i20_t, w20_t, l23_t, b21_t, b22_t, w_t, bif_t, bif_f, bif_d, if_pos, if_neg, if_true, if_false, not_true_eq_false, not_false_eq_true, Option.bind_some, Option.toList_some, Option.toList_none, List.cons_append, List.nil_append, Int.toNat_natCast, Int.reduceToNat, up_eq, up_p, up_k, sN,  h4, hA, hB ]
    · by_cases c3 : p + 1 < n ∧ b (p + 1) = 62
      · have e : sg2 b n p = (35, 2) := by unfold sg2; rw [if_neg (fun z => c2 z.2), if_pos ⟨c1, c3⟩]
        rw [if_pos c3.1, c3.2] at hA hB
        have hA : ∀ (s v : Int) (d : Nat), am_E d 142 0 [some (.inr (.inr 99))] [] (SH, ρ, am_up (am_up (am_up μ 99 24 ((p : Int) + 1)) 99 26 s) 99 27 v, cs) = some (some (.inl 62), (SH, ρ, am_up (am_up (am_up μ 99 24 ((p : Int) + 1)) 99 26 s) 99 27 v, cs)) := hA
        rw [e]
        refine ⟨am_up (am_up (am_up (am_up (am_up μ 99 24 ((p : Int) + 1)) 99 26 3) 99 27 60) 99 27 257) 99 24 ((p : Int) + 1 + 1), fr_up (fr_up (fr_up (fr_up (fr_up (fr_rf μ) (by omega)) (by omega)) (by omega)) (by omega)) (by omega), up_eq.trans (by show (p : Int) + 1 + 1 = ((p + 2 : Nat) : Int); omega), by simp (disch := decide) only [up_k], ⟨fun _ _ => ⟨by simp (disch := decide) only [up_k, up_eq], by rw [up_k (by decide), up_eq]; rfl⟩, fun z => absurd z (by show ¬ (35 : Int) = 38; decide)⟩, ?_⟩
        simp (disch := (first | omega | (simp (disch := omega) only [sr_up, wr_up_o]; omega))) only [e146_0, e146_94, e146_116, e146_128, ks_99, ite_self, Bool.false_eq_true, eq_self, isk_t, i20_t, w20_t, l23_t, b21_t, b22_t, w_t, bif_t, bif_f, bif_d, if_pos, if_neg, if_true, if_false, not_true_eq_false, not_false_eq_true, Option.bind_some, Option.toList_some, Option.toList_none, List.cons_append, List.nil_append, Int.toNat_natCast, Int.reduceToNat, up_eq, up_p, up_k, sN,  h4, hA ]
      · have e : sg2 b n p = (32, 1) := by unfold sg2; rw [if_neg (fun z => c2 z.2), if_neg (fun z => c3 z.2), if_neg (fun z => by omega), c1]; rfl
        rw [e]
        have hnx : (if p + 1 < n then b (p + 1) % 256 else -1) ≠ 61 ∧ (if p + 1 < n then b (p + 1) % 256 else -1) ≠ 62 := by
          by_cases q : p + 1 < n
          · rw [if_pos q]
            have := h.2.2.2.2.1 (p + 1) q
            constructor
            · intro z; exact c2 ⟨q, by omega⟩
            · intro z; exact c3 ⟨q, by omega⟩
          · rw [if_neg q]; omega
        generalize (if p + 1 < n then b (p + 1) % 256 else (-1 : Int)) = y at hA hB hnx
        obtain ⟨y1, y2⟩ := hnx
        refine ⟨am_up (am_up (am_up μ 99 24 ((p : Int) + 1)) 99 26 3) 99 27 60, fr_up (fr_up (fr_up (fr_rf μ) (by omega)) (by omega)) (by omega), by simp (disch := decide) only [up_k, up_eq]; omega, by simp (disch := decide) only [up_k], ⟨fun _ _ => ⟨by simp (disch := decide) only [up_k, up_eq], by rw [up_eq]; rfl⟩, fun z => absurd z (by show ¬ (32 : Int) = 38; decide)⟩, ?_⟩
        simp (disch := (first | omega | (simp (disch := omega) only [sr_up, wr_up_o]; omega))) only [e146_0, e146_94, e146_116, e146_128, ks_99, ite_self, Bool.false_eq_true, eq_self, isk_t, i20_t, w20_t, l23_t, b21_t, b22_t, w_t, bif_t, bif_f, bif_d, if_pos, if_neg, if_true, if_false, not_true_eq_false, not_false_eq_true, Option.bind_some, Option.toList_some, Option.toList_none, List.cons_append, List.nil_append, Int.toNat_natCast, Int.reduceToNat, up_eq, up_p, up_k, sN,  h4, hA, y1, y2 ]
  · by_cases c4 : b p = 62
    · have c1' : b p % 256 = 62 := by omega
      rw [c1']
      by_cases c2 : p + 1 < n ∧ b (p + 1) = 61
      · have e : sg2 b n p = (36, 2) := by unfold sg2; rw [if_neg (fun z => c1 z.1), if_neg (fun z => c1 z.1), if_pos ⟨c4, c2⟩]
        rw [if_pos c2.1, c2.2] at hA hB
        have hA : ∀ (s v : Int) (d : Nat), am_E d 142 0 [some (.inr (.inr 99))] [] (SH, ρ, am_up (am_up (am_up μ 99 24 ((p : Int) + 1)) 99 26 s) 99 27 v, cs) = some (some (.inl 61), (SH, ρ, am_up (am_up (am_up μ 99 24 ((p : Int) + 1)) 99 26 s) 99 27 v, cs)) := hA
        rw [e]
        refine ⟨am_up (am_up (am_up (am_up (am_up μ 99 24 ((p : Int) + 1)) 99 26 3) 99 27 62) 99 27 258) 99 24 ((p : Int) + 1 + 1), fr_up (fr_up (fr_up (fr_up (fr_up (fr_rf μ) (by omega)) (by omega)) (by omega)) (by omega)) (by omega), up_eq.trans (by show (p : Int) + 1 + 1 = ((p + 2 : Nat) : Int); omega), by simp (disch := decide) only [up_k], ⟨fun _ _ => ⟨by simp (disch := decide) only [up_k, up_eq], by rw [up_k (by decide), up_eq]; rfl⟩, fun z => absurd z (by show ¬ (36 : Int) = 38; decide)⟩, ?_⟩
        simp (disch := (first | omega | (simp (disch := omega) only [sr_up, wr_up_o]; omega))) only [e146_0, e146_128, e146_138, ks_99, ite_self, Bool.false_eq_true, eq_self, isk_t, i20_t, w20_t, l23_t, b21_t, b22_t, w_t, bif_t, bif_f, bif_d, if_pos, if_neg, if_true, if_false, not_true_eq_false, not_false_eq_true, Option.bind_some, Option.toList_some, Option.toList_none, List.cons_append, List.nil_append, Int.toNat_natCast, Int.reduceToNat, up_eq, up_p, up_k, sN,  h4, hA ]
      · have e : sg2 b n p = (37, 1) := by unfold sg2; rw [if_neg (fun z => c1 z.1), if_neg (fun z => c1 z.1), if_neg (fun z => c2 z.2), c4]; rfl
        rw [e]
        have hnx : (if p + 1 < n then b (p + 1) % 256 else -1) ≠ 61 := by
          by_cases q : p + 1 < n
          · rw [if_pos q]
            have := h.2.2.2.2.1 (p + 1) q
            intro z; exact c2 ⟨q, by omega⟩
          · rw [if_neg q]; omega
        generalize (if p + 1 < n then b (p + 1) % 256 else (-1 : Int)) = y at hA hB hnx
        refine ⟨am_up (am_up (am_up μ 99 24 ((p : Int) + 1)) 99 26 3) 99 27 62, fr_up (fr_up (fr_up (fr_rf μ) (by omega)) (by omega)) (by omega), by simp (disch := decide) only [up_k, up_eq]; omega, by simp (disch := decide) only [up_k], ⟨fun _ _ => ⟨by simp (disch := decide) only [up_k, up_eq], by rw [up_eq]; rfl⟩, fun z => absurd z (by show ¬ (37 : Int) = 38; decide)⟩, ?_⟩
        simp (disch := (first | omega | (simp (disch := omega) only [sr_up, wr_up_o]; omega))) only [e146_0, e146_128, e146_138, ks_99, ite_self, Bool.false_eq_true, eq_self, isk_t, i20_t, w20_t, l23_t, b21_t, b22_t, w_t, bif_t, bif_f, bif_d, if_pos, if_neg, if_true, if_false, not_true_eq_false, not_false_eq_true, Option.bind_some, Option.toList_some, Option.toList_none, List.cons_append, List.nil_append, Int.toNat_natCast, Int.reduceToNat, up_eq, up_p, up_k, sN,  h4, hA, hnx ]
    · have e : sg2 b n p = (sgn (b p), 1) := by unfold sg2; rw [if_neg (fun z => c1 z.1), if_neg (fun z => c1 z.1), if_neg (fun z => c4 z.1)]
      rw [e]
      by_cases cs9 : b p = 59 ∨ b p = 40 ∨ b p = 41 ∨ b p = 43 ∨ b p = 45 ∨ b p = 42 ∨ b p = 47 ∨ b p = 61
      · refine ⟨am_up (am_up (am_up μ 99 24 ((p : Int) + 1)) 99 26 3) 99 27 (b p % 256), fr_up (fr_up (fr_up (fr_rf μ) (by omega)) (by omega)) (by omega), by simp (disch := decide) only [up_k, up_eq]; omega, by simp (disch := decide) only [up_k], ⟨fun _ _ => ⟨by simp (disch := decide) only [up_k, up_eq], ?_⟩, fun z => ?_⟩, ?_⟩
        · rw [up_eq]
          show b p % 256 = schr (sgn (b p))
          rcases cs9 with q | q | q | q | q | q | q | q <;> rw [q] <;> rfl
        · have z : sgn (b p) = 38 := z
          exfalso
          rcases cs9 with q | q | q | q | q | q | q | q <;> rw [q] at z <;> exact absurd z (by decide)
        · rcases cs9 with q | q | q | q | q | q | q | q <;> rw [q]
          · show am_E (d + 1) 146 0 [some (.inr (.inr 99)), some (.inl 59)] [] (SH, ρ, μ, cs) = some (none, (SH, ρ, am_up (am_up (am_up μ 99 24 ((p : Int) + 1)) 99 26 3) 99 27 59, cs))
            simp (disch := (first | omega | (simp (disch := omega) only [sr_up, wr_up_o]; omega))) only [e146_0, e146_128, ks_99, ite_self, Bool.false_eq_true, eq_self, isk_t, i20_t, w20_t, l23_t, b21_t, b22_t, w_t, bif_t, bif_f, bif_d, if_pos, if_neg, if_true, if_false, not_true_eq_false, not_false_eq_true, Option.bind_some, Option.toList_some, Option.toList_none, List.cons_append, List.nil_append, Int.toNat_natCast, Int.reduceToNat, up_eq, up_p, up_k, sN,  h4 ]
          · show am_E (d + 1) 146 0 [some (.inr (.inr 99)), some (.inl 40)] [] (SH, ρ, μ, cs) = some (none, (SH, ρ, am_up (am_up (am_up μ 99 24 ((p : Int) + 1)) 99 26 3) 99 27 40, cs))
            simp (disch := (first | omega | (simp (disch := omega) only [sr_up, wr_up_o]; omega))) only [e146_0, e146_128, ks_99, ite_self, Bool.false_eq_true, eq_self, isk_t, i20_t, w20_t, l23_t, b21_t, b22_t, w_t, bif_t, bif_f, bif_d, if_pos, if_neg, if_true, if_false, not_true_eq_false, not_false_eq_true, Option.bind_some, Option.toList_some, Option.toList_none, List.cons_append, List.nil_append, Int.toNat_natCast, Int.reduceToNat, up_eq, up_p, up_k, sN,  h4 ]
          · show am_E (d + 1) 146 0 [some (.inr (.inr 99)), some (.inl 41)] [] (SH, ρ, μ, cs) = some (none, (SH, ρ, am_up (am_up (am_up μ 99 24 ((p : Int) + 1)) 99 26 3) 99 27 41, cs))
            simp (disch := (first | omega | (simp (disch := omega) only [sr_up, wr_up_o]; omega))) only [e146_0, e146_128, ks_99, ite_self, Bool.false_eq_true, eq_self, isk_t, i20_t, w20_t, l23_t, b21_t, b22_t, w_t, bif_t, bif_f, bif_d, if_pos, if_neg, if_true, if_false, not_true_eq_false, not_false_eq_true, Option.bind_some, Option.toList_some, Option.toList_none, List.cons_append, List.nil_append, Int.toNat_natCast, Int.reduceToNat, up_eq, up_p, up_k, sN,  h4 ]
          · show am_E (d + 1) 146 0 [some (.inr (.inr 99)), some (.inl 43)] [] (SH, ρ, μ, cs) = some (none, (SH, ρ, am_up (am_up (am_up μ 99 24 ((p : Int) + 1)) 99 26 3) 99 27 43, cs))
            simp (disch := (first | omega | (simp (disch := omega) only [sr_up, wr_up_o]; omega))) only [e146_0, e146_128, ks_99, ite_self, Bool.false_eq_true, eq_self, isk_t, i20_t, w20_t, l23_t, b21_t, b22_t, w_t, bif_t, bif_f, bif_d, if_pos, if_neg, if_true, if_false, not_true_eq_false, not_false_eq_true, Option.bind_some, Option.toList_some, Option.toList_none, List.cons_append, List.nil_append, Int.toNat_natCast, Int.reduceToNat, up_eq, up_p, up_k, sN,  h4 ]
          · show am_E (d + 1) 146 0 [some (.inr (.inr 99)), some (.inl 45)] [] (SH, ρ, μ, cs) = some (none, (SH, ρ, am_up (am_up (am_up μ 99 24 ((p : Int) + 1)) 99 26 3) 99 27 45, cs))
            simp (disch := (first | omega | (simp (disch := omega) only [sr_up, wr_up_o]; omega))) only [e146_0, e146_128, ks_99, ite_self, Bool.false_eq_true, eq_self, isk_t, i20_t, w20_t, l23_t, b21_t, b22_t, w_t, bif_t, bif_f, bif_d, if_pos, if_neg, if_true, if_false, not_true_eq_false, not_false_eq_true, Option.bind_some, Option.toList_some, Option.toList_none, List.cons_append, List.nil_append, Int.toNat_natCast, Int.reduceToNat, up_eq, up_p, up_k, sN,  h4 ]
          · show am_E (d + 1) 146 0 [some (.inr (.inr 99)), some (.inl 42)] [] (SH, ρ, μ, cs) = some (none, (SH, ρ, am_up (am_up (am_up μ 99 24 ((p : Int) + 1)) 99 26 3) 99 27 42, cs))
            simp (disch := (first | omega | (simp (disch := omega) only [sr_up, wr_up_o]; omega))) only [e146_0, e146_128, ks_99, ite_self, Bool.false_eq_true, eq_self, isk_t, i20_t, w20_t, l23_t, b21_t, b22_t, w_t, bif_t, bif_f, bif_d, if_pos, if_neg, if_true, if_false, not_true_eq_false, not_false_eq_true, Option.bind_some, Option.toList_some, Option.toList_none, List.cons_append, List.nil_append, Int.toNat_natCast, Int.reduceToNat, up_eq, up_p, up_k, sN,  h4 ]
          · show am_E (d + 1) 146 0 [some (.inr (.inr 99)), some (.inl 47)] [] (SH, ρ, μ, cs) = some (none, (SH, ρ, am_up (am_up (am_up μ 99 24 ((p : Int) + 1)) 99 26 3) 99 27 47, cs))
            simp (disch := (first | omega | (simp (disch := omega) only [sr_up, wr_up_o]; omega))) only [e146_0, e146_128, ks_99, ite_self, Bool.false_eq_true, eq_self, isk_t, i20_t, w20_t, l23_t, b21_t, b22_t, w_t, bif_t, bif_f, bif_d, if_pos, if_neg, if_true, if_false, not_true_eq_false, not_false_eq_true, Option.bind_some, Option.toList_some, Option.toList_none, List.cons_append, List.nil_append, Int.toNat_natCast, Int.reduceToNat, up_eq, up_p, up_k, sN,  h4 ]
          · show am_E (d + 1) 146 0 [some (.inr (.inr 99)), some (.inl 61)] [] (SH, ρ, μ, cs) = some (none, (SH, ρ, am_up (am_up (am_up μ 99 24 ((p : Int) + 1)) 99 26 3) 99 27 61, cs))
            simp (disch := (first | omega | (simp (disch := omega) only [sr_up, wr_up_o]; omega))) only [e146_0, e146_128, ks_99, ite_self, Bool.false_eq_true, eq_self, isk_t, i20_t, w20_t, l23_t, b21_t, b22_t, w_t, bif_t, bif_f, bif_d, if_pos, if_neg, if_true, if_false, not_true_eq_false, not_false_eq_true, Option.bind_some, Option.toList_some, Option.toList_none, List.cons_append, List.nil_append, Int.toNat_natCast, Int.reduceToNat, up_eq, up_p, up_k, sN,  h4 ]
      · have es : sgn (b p) = 38 := by
          unfold sgn
          simp (disch := omega) only [if_neg]
        rw [es]
        have hbd2 : 0 ≤ b p % 256 ∧ b p % 256 < 256 := by omega
        have y1 : b p % 256 ≠ 59 ∧ b p % 256 ≠ 40 ∧ b p % 256 ≠ 41 ∧ b p % 256 ≠ 43 ∧ b p % 256 ≠ 45 ∧ b p % 256 ≠ 42 ∧ b p % 256 ≠ 47 ∧ b p % 256 ≠ 61 ∧ b p % 256 ≠ 60 ∧ b p % 256 ≠ 62 := by omega
        generalize b p % 256 = y at hbd2 y1
        refine ⟨am_up (am_up (am_up μ 99 24 ((p : Int) + 1)) 99 26 5) 99 27 y, fr_up (fr_up (fr_up (fr_rf μ) (by omega)) (by omega)) (by omega), by simp (disch := decide) only [up_k, up_eq]; omega, by simp (disch := decide) only [up_k], ⟨fun z z' => absurd z' (by show ¬ (38 : Int) ≤ 37; decide), fun _ => by simp (disch := decide) only [up_k, up_eq]⟩, ?_⟩
        simp (disch := (first | omega | (simp (disch := omega) only [sr_up, wr_up_o]; omega))) only [e146_0, e146_128, ks_99, ite_self, Bool.false_eq_true, eq_self, isk_t, i20_t, w20_t, l23_t, b21_t, b22_t, w_t, bif_t, bif_f, bif_d, if_pos, if_neg, if_true, if_false, not_true_eq_false, not_false_eq_true, Option.bind_some, Option.toList_some, Option.toList_none, List.cons_append, List.nil_append, Int.toNat_natCast, Int.reduceToNat, up_eq, up_p, up_k, sN,  h4 ]
end RTO
