/-! TEXT: the reference's lines -/
def hfR (a : Nat) : Nat := if a = 0 then 10 else if a ≤ 2 then 7 else if a ≤ 5 then 6 else if a ≤ 7 then 10 else if a ≤ 13 then 12 else if a ≤ 15 then 3 else 64
/-- what the reference reads lies in the second halves of its rows -/
def SR2 (μ : Nat → Nat → Int) : MS := fun a k => if a < 18 then μ (101 + a) (hfR a + k.toNat) else 0
theorem sr2_fr {μ μ' : Nat → Nat → Int} (h : ∀ q k, 101 ≤ q → q ≤ 118 → μ' q k = μ q k) : SR2 μ' = SR2 μ := by
  funext a k
  unfold SR2
  by_cases q : a < 18
  · rw [if_pos q, if_pos q, h _ _ (by omega) (by omega)]
  · rw [if_neg q, if_neg q]
theorem sr2_up {μ : Nat → Nat → Int} {a i : Nat} {v : Int} (ha : a < 18) : SR2 (am_up μ (101 + a) (hfR a + i) v) = zp (SR2 μ) a i v := by
  funext a' k
  unfold SR2 zp
  by_cases q : a' < 18
  · rw [if_pos q]
    by_cases e : a' = a ∧ k.toNat = ((i : Nat) : Int).toNat
    · rw [if_pos e]
      obtain ⟨rfl, e2⟩ := e
      rw [e2, Int.toNat_natCast, up_eq]
    · rw [if_neg e]
      show _ = if a' < 18 then μ (101 + a') (hfR a' + k.toNat) else 0
      rw [if_pos q]
      exact am_up_no (fun z => e (by
        obtain ⟨z1, z2⟩ := z
        have : a' = a := by omega
        subst this
        exact ⟨rfl, by rw [Int.toNat_natCast]; omega⟩))
  · rw [if_neg q, if_neg (by omega)]
    show _ = if a' < 18 then μ (101 + a') (hfR a' + k.toNat) else 0
    rw [if_neg q]
theorem fnd_sh {g : Nat → Int} {B : Nat} {z : Int} : ∀ (n k : Nat), fnd g B z n k = fnd (fun j => g (B + j)) 0 z n k := by
  intro n
  induction n with
  | zero => intro k; rfl
  | succ n ih =>
    intro k
    show (if g (B + k) = z then (k : Int) else fnd g B z n (k + 1)) = if g (B + (0 + k)) = z then (k : Int) else fnd (fun j => g (B + j)) 0 z n (k + 1)
    rw [ih, Nat.zero_add]
section RLN
variable {ρ : Nat → Nat → Nat} {μ : Nat → Nat → Int} {cs : Nat × Nat × Nat} {d n a c : Nat} {b : Nat → Int}
def RH (μ : Nat → Nat → Int) (b : Nat → Int) (n a : Nat) : Prop := RTk μ b n (tok b n a).2.2.2 ∧ RK μ (tok b n a) ∧ μ 99 28 = 0
def RF (μ : Nat → Nat → Int) (q : Int × Nat) : Prop := μ 99 28 = q.1 ∧ μ 99 29 = (q.2 : Int) ∧ q.1 ≠ 0
def FW (μ μ' : Nat → Nat → Int) : Prop := ∀ q k, ¬ (q = 99 ∧ 24 ≤ k ∧ k ≤ 29) → μ' q k = μ q k
theorem fw_rf (μ : Nat → Nat → Int) : FW μ μ := fun _ _ _ => rfl
theorem fw_tr {x y z : Nat → Nat → Int} (h1 : FW x y) (h2 : FW y z) : FW x z := fun q k h => (h2 q k h).trans (h1 q k h)
theorem fw_fr {x y : Nat → Nat → Int} (h : FR x y) : FW x y := fun q k hq => h q k (by omega)
theorem fw_up {μ μ' : Nat → Nat → Int} {k : Nat} {v : Int} (h1 : FW μ μ') (h : 24 ≤ k ∧ k ≤ 29) : FW μ (am_up μ' 99 k v) := fun q' k' h' => by
  rw [am_up_no (fun e => h' (by omega))]
  exact h1 q' k' h'
theorem fw_sr2 {μ' : Nat → Nat → Int} (h : FW μ μ') : SR2 μ' = SR2 μ := sr2_fr (fun q k h0 h1 => h q k (by omega))
theorem rk_fr {μ' : Nat → Nat → Int} {t : Int × Int × Nat × Nat} (h : RK μ t) (hf : ∀ k, 25 ≤ k → k ≤ 27 → μ' 99 k = μ 99 k) : RK μ' t := by
  unfold RK at h ⊢
  rw [hf 25 (by omega) (by omega), hf 26 (by omega) (by omega), hf 27 (by omega) (by omega)]
  exact h
theorem rh_fr {μ' : Nat → Nat → Int} (h : RH μ b n a) (h1 : ∀ i, μ' 100 i = μ 100 i) (h2 : ∀ k, 23 ≤ k → k ≤ 29 → μ' 99 k = μ 99 k) : RH μ' b n a := ⟨rtk_fr h.1 h1 (h2 _ (by omega) (by omega)) (h2 _ (by omega) (by omega)) (h2 _ (by omega) (by omega)), rk_fr h.2.1 (fun k h0 h1 => h2 k (by omega) (by omega)), by rw [h2 _ (by omega) (by omega)]; exact h.2.2⟩
theorem rh_up {q k : Nat} {v : Int} (h : RH μ b n a) (hq : q ≠ 100 ∧ (q ≠ 99 ∨ k < 23 ∨ 29 < k)) : RH (am_up μ q k v) b n a := rh_fr h (fun i => up_p (by omega)) (fun k' h0 h1 => am_up_no (by omega))
theorem R_wr {f : Int} (h : μ 99 28 = 0) : am_E d 149 0 [some (.inr (.inr 99)), some (.inl f)] [] (SH, ρ, μ, cs) = some (none, (SH, ρ, am_up (am_up μ 99 28 f) 99 29 (μ 99 25), cs)) := by
  simp (disch := (first | omega | (simp (disch := omega) only [sr_up, wr_up_o]; omega))) only [e149_0, ks_99, ite_self, Bool.false_eq_true, eq_self, isk_t, i20_t, w20_t, l23_t, b21_t, b22_t, w_t, bif_t, bif_f, bif_d, if_pos, if_neg, if_true, if_false, not_true_eq_false, not_false_eq_true, Option.bind_some, Option.toList_some, Option.toList_none, List.cons_append, List.nil_append, Int.toNat_natCast, Int.reduceToNat, up_eq, up_p, up_k, sN,  h ]
theorem rf_wr {t : Int × Int × Nat × Nat} {f : Int} (h : RK μ t) (hf : f ≠ 0) : RF (am_up (am_up μ 99 28 f) 99 29 (μ 99 25)) (f, t.2.2.1) := ⟨by rw [up_k (by omega), up_eq], by rw [up_eq]; exact h.1, hf⟩
theorem R_tokH (hρ : RM ρ) (h : RTk μ b n a) (h0 : μ 99 28 = 0) : ∃ μ', FR μ μ' ∧ RH μ' b n a ∧ am_E (d + 6) 145 0 [some (.inr (.inr 99)), none] [] (SH, ρ, μ, cs) = some (none, (SH, ρ, μ', cs)) := by
  obtain ⟨μ', f1, f2, f3, f4⟩ := R_token (d := d) (cs := cs) hρ h
  exact ⟨μ', f1, ⟨f2, f3, by rw [f1 _ _ (by omega)]; exact h0⟩, f4⟩
theorem R_goOn (hρ : RM ρ) (h : RH μ b n a) : ∃ μ', FR μ μ' ∧ RH μ' b n (tok b n a).2.2.2 ∧ am_E (d + 7) 152 0 [some (.inr (.inr 99))] [] (SH, ρ, μ, cs) = some (none, (SH, ρ, μ', cs)) := by
  obtain ⟨μ', f1, f2, f4⟩ := R_tokH (d := d) (cs := cs) hρ h.1 h.2.2
  refine ⟨μ', f1, f2, ?_⟩
  have h0 := h.2.2
  simp (disch := (first | omega | (simp (disch := omega) only [sr_up, wr_up_o]; omega))) only [e152_0, e152_11, ks_99, ite_self, Bool.false_eq_true, eq_self, isk_t, i20_t, w20_t, l23_t, b21_t, b22_t, w_t, bif_t, bif_f, bif_d, if_pos, if_neg, if_true, if_false, not_true_eq_false, not_false_eq_true, Option.bind_some, Option.toList_some, Option.toList_none, List.cons_append, List.nil_append, Int.toNat_natCast, Int.reduceToNat, up_eq, up_p, up_k, sN,  h0, f4 ]
theorem R_goOnF (h : μ 99 28 ≠ 0) : am_E (d + 7) 152 0 [some (.inr (.inr 99))] [] (SH, ρ, μ, cs) = some (none, (SH, ρ, μ, cs)) := by
  simp (disch := (first | omega | (simp (disch := omega) only [sr_up, wr_up_o]; omega))) only [e152_0, e152_11, ks_99, ite_self, Bool.false_eq_true, eq_self, isk_t, i20_t, w20_t, l23_t, b21_t, b22_t, w_t, bif_t, bif_f, bif_d, if_pos, if_neg, if_true, if_false, not_true_eq_false, not_false_eq_true, Option.bind_some, Option.toList_some, Option.toList_none, List.cons_append, List.nil_append, Int.toNat_natCast, Int.reduceToNat, up_eq, up_p, up_k, sN,  h ]
/-- what the token's sort is -/
theorem rk_sort {t : Int × Int × Nat × Nat} (h : RK μ t) (h0 : 0 ≤ t.1) (h1 : t.1 ≤ 39) : (μ 99 26 = 0 ∧ t.1 ≤ 22) ∨ (μ 99 26 = 1 ∧ t.1 = 23) ∨ (μ 99 26 = 2 ∧ t.1 = 24) ∨ (μ 99 26 = 3 ∧ 25 ≤ t.1 ∧ t.1 ≤ 37) ∨ (μ 99 26 = 5 ∧ t.1 = 38) ∨ (μ 99 26 = 4 ∧ t.1 = 39) := by
  obtain ⟨_, r1, r2, r3, r4, r5, r6⟩ := h
  rcases (show t.1 ≤ 22 ∨ t.1 = 23 ∨ t.1 = 24 ∨ (25 ≤ t.1 ∧ t.1 ≤ 37) ∨ t.1 = 38 ∨ t.1 = 39 by omega) with q | q | q | q | q | q
  · exact Or.inl ⟨(r1 q).1, q⟩
  · exact Or.inr (Or.inl ⟨(r2 q).1, q⟩)
  · exact Or.inr (Or.inr (Or.inl ⟨(r3 q).1, q⟩))
  · exact Or.inr (Or.inr (Or.inr (Or.inl ⟨(r4 q.1 q.2).1, q⟩)))
  · exact Or.inr (Or.inr (Or.inr (Or.inr (Or.inl ⟨r5 q, q⟩))))
  · exact Or.inr (Or.inr (Or.inr (Or.inr (Or.inr ⟨r6 q, q⟩))))
theorem tok_39 (b : Nat → Int) (n a : Nat) : (tok b n a).1 ≤ 39 := by
  unfold tok
  generalize rn blk b n a = p
  by_cases c0 : n ≤ p
  · rw [if_pos c0]; show (39 : Int) ≤ 39; decide
  rw [if_neg c0]
  by_cases c1 : ltr (b p) = true
  · rw [if_pos c1]
    by_cases c2 : 6 < rn ltr b n p - p
    · rw [if_pos c2]; show (38 : Int) ≤ 39; decide
    · rw [if_neg c2]; have := wkd_bd (wc b p (rn ltr b n p)); show wkd (wc b p (rn ltr b n p)) ≤ 39; omega
  rw [if_neg c1]
  by_cases c2 : dgt (b p) = true
  · rw [if_pos c2]; show (24 : Int) ≤ 39; decide
  · rw [if_neg c2]; have := sg2_bd (b := b) (n := n) p; show (sg2 b n p).1 ≤ 39; omega
theorem R_nU (hρ : RM ρ) (h : RH μ b n a) {lo hi : Int} : ∃ μ', FW μ μ' ∧ (∀ q, nU b n lo hi a = .inl q → RF μ' q ∧ am_E (d + 7) 153 0 [some (.inr (.inr 99)), some (.inl lo), some (.inl hi), none] [] (SH, ρ, μ, cs) = some (some (.inl lo), (SH, ρ, μ', cs))) ∧ ∀ y, nU b n lo hi a = .inr y → RH μ' b n y.2 ∧ am_E (d + 7) 153 0 [some (.inr (.inr 99)), some (.inl lo), some (.inl hi), none] [] (SH, ρ, μ, cs) = some (some (.inl y.1), (SH, ρ, μ', cs)) := by
  obtain ⟨hT, hK, h0⟩ := id h
  have hs := rk_sort hK (tok_nn b n a) (tok_39 b n a)
  have hw := fun (f : Int) (d : Nat) => R_wr (ρ := ρ) (cs := cs) (d := d) (f := f) h0
  cases hh : nU b n lo hi a with
  | inl q =>
    rcases nU_inl hh with ⟨g1, rfl⟩ | ⟨g1, g2, rfl⟩
    · refine ⟨am_up (am_up μ 99 28 1) 99 29 (μ 99 25), fw_up (fw_up (fw_rf μ) (by omega)) (by omega), fun y hy => ?_, fun y hy => (by cases hy)⟩
      cases hy
      refine ⟨rf_wr hK (by decide), ?_⟩
      have s2 : μ 99 26 ≠ 2 := by omega
      simp (disch := (first | omega | (simp (disch := omega) only [sr_up, wr_up_o]; omega))) only [e153_0, e153_22, e153_46, ks_99, ite_self, Bool.false_eq_true, eq_self, isk_t, i20_t, w20_t, l23_t, b21_t, b22_t, w_t, bif_t, bif_f, bif_d, if_pos, if_neg, if_true, if_false, not_true_eq_false, not_false_eq_true, Option.bind_some, Option.toList_some, Option.toList_none, List.cons_append, List.nil_append, Int.toNat_natCast, Int.reduceToNat, up_eq, up_p, up_k, sN,  h0, s2, hw ]
    · refine ⟨am_up (am_up μ 99 28 2) 99 29 (μ 99 25), fw_up (fw_up (fw_rf μ) (by omega)) (by omega), fun y hy => ?_, fun y hy => (by cases hy)⟩
      cases hy
      refine ⟨rf_wr hK (by decide), ?_⟩
      have s2 : μ 99 26 = 2 := by omega
      have v2 := (hK.2.2.2.1 g1).2
      generalize (tok b n a).2.1 = v at *
      by_cases q1 : v < lo
      · simp (disch := (first | omega | (simp (disch := omega) only [sr_up, wr_up_o]; omega))) only [e153_0, e153_22, e153_46, ks_99, ite_self, Bool.false_eq_true, eq_self, isk_t, i20_t, w20_t, l23_t, b21_t, b22_t, w_t, bif_t, bif_f, bif_d, if_pos, if_neg, if_true, if_false, not_true_eq_false, not_false_eq_true, Option.bind_some, Option.toList_some, Option.toList_none, List.cons_append, List.nil_append, Int.toNat_natCast, Int.reduceToNat, up_eq, up_p, up_k, sN,  h0, s2, v2, hw ]
      · simp (disch := (first | omega | (simp (disch := omega) only [sr_up, wr_up_o]; omega))) only [e153_0, e153_22, e153_46, ks_99, ite_self, Bool.false_eq_true, eq_self, isk_t, i20_t, w20_t, l23_t, b21_t, b22_t, w_t, bif_t, bif_f, bif_d, if_pos, if_neg, if_true, if_false, not_true_eq_false, not_false_eq_true, Option.bind_some, Option.toList_some, Option.toList_none, List.cons_append, List.nil_append, Int.toNat_natCast, Int.reduceToNat, up_eq, up_p, up_k, sN,  h0, s2, v2, hw ]
  | inr y =>
    obtain ⟨g1, g2, rfl⟩ := nU_inr hh
    obtain ⟨μ', f1, f2, f4⟩ := R_tokH (d := d) (cs := cs) hρ hT h0
    refine ⟨μ', fw_fr f1, fun y hy => (by cases hy), fun y hy => ?_⟩
    cases hy
    refine ⟨f2, ?_⟩
    have s2 : μ 99 26 = 2 := by omega
    have v2 := (hK.2.2.2.1 g1).2
    show (_ : Option am_Res) = some (some (.inl ((tok b n a).2.1)), (SH, ρ, μ', cs))
    generalize (tok b n a).2.1 = v at *
    simp (disch := (first | omega | (simp (disch := omega) only [sr_up, wr_up_o]; omega))) only [e153_0, e153_46, e153_64, ks_99, ite_self, Bool.false_eq_true, eq_self, isk_t, i20_t, w20_t, l23_t, b21_t, b22_t, w_t, bif_t, bif_f, bif_d, if_pos, if_neg, if_true, if_false, not_true_eq_false, not_false_eq_true, Option.bind_some, Option.toList_some, Option.toList_none, List.cons_append, List.nil_append, Int.toNat_natCast, Int.reduceToNat, up_eq, up_p, up_k, sN,  h0, s2, v2, f4 ]
theorem R_nUF (h : μ 99 28 ≠ 0) {lo hi : Int} : am_E (d + 7) 153 0 [some (.inr (.inr 99)), some (.inl lo), some (.inl hi), none] [] (SH, ρ, μ, cs) = some (some (.inl lo), (SH, ρ, μ, cs)) := by
  simp (disch := (first | omega | (simp (disch := omega) only [sr_up, wr_up_o]; omega))) only [e153_0, ks_99, ite_self, Bool.false_eq_true, eq_self, isk_t, i20_t, w20_t, l23_t, b21_t, b22_t, w_t, bif_t, bif_f, bif_d, if_pos, if_neg, if_true, if_false, not_true_eq_false, not_false_eq_true, Option.bind_some, Option.toList_some, Option.toList_none, List.cons_append, List.nil_append, Int.toNat_natCast, Int.reduceToNat, up_eq, up_p, up_k, sN,  h ]
theorem R_nN (hρ : RM ρ) (h : RH μ b n a) {q len B : Nat} (hk : am_ks SH cs.2.2 q = (20, len)) (hB : B + c ≤ len) (hl : len < 1000) : ∃ μ', FW μ μ' ∧ (∀ y, nN b n (fun j => μ q (B + j)) c a = .inl y → RF μ' y ∧ am_E (d + 7) 155 0 [some (.inr (.inr 99)), some (.inr (.inr q)), some (.inl (B : Int)), some (.inl (c : Int)), none] [] (SH, ρ, μ, cs) = some (some (.inl 0), (SH, ρ, μ', cs))) ∧ ∀ y, nN b n (fun j => μ q (B + j)) c a = .inr y → RH μ' b n y.2 ∧ am_E (d + 7) 155 0 [some (.inr (.inr 99)), some (.inr (.inr q)), some (.inl (B : Int)), some (.inl (c : Int)), none] [] (SH, ρ, μ, cs) = some (some (.inl y.1), (SH, ρ, μ', cs)) := by
  obtain ⟨hT, hK, h0⟩ := id h
  have hs := rk_sort hK (tok_nn b n a) (tok_39 b n a)
  have hw := fun (f : Int) (d : Nat) => R_wr (ρ := ρ) (cs := cs) (d := d) (f := f) h0
  have hfo := fun (z : Int) (d : Nat) => M_found (sh := SH) (ρ := ρ) (μ := μ) (cs := cs) (d := d) (q := q) (len := len) (b := B) (many := c) (z := z) hk hB (by omega)
  cases hh : nN b n (fun j => μ q (B + j)) c a with
  | inl y =>
    rcases nN_inl hh with ⟨g1, rfl⟩ | ⟨g1, g2, rfl⟩
    · refine ⟨am_up (am_up μ 99 28 1) 99 29 (μ 99 25), fw_up (fw_up (fw_rf μ) (by omega)) (by omega), fun y hy => ?_, fun y hy => (by cases hy)⟩
      cases hy
      refine ⟨rf_wr hK (by decide), ?_⟩
      have s2 : μ 99 26 ≠ 1 := by omega
      simp (disch := (first | omega | (simp (disch := omega) only [sr_up, wr_up_o]; omega))) only [e155_0, e155_22, e155_44, ks_99, ite_self, Bool.false_eq_true, eq_self, isk_t, i20_t, w20_t, l23_t, b21_t, b22_t, w_t, bif_t, bif_f, bif_d, if_pos, if_neg, if_true, if_false, not_true_eq_false, not_false_eq_true, Option.bind_some, Option.toList_some, Option.toList_none, List.cons_append, List.nil_append, Int.toNat_natCast, Int.reduceToNat, up_eq, up_p, up_k, sN,  h0, s2, hw ]
    · refine ⟨am_up (am_up μ 99 28 3) 99 29 (μ 99 25), fw_up (fw_up (fw_rf μ) (by omega)) (by omega), fun y hy => ?_, fun y hy => (by cases hy)⟩
      cases hy
      refine ⟨rf_wr hK (by decide), ?_⟩
      have s2 : μ 99 26 = 1 := by omega
      have v2 := (hK.2.2.1 g1).2
      rw [← fnd_sh] at g2
      have hf := hfo (tok b n a).2.1
      generalize (tok b n a).2.1 = v at *
      generalize fnd (μ q) B v c 0 = F at *
      have hF : F ≠ -1 := by omega
      simp (disch := (first | omega | (simp (disch := omega) only [sr_up, wr_up_o]; omega))) only [e155_0, e155_35, e155_44, ks_99, ite_self, Bool.false_eq_true, eq_self, isk_t, i20_t, w20_t, l23_t, b21_t, b22_t, w_t, bif_t, bif_f, bif_d, if_pos, if_neg, if_true, if_false, not_true_eq_false, not_false_eq_true, Option.bind_some, Option.toList_some, Option.toList_none, List.cons_append, List.nil_append, Int.toNat_natCast, Int.reduceToNat, up_eq, up_p, up_k, sN,  h0, s2, v2, hf, hF, hw ]
  | inr y =>
    obtain ⟨g1, g2, rfl⟩ := nN_inr hh
    obtain ⟨μ', f1, f2, f4⟩ := R_tokH (d := d) (cs := cs) hρ hT h0
    refine ⟨μ', fw_fr f1, fun y hy => (by cases hy), fun y hy => ?_⟩
    cases hy
    refine ⟨f2, ?_⟩
    have s2 : μ 99 26 = 1 := by omega
    have v2 := (hK.2.2.1 g1).2
    show (_ : Option am_Res) = some (some (.inl ((tok b n a).2.1)), (SH, ρ, μ', cs))
    have hbd := (fnd_bd (f := fun j => μ q (B + j)) (z := (tok b n a).2.1) c 0).1
    rw [← fnd_sh] at g2 hbd
    have hf := hfo (tok b n a).2.1
    generalize (tok b n a).2.1 = v at *
    generalize fnd (μ q) B v c 0 = F at *
    have hF : F = -1 := by omega
    rw [hF] at hf
    simp (disch := (first | omega | (simp (disch := omega) only [sr_up, wr_up_o]; omega))) only [e155_0, e155_35, e155_44, e155_63, ks_99, ite_self, Bool.false_eq_true, eq_self, isk_t, i20_t, w20_t, l23_t, b21_t, b22_t, w_t, bif_t, bif_f, bif_d, if_pos, if_neg, if_true, if_false, not_true_eq_false, not_false_eq_true, Option.bind_some, Option.toList_some, Option.toList_none, List.cons_append, List.nil_append, Int.toNat_natCast, Int.reduceToNat, up_eq, up_p, up_k, sN,  h0, s2, v2, hf, f4 ]
theorem R_oN (h : RH μ b n a) {q len B : Nat} (hk : am_ks SH cs.2.2 q = (20, len)) (hB : B + c ≤ len) (hl : len < 1000) : ∃ μ', FW μ μ' ∧ (∀ y, oN b n (fun j => μ q (B + j)) c a = .inl y → RF μ' y ∧ am_E (d + 7) 158 0 [some (.inr (.inr 99)), some (.inr (.inr q)), some (.inl (B : Int)), some (.inl (c : Int)), none] [] (SH, ρ, μ, cs) = some (some (.inl 0), (SH, ρ, μ', cs))) ∧ ∀ y, oN b n (fun j => μ q (B + j)) c a = .inr y → μ' = μ ∧ am_E (d + 7) 158 0 [some (.inr (.inr 99)), some (.inr (.inr q)), some (.inl (B : Int)), some (.inl (c : Int)), none] [] (SH, ρ, μ, cs) = some (some (.inl y.1), (SH, ρ, μ', cs)) := by
  obtain ⟨hT, hK, h0⟩ := id h
  have hs := rk_sort hK (tok_nn b n a) (tok_39 b n a)
  have hw := fun (f : Int) (d : Nat) => R_wr (ρ := ρ) (cs := cs) (d := d) (f := f) h0
  have hfo := fun (z : Int) (d : Nat) => M_found (sh := SH) (ρ := ρ) (μ := μ) (cs := cs) (d := d) (q := q) (len := len) (b := B) (many := c) (z := z) hk hB (by omega)
  cases hh : oN b n (fun j => μ q (B + j)) c a with
  | inl y =>
    rcases oN_inl hh with ⟨g1, rfl⟩ | ⟨g1, g2, rfl⟩
    · refine ⟨am_up (am_up μ 99 28 1) 99 29 (μ 99 25), fw_up (fw_up (fw_rf μ) (by omega)) (by omega), fun y hy => ?_, fun y hy => (by cases hy)⟩
      cases hy
      refine ⟨rf_wr hK (by decide), ?_⟩
      have s2 : μ 99 26 ≠ 1 := by omega
      simp (disch := (first | omega | (simp (disch := omega) only [sr_up, wr_up_o]; omega))) only [e158_0, e158_22, e158_63, ks_99, ite_self, Bool.false_eq_true, eq_self, isk_t, i20_t, w20_t, l23_t, b21_t, b22_t, w_t, bif_t, bif_f, bif_d, if_pos, if_neg, if_true, if_false, not_true_eq_false, not_false_eq_true, Option.bind_some, Option.toList_some, Option.toList_none, List.cons_append, List.nil_append, Int.toNat_natCast, Int.reduceToNat, up_eq, up_p, up_k, sN,  h0, s2, hw ]
    · refine ⟨am_up (am_up μ 99 28 4) 99 29 (μ 99 25), fw_up (fw_up (fw_rf μ) (by omega)) (by omega), fun y hy => ?_, fun y hy => (by cases hy)⟩
      cases hy
      refine ⟨rf_wr hK (by decide), ?_⟩
      have s2 : μ 99 26 = 1 := by omega
      have v2 := (hK.2.2.1 g1).2
      have hbd := (fnd_bd (f := fun j => μ q (B + j)) (z := (tok b n a).2.1) c 0).1
      rw [← fnd_sh] at g2 hbd
      have hf := hfo (tok b n a).2.1
      generalize (tok b n a).2.1 = v at *
      generalize fnd (μ q) B v c 0 = F at *
      have hF : F = -1 := by omega
      rw [hF] at hf
      simp (disch := (first | omega | (simp (disch := omega) only [sr_up, wr_up_o]; omega))) only [e158_0, e158_22, e158_39, e158_63, ks_99, ite_self, Bool.false_eq_true, eq_self, isk_t, i20_t, w20_t, l23_t, b21_t, b22_t, w_t, bif_t, bif_f, bif_d, if_pos, if_neg, if_true, if_false, not_true_eq_false, not_false_eq_true, Option.bind_some, Option.toList_some, Option.toList_none, List.cons_append, List.nil_append, Int.toNat_natCast, Int.reduceToNat, up_eq, up_p, up_k, sN,  h0, s2, v2, hf, hw ]
  | inr y =>
    obtain ⟨g1, g2, rfl⟩ := oN_inr hh
    refine ⟨μ, fw_rf μ, fun y hy => (by cases hy), fun y hy => ?_⟩
    cases hy
    refine ⟨rfl, ?_⟩
    have s2 : μ 99 26 = 1 := by omega
    have v2 := (hK.2.2.1 g1).2
    show (_ : Option am_Res) = some (some (.inl (fnd (fun j => μ q (B + j)) 0 (tok b n a).2.1 c 0)), (SH, ρ, μ, cs))
    rw [← fnd_sh] at g2 ⊢
    have hf := hfo (tok b n a).2.1
    generalize (tok b n a).2.1 = v at *
    generalize fnd (μ q) B v c 0 = F at *
    have hF : F ≠ -1 := by omega
    simp (disch := (first | omega | (simp (disch := omega) only [sr_up, wr_up_o]; omega))) only [e158_0, e158_22, e158_39, e158_63, ks_99, ite_self, Bool.false_eq_true, eq_self, isk_t, i20_t, w20_t, l23_t, b21_t, b22_t, w_t, bif_t, bif_f, bif_d, if_pos, if_neg, if_true, if_false, not_true_eq_false, not_false_eq_true, Option.bind_some, Option.toList_some, Option.toList_none, List.cons_append, List.nil_append, Int.toNat_natCast, Int.reduceToNat, up_eq, up_p, up_k, sN,  h0, s2, v2, hf, hF ]
theorem R_oNF (h : μ 99 28 ≠ 0) {q B : Nat} : am_E (d + 7) 158 0 [some (.inr (.inr 99)), some (.inr (.inr q)), some (.inl (B : Int)), some (.inl (c : Int)), none] [] (SH, ρ, μ, cs) = some (some (.inl 0), (SH, ρ, μ, cs)) := by
  simp (disch := (first | omega | (simp (disch := omega) only [sr_up, wr_up_o]; omega))) only [e158_0, ks_99, ite_self, Bool.false_eq_true, eq_self, isk_t, i20_t, w20_t, l23_t, b21_t, b22_t, w_t, bif_t, bif_f, bif_d, if_pos, if_neg, if_true, if_false, not_true_eq_false, not_false_eq_true, Option.bind_some, Option.toList_some, Option.toList_none, List.cons_append, List.nil_append, Int.toNat_natCast, Int.reduceToNat, up_eq, up_p, up_k, sN,  h ]
end RLN
