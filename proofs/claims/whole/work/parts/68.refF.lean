/-! THE REFERENCE: hearing, telling, a day -/
theorem frn_CR {μ μ' : Nat → Nat → Int} (h : FrN μ μ') (b : Int) : CR μ' b = CR μ b := by
  have e : bendR μ' = bendR μ := by
    funext p
    unfold bendR
    rw [frn_SR h, h 99 49 (by omega), h 99 51 (by omega), h 99 52 (by omega)]
  unfold CR
  rw [e, frn_SR h, h 99 49 (by omega), h 99 50 (by omega), h 99 53 (by omega)]
theorem frw_CR {s : Int} {μ μ' : Nat → Nat → Int} (h : FrW s μ μ') (b : Int) : CR μ' b = CR μ b := by
  have e : bendR μ' = bendR μ := by
    funext p
    unfold bendR
    rw [frw_SR h, h 99 49 (by omega) (by omega), h 99 51 (by omega) (by omega), h 99 52 (by omega) (by omega)]
  unfold CR
  rw [e, frw_SR h, h 99 49 (by omega) (by omega), h 99 50 (by omega) (by omega), h 99 53 (by omega) (by omega)]
section REF
variable {ρ : Nat → Nat → Nat} {cs : Nat × Nat × Nat} {d : Nat}
theorem R_firstFit_loop (hρ : RM ρ) {s p t b D : Int} {S : MS} {C : MC} {W : MW} (hs0 : 0 ≤ s) (hs : s < 23) (hp0 : 0 ≤ p) (hp : p < S 0 0) (ht0 : 0 ≤ t) (ht : t < 6) (hS : SI S) (hC : CI S C) (hD : D ≤ 20000) (hW : WI S D W) : ∀ (j : Nat) (q : Int) (μ : Nat → Nat → Int), SR μ = S → CR μ b = C → WR μ s = W → 0 ≤ q → q + j = S 0 0 → ∃ μ', FrN μ μ' ∧ am_E (d + 5) 199 3 [some (.inr (.inr 99)), some (.inl s), some (.inl p), some (.inl t), some (.inl q)] [] (SH, ρ, μ, cs) = some (some (.inl (ffit S C W p t j q)), (SH, ρ, μ', cs)) := by
  intro j
  induction j with
  | zero =>
    intro q μ h1 h2 h3 h4 h5
    have hN : μ 101 0 = S 0 0 := by rw [← h1]; rfl
    refine ⟨μ, frn_rf μ, ?_⟩
    rw [e199_3]; simp (disch := (first | omega | (simp (disch := omega) only [sr_up, wr_up_o]; omega))) only [ks_101, ks_99, rm_number hρ, Bool.false_eq_true, eq_self, isk_t, i20_t, w20_t, l23_t, b21_t, b22_t, w_t, bif_t, bif_f, bif_d, if_pos, if_neg, if_true, if_false, not_true_eq_false, not_false_eq_true, Option.bind_some, Option.toList_some, Option.toList_none, List.cons_append, List.nil_append, Int.toNat_natCast, Int.reduceToNat, up_eq, up_p, up_k, sN,  hN ]
    all_goals rfl
  | succ j ih =>
    intro q μ h1 h2 h3 h4 h5
    have hN : μ 101 0 = S 0 0 := by rw [← h1]; rfl
    have b0 := hS.1
    have bw := hW.2.2.2.2.2 q t h4 (by omega) ht0 ht
    have hf : ffit S C W p t (j + 1) q = if W 8 q t ≠ -2 ∧ fitB S C W p t (W 8 q t) (W 9 q t).toNat = true then q else ffit S C W p t j (q + 1) := rfl
    by_cases c1 : W 8 q t = -2
    · obtain ⟨μ', g1, g2⟩ := ih (q + 1) μ h1 h2 h3 (by omega) (by omega)
      refine ⟨μ', g1, ?_⟩
      rw [hf, if_neg (fun g => g.1 c1), ← g2]
      rw [e199_3]; simp (disch := (first | omega | (simp (disch := omega) only [sr_up, wr_up_o]; omega))) only [e199_22, ks_101, ks_128, ks_99, rm_number hρ, rm_printedHats hρ, Bool.false_eq_true, eq_self, isk_t, i20_t, w20_t, l23_t, b21_t, b22_t, w_t, bif_t, bif_f, bif_d, if_pos, if_neg, if_true, if_false, not_true_eq_false, not_false_eq_true, Option.bind_some, Option.toList_some, Option.toList_none, List.cons_append, List.nil_append, Int.toNat_natCast, Int.reduceToNat, up_eq, up_p, up_k, sN,  hN, R_isPrinted hρ, h3, c1 ]
    · subst h1 h2 h3
      obtain ⟨μ1, g1, g2⟩ := R_doesFit (ρ := ρ) (cs := cs) (d := d) (b := b) (hats := WR μ s 8 q t) (ch := (WR μ s 9 q t).toNat) hρ hs0 hs hp0 hp ht0 ht hS hC hD hW (by omega) (by omega) (by omega)
      rw [Int.toNat_of_nonneg (by omega)] at g2
      by_cases c2 : fitB (SR μ) (CR μ b) (WR μ s) p t (WR μ s 8 q t) (WR μ s 9 q t).toNat = true
      · refine ⟨μ1, g1, ?_⟩
        rw [if_pos c2] at g2
        rw [hf, if_pos ⟨c1, c2⟩]
        rw [e199_3]; simp (disch := (first | omega | (simp (disch := omega) only [sr_up, wr_up_o]; omega))) only [e199_22, e199_43, e199_55, e199_59, ks_101, ks_128, ks_129, ks_99, rm_number hρ, rm_printedChain hρ, rm_printedHats hρ, Bool.false_eq_true, eq_self, isk_t, i20_t, w20_t, l23_t, b21_t, b22_t, w_t, bif_t, bif_f, bif_d, if_pos, if_neg, if_true, if_false, not_true_eq_false, not_false_eq_true, Option.bind_some, Option.toList_some, Option.toList_none, List.cons_append, List.nil_append, Int.toNat_natCast, Int.reduceToNat, up_eq, up_p, up_k, sN,  hN, R_isPrinted hρ, c1, R_slot, i20_s, wr_pH μ, wr_pC μ, g2 ]
      · rw [if_neg c2] at g2
        obtain ⟨μ', g3, g4⟩ := ih (q + 1) μ1 (frn_SR g1) (frn_CR g1 b) (frn_WR g1) (by omega) (by omega)
        refine ⟨μ', frn_tr g1 g3, ?_⟩
        rw [hf, if_neg (fun g => c2 g.2), ← g4]
        rw [e199_3]; simp (disch := (first | omega | (simp (disch := omega) only [sr_up, wr_up_o]; omega))) only [e199_22, e199_43, e199_55, e199_59, ks_101, ks_128, ks_129, ks_99, rm_number hρ, rm_printedChain hρ, rm_printedHats hρ, Bool.false_eq_true, eq_self, isk_t, i20_t, w20_t, l23_t, b21_t, b22_t, w_t, bif_t, bif_f, bif_d, if_pos, if_neg, if_true, if_false, not_true_eq_false, not_false_eq_true, Option.bind_some, Option.toList_some, Option.toList_none, List.cons_append, List.nil_append, Int.toNat_natCast, Int.reduceToNat, up_eq, up_p, up_k, sN,  hN, R_isPrinted hρ, c1, R_slot, i20_s, wr_pH μ, wr_pC μ, g2 ]
theorem R_firstFit (hρ : RM ρ) {s p t b D : Int} {S : MS} {C : MC} {W : MW} {μ : Nat → Nat → Int} (hs0 : 0 ≤ s) (hs : s < 23) (hp0 : 0 ≤ p) (hp : p < S 0 0) (ht0 : 0 ≤ t) (ht : t < 6) (hS : SI S) (hC : CI S C) (hD : D ≤ 20000) (hW : WI S D W) (h1 : SR μ = S) (h2 : CR μ b = C) (h3 : WR μ s = W) : ∃ μ', FrN μ μ' ∧ am_E (d + 5) 199 0 [some (.inr (.inr 99)), some (.inl s), some (.inl p), some (.inl t), none] [] (SH, ρ, μ, cs) = some (some (.inl (ffit S C W p t (men S) 0)), (SH, ρ, μ', cs)) := by
  rw [e199_0]
  exact R_firstFit_loop hρ hs0 hs hp0 hp ht0 ht hS hC hD hW (men S) 0 μ h1 h2 h3 (Int.le_refl _) (by have := hS.1; unfold men; omega)
theorem R_changed (hρ : RM ρ) {s p t b D : Int} {S : MS} {C : MC} {W : MW} {μ : Nat → Nat → Int} (hs0 : 0 ≤ s) (hs : s < 23) (hp0 : 0 ≤ p) (hp : p < S 0 0) (ht0 : 0 ≤ t) (ht : t < 6) (hS : SI S) (hC : CI S C) (hD : D ≤ 20000) (hW : WI S D W) (h1 : SR μ = S) (h2 : CR μ b = C) (h3 : WR μ s = W) : ∃ μ', FrN μ μ' ∧ am_E (d + 4) 200 0 [some (.inr (.inr 99)), some (.inl s), some (.inl p), some (.inl t)] [] (SH, ρ, μ, cs) = some (some (.inl (chgF S C W p t)), (SH, ρ, μ', cs)) := by
  subst h1 h2 h3
  have b0 := hS.1
  have b1 := hC p hp0 hp
  have bw := hW.2.2.2.2.2 p t hp0 (by omega) ht0 ht
  have hb : bendR μ p = (CR μ b).1 p := rfl
  rw [chg_wth]
  generalize hF : factF (SR μ) (CR μ b) (WR μ s) p t 0 = F
  have hca := fun d => R_calls (ρ := ρ) (cs := cs) (d := d) (b := b) (ap := 0) hρ hs0 hs hp0 (by omega) ht0 ht hS hD hW
  rw [hF] at hca
  have hfb : ∀ i, 0 ≤ i → i < 7 → -1000000000000 ≤ F i ∧ F i ≤ 1000000000000 := by
    rw [← hF]
    exact fact_bd hS hC hD hW hp0 hp ht0 ht (by omega) (by omega)
  have n1 := nam_FrN μ F
  obtain ⟨μ', g1, g2⟩ := R_within (μ := nam μ F) (ρ := ρ) (cs := cs) (d := d) (f := F) (r := 0) (most := 99) (plain := Int.tmod (WR μ s 5 p t + (CR μ b).1 p) 100) hρ (by rw [frn_SR n1]; exact hS) (by omega) (by omega) (by omega) (by omega) hfb (fun i h0 h1 => nam_at μ F h0 h1)
  rw [frn_SR n1] at g2
  refine ⟨μ', frn_tr n1 g1, ?_⟩
  have e1 := frn_WR (s := s) n1
  have e2 : bendR (nam μ F) p = (CR μ b).1 p := by rw [← hb]; exact congrFun (congrArg (fun c : MC => c.1) (frn_CR n1 b)) p
  rw [← g2]
  simp (disch := (first | omega | (simp (disch := omega) only [sr_up, wr_up_o]; omega))) only [e200_0, e200_8, e200_22, e200_28, e200_35, ks_125, ks_99, rm_hatsOf hρ, Bool.false_eq_true, eq_self, isk_t, i20_t, w20_t, l23_t, b21_t, b22_t, w_t, bif_t, bif_f, bif_d, if_pos, if_neg, if_true, if_false, not_true_eq_false, not_false_eq_true, Option.bind_some, Option.toList_some, Option.toList_none, List.cons_append, List.nil_append, Int.toNat_natCast, Int.reduceToNat, up_eq, up_p, up_k, sN,  hca, R_slot, i20_s, wr_hats (nam μ F), e1, R_bentOf hρ, e2, ks_125, ne_eq, g2 ]
theorem R_hearsNow (hρ : RM ρ) {s p f t b D : Int} {S : MS} {C : MC} {W : MW} {μ : Nat → Nat → Int} (hs0 : 0 ≤ s) (hs : s < 23) (hp0 : 0 ≤ p) (hp : p < 7) (hf0 : 0 ≤ f) (hf : f < S 0 0) (ht0 : 0 ≤ t) (ht : t < 6) (hS : SI S) (hC : CI S C) (hD : D ≤ 20000) (hW : WI S D W) (h1 : SR μ = S) (h2 : CR μ b = C) (h3 : WR μ s = W) : ∃ μ', FrW s μ μ' ∧ WR μ' s = hearW S C W p f t ∧ am_E (d + 5) 201 0 [some (.inr (.inr 99)), some (.inl s), some (.inl p), some (.inl f), some (.inl t), none] [] (SH, ρ, μ, cs) = some (none, (SH, ρ, μ', cs)) := by
  obtain ⟨μ1, g1, g2⟩ := R_changed (ρ := ρ) (cs := cs) (d := d) (b := b) hρ hs0 hs hf0 hf ht0 ht hS hC hD hW h1 h2 h3
  refine ⟨am_up (am_up (am_up μ1 125 (sI s p t) (chgF S C W f t)) 126 (sI s p t) (W 0 0 0)) 127 (sI s p t) f, ?_, ?_, ?_⟩
  · refine frw_up (frw_up (frw_up (frw_n g1) ?_) ?_) ?_ <;> (left; right; right; unfold sI; omega)
  · rw [wr_up_from hs0 ht0 ht hp0 hp, wr_up_since hs0 ht0 ht hp0 hp, wr_up_hats hs0 ht0 ht hp0 hp, frn_WR g1, h3]
    all_goals rfl
  · have e1 : μ1 121 s.toNat = W 0 0 0 := by rw [wr_day μ1 s, frn_WR g1, h3]
    simp (disch := (first | omega | (simp (disch := omega) only [sr_up, wr_up_o]; omega))) only [e201_0, e201_8, e201_21, e201_35, e201_53, ks_121, ks_125, ks_126, ks_127, ks_99, rm_day hρ, rm_fromOf hρ, rm_hatsOf hρ, rm_sinceOf hρ, Bool.false_eq_true, eq_self, isk_t, i20_t, w20_t, l23_t, b21_t, b22_t, w_t, bif_t, bif_f, bif_d, if_pos, if_neg, if_true, if_false, not_true_eq_false, not_false_eq_true, Option.bind_some, Option.toList_some, Option.toList_none, List.cons_append, List.nil_append, Int.toNat_natCast, Int.reduceToNat, up_eq, up_p, up_k, sN,  g2, R_slot, w20_s, e1, ks_125, ks_126, ks_127 ]
theorem R_isShut (hρ : RM ρ) {p b : Int} {μ : Nat → Nat → Int} (h0 : 0 ≤ p) (h1 : p < 7) (hh0 : 0 ≤ μ 99 53) (hh : μ 99 53 < 128) : am_E d 204 0 [some (.inr (.inr 99)), some (.inl p)] [] (SH, ρ, μ, cs) = some (some (.inl (if (CR μ b).2.2.2.1 p = true then 1 else 0)), (SH, ρ, μ, cs)) := by
  have e : (CR μ b).2.2.2.1 p = ((μ 99 53).toNat.testBit p.toNat || decide (μ 99 49 = 2 ∧ p = μ 99 50)) := rfl
  have e2 : am_and (am_shr (μ 99 53) p) 1 = if (μ 99 53).toNat.testBit p.toNat then 1 else 0 := by
    have h := ib_bit (a := (μ 99 53).toNat) (k := p) (by omega) h0 (by omega)
    rw [Int.toNat_of_nonneg hh0] at h
    exact h
  rw [e]
  by_cases q : (μ 99 53).toNat.testBit p.toNat = true
  · rw [if_pos q] at e2
    simp (disch := (first | omega | (simp (disch := omega) only [sr_up, wr_up_o]; omega))) only [e204_0, ks_99, Bool.false_eq_true, eq_self, isk_t, i20_t, w20_t, l23_t, b21_t, b22_t, w_t, bif_t, bif_f, bif_d, if_pos, if_neg, if_true, if_false, not_true_eq_false, not_false_eq_true, Option.bind_some, Option.toList_some, Option.toList_none, List.cons_append, List.nil_append, Int.toNat_natCast, Int.reduceToNat, up_eq, up_p, up_k, sN,  e2, q, Bool.true_or ]
  · rw [if_neg q] at e2
    have q' : (μ 99 53).toNat.testBit p.toNat = false := by simpa using q
    by_cases q1 : μ 99 49 = 2
    · by_cases q2 : p = μ 99 50
      · simp (disch := (first | omega | (simp (disch := omega) only [sr_up, wr_up_o]; omega))) only [e204_0, ks_99, Bool.false_eq_true, eq_self, isk_t, i20_t, w20_t, l23_t, b21_t, b22_t, w_t, bif_t, bif_f, bif_d, if_pos, if_neg, if_true, if_false, not_true_eq_false, not_false_eq_true, Option.bind_some, Option.toList_some, Option.toList_none, List.cons_append, List.nil_append, Int.toNat_natCast, Int.reduceToNat, up_eq, up_p, up_k, sN,  e2, q', q1, Bool.false_or ]
        simp [q2]
      · simp (disch := (first | omega | (simp (disch := omega) only [sr_up, wr_up_o]; omega))) only [e204_0, ks_99, Bool.false_eq_true, eq_self, isk_t, i20_t, w20_t, l23_t, b21_t, b22_t, w_t, bif_t, bif_f, bif_d, if_pos, if_neg, if_true, if_false, not_true_eq_false, not_false_eq_true, Option.bind_some, Option.toList_some, Option.toList_none, List.cons_append, List.nil_append, Int.toNat_natCast, Int.reduceToNat, up_eq, up_p, up_k, sN,  e2, q', q1, Bool.false_or ]
        simp [q2]
    · simp (disch := (first | omega | (simp (disch := omega) only [sr_up, wr_up_o]; omega))) only [e204_0, ks_99, Bool.false_eq_true, eq_self, isk_t, i20_t, w20_t, l23_t, b21_t, b22_t, w_t, bif_t, bif_f, bif_d, if_pos, if_neg, if_true, if_false, not_true_eq_false, not_false_eq_true, Option.bind_some, Option.toList_some, Option.toList_none, List.cons_append, List.nil_append, Int.toNat_natCast, Int.reduceToNat, up_eq, up_p, up_k, sN,  e2, q', Bool.false_or ]
      simp [q1]
theorem and_max {z : Int} : am_and (am_w z) 2147483647 = z % 2147483648 := by
  have e : am_w z = ((am_w z).emod 4294967296 : Int) ∨ True := Or.inr trivial
  clear e
  have h1 : Int32.ofInt (am_w z) = Int32.ofInt z := am_wI z
  unfold am_and
  rw [h1]
  refine (nb_toInt (n := (z % 2147483648).toNat) ?_ (by omega)).trans (by omega)
  rw [Int32.toBitVec_and, BitVec.toNat_and]
  have e2 : (Int32.ofInt 2147483647).toBitVec.toNat = 2 ^ 31 - 1 := rfl
  rw [e2, Nat.and_two_pow_sub_one_eq_mod]
  have e3 : (Int32.ofInt z).toBitVec.toNat = (z % 4294967296).toNat := by
    show (BitVec.ofInt 32 z).toNat = _
    rw [BitVec.toNat_ofInt]
    all_goals rfl
  rw [e3]
  omega
theorem am_w_add (x y : Int) : am_w (am_w x + y) = am_w (x + y) := by
  unfold am_w
  exact Int.bmod_add_bmod
theorem R_next {z : Int} : am_and (am_w (am_w (z * 1103515245) + 12345)) 2147483647 = nextN z := by
  rw [am_w_add, and_max]
  all_goals rfl
theorem R_shr16 {z : Int} (h0 : 0 ≤ z) (h1 : z < 2147483648) : am_shr z 16 = z / 65536 := by
  have h := nb_shr (a := z.toNat) (k := 16) (by omega) (by decide)
  rw [Int.toNat_of_nonneg h0] at h
  have e : am_shr z 16 = am_shr z ((16 : Nat) : Int) := rfl
  rw [e, h, Nat.shiftRight_eq_div_pow]
  omega
/-- who talks: a number is drawn -/
def talkB (S : MS) (C : MC) (W : MW) : Bool := if C.2.2.1 = 1 then true else if C.2.2.1 = 2 then false else decide (Int.tmod (nextN (W 1 0 0) / 65536) 100 < S 0 7)
def talkW (C : MC) (W : MW) : MW := if C.2.2.1 = 1 then W else if C.2.2.1 = 2 then W else wp W 1 0 0 (nextN (W 1 0 0))
theorem wayT_talk {S : MS} {C : MC} {w t : Int} {W : MW} (hb : wayB S C w W t = true) : wayT S C w W t = if talkB S C W = true then hearW S C (talkW C W) (S 9 w) (S 8 w) t else talkW C W := by
  unfold wayT talkB talkW
  rw [if_neg (by simp [hb])]
  by_cases q1 : C.2.2.1 = 1
  · rw [if_pos q1, if_pos q1, if_pos q1, if_pos rfl]
  · rw [if_neg q1, if_neg q1, if_neg q1]
    by_cases q2 : C.2.2.1 = 2
    · rw [if_pos q2, if_pos q2, if_pos q2, if_neg (by decide)]
    · rw [if_neg q2, if_neg q2, if_neg q2]
      by_cases q3 : Int.tmod (nextN (W 1 0 0) / 65536) 100 < S 0 7
      · rw [if_pos q3, if_pos (by simp [q3])]
      · rw [if_neg q3, if_neg (by simp [q3])]
theorem R_doesTalk (hρ : RM ρ) {s b : Int} {μ : Nat → Nat → Int} (hs0 : 0 ≤ s) (hs : s < 23) (hS : SI (SR μ)) : ∃ μ', FrW s μ μ' ∧ WR μ' s = talkW (CR μ b) (WR μ s) ∧ am_E d 203 0 [some (.inr (.inr 99)), some (.inl s), some (.inl b), none] [] (SH, ρ, μ, cs) = some (some (.inl (if talkB (SR μ) (CR μ b) (WR μ s) = true then 1 else 0)), (SH, ρ, μ', cs)) := by
  have hN : μ 101 7 = SR μ 0 7 := rfl
  have b7 := hS.2.2.2.2.2.2.2.1
  have hc : (CR μ b).2.2.1 = if μ 99 49 = 5 then 1 else if μ 99 49 = 1 then 2 else if b = 0 ∨ SR μ 0 7 = 0 ∨ SR μ 0 7 = 100 then (if 50 ≤ SR μ 0 7 then 1 else 2) else 0 := rfl
  generalize hCe : CR μ b = C at hc
  have t1 : C.2.2.1 = 1 → talkB (SR μ) C (WR μ s) = true ∧ talkW C (WR μ s) = WR μ s := fun h => by
    unfold talkB talkW
    rw [if_pos h, if_pos h]
    exact ⟨rfl, rfl⟩
  have t2 : C.2.2.1 = 2 → talkB (SR μ) C (WR μ s) = false ∧ talkW C (WR μ s) = WR μ s := fun h => by
    unfold talkB talkW
    rw [if_neg (by omega), if_pos h, if_neg (by omega), if_pos h]
    exact ⟨rfl, rfl⟩
  have t0 : C.2.2.1 = 0 → talkB (SR μ) C (WR μ s) = decide (Int.tmod (nextN (WR μ s 1 0 0) / 65536) 100 < SR μ 0 7) ∧ talkW C (WR μ s) = wp (WR μ s) 1 0 0 (nextN (WR μ s 1 0 0)) := fun h => by
    unfold talkB talkW
    rw [if_neg (by omega), if_neg (by omega), if_neg (by omega), if_neg (by omega)]
    exact ⟨rfl, rfl⟩
  by_cases q1 : μ 99 49 = 5
  · rw [if_pos q1] at hc
    refine ⟨μ, frw_rf s μ, (t1 hc).2.symm, ?_⟩
    rw [(t1 hc).1]
    simp (disch := (first | omega | (simp (disch := omega) only [sr_up, wr_up_o]; omega))) only [e203_0, ks_101, ks_122, ks_99, rm_drawn hρ, rm_number hρ, Bool.false_eq_true, eq_self, isk_t, i20_t, w20_t, l23_t, b21_t, b22_t, w_t, bif_t, bif_f, bif_d, if_pos, if_neg, if_true, if_false, not_true_eq_false, not_false_eq_true, Option.bind_some, Option.toList_some, Option.toList_none, List.cons_append, List.nil_append, Int.toNat_natCast, Int.reduceToNat, up_eq, up_p, up_k, sN,  q1, hN ]
  · rw [if_neg q1] at hc
    by_cases q2 : μ 99 49 = 1
    · rw [if_pos q2] at hc
      refine ⟨μ, frw_rf s μ, (t2 hc).2.symm, ?_⟩
      rw [(t2 hc).1]
      simp (disch := (first | omega | (simp (disch := omega) only [sr_up, wr_up_o]; omega))) only [e203_0, ks_101, ks_122, ks_99, rm_drawn hρ, rm_number hρ, Bool.false_eq_true, eq_self, isk_t, i20_t, w20_t, l23_t, b21_t, b22_t, w_t, bif_t, bif_f, bif_d, if_pos, if_neg, if_true, if_false, not_true_eq_false, not_false_eq_true, Option.bind_some, Option.toList_some, Option.toList_none, List.cons_append, List.nil_append, Int.toNat_natCast, Int.reduceToNat, up_eq, up_p, up_k, sN,  q2, hN ]
    · rw [if_neg q2] at hc
      by_cases q3 : b = 0 ∨ SR μ 0 7 = 0 ∨ SR μ 0 7 = 100
      · rw [if_pos q3] at hc
        have hgo : am_E d 203 0 [some (.inr (.inr 99)), some (.inl s), some (.inl b), none] [] (SH, ρ, μ, cs) = if SR μ 0 7 < 50 then some (some (.inl 0), (SH, ρ, μ, cs)) else some (some (.inl 1), (SH, ρ, μ, cs)) := by
          by_cases q5 : b = 0
          · simp (disch := (first | omega | (simp (disch := omega) only [sr_up, wr_up_o]; omega))) only [e203_0, ks_101, ks_122, ks_99, rm_drawn hρ, rm_number hρ, Bool.false_eq_true, eq_self, isk_t, i20_t, w20_t, l23_t, b21_t, b22_t, w_t, bif_t, bif_f, bif_d, if_pos, if_neg, if_true, if_false, not_true_eq_false, not_false_eq_true, Option.bind_some, Option.toList_some, Option.toList_none, List.cons_append, List.nil_append, Int.toNat_natCast, Int.reduceToNat, up_eq, up_p, up_k, sN,  hN ]
          · by_cases q6 : SR μ 0 7 = 0
            · simp (disch := (first | omega | (simp (disch := omega) only [sr_up, wr_up_o]; omega))) only [e203_0, ks_101, ks_122, ks_99, rm_drawn hρ, rm_number hρ, Bool.false_eq_true, eq_self, isk_t, i20_t, w20_t, l23_t, b21_t, b22_t, w_t, bif_t, bif_f, bif_d, if_pos, if_neg, if_true, if_false, not_true_eq_false, not_false_eq_true, Option.bind_some, Option.toList_some, Option.toList_none, List.cons_append, List.nil_append, Int.toNat_natCast, Int.reduceToNat, up_eq, up_p, up_k, sN,  hN ]
            · simp (disch := (first | omega | (simp (disch := omega) only [sr_up, wr_up_o]; omega))) only [e203_0, ks_101, ks_122, ks_99, rm_drawn hρ, rm_number hρ, Bool.false_eq_true, eq_self, isk_t, i20_t, w20_t, l23_t, b21_t, b22_t, w_t, bif_t, bif_f, bif_d, if_pos, if_neg, if_true, if_false, not_true_eq_false, not_false_eq_true, Option.bind_some, Option.toList_some, Option.toList_none, List.cons_append, List.nil_append, Int.toNat_natCast, Int.reduceToNat, up_eq, up_p, up_k, sN,  hN ]
        rw [hgo]
        by_cases q4 : 50 ≤ SR μ 0 7
        · rw [if_pos q4] at hc
          refine ⟨μ, frw_rf s μ, (t1 hc).2.symm, ?_⟩
          rw [(t1 hc).1, if_neg (by omega)]
          all_goals rfl
        · rw [if_neg q4] at hc
          refine ⟨μ, frw_rf s μ, (t2 hc).2.symm, ?_⟩
          rw [(t2 hc).1, if_pos (by omega)]
          all_goals rfl
      · rw [if_neg q3] at hc
        have hn := next_bd (WR μ s 1 0 0)
        have e1 : μ 122 s.toNat = WR μ s 1 0 0 := rfl
        refine ⟨am_up μ 122 s.toNat (nextN (WR μ s 1 0 0)), frw_up (frw_rf s μ) (by left; left; omega), ?_, ?_⟩
        · rw [(t0 hc).2, wr_up_num]
        · rw [(t0 hc).1]
          have hs16 := R_shr16 hn.1 hn.2
          by_cases q4 : Int.tmod (nextN (WR μ s 1 0 0) / 65536) 100 < SR μ 0 7
          · rw [if_pos (by simp [q4])]
            simp (disch := (first | omega | (simp (disch := omega) only [sr_up, wr_up_o]; omega))) only [e203_0, ks_101, ks_122, ks_99, rm_drawn hρ, rm_number hρ, Bool.false_eq_true, eq_self, isk_t, i20_t, w20_t, l23_t, b21_t, b22_t, w_t, bif_t, bif_f, bif_d, if_pos, if_neg, if_true, if_false, not_true_eq_false, not_false_eq_true, Option.bind_some, Option.toList_some, Option.toList_none, List.cons_append, List.nil_append, Int.toNat_natCast, Int.reduceToNat, up_eq, up_p, up_k, sN,  hN, e1, R_next, hs16, ne_eq, ks_122 ]
          · rw [if_neg (by simp [q4])]
            simp (disch := (first | omega | (simp (disch := omega) only [sr_up, wr_up_o]; omega))) only [e203_0, ks_101, ks_122, ks_99, rm_drawn hρ, rm_number hρ, Bool.false_eq_true, eq_self, isk_t, i20_t, w20_t, l23_t, b21_t, b22_t, w_t, bif_t, bif_f, bif_d, if_pos, if_neg, if_true, if_false, not_true_eq_false, not_false_eq_true, Option.bind_some, Option.toList_some, Option.toList_none, List.cons_append, List.nil_append, Int.toNat_natCast, Int.reduceToNat, up_eq, up_p, up_k, sN,  hN, e1, R_next, hs16, ne_eq, ks_122 ]
end REF
