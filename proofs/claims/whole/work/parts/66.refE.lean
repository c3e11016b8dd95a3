/-! THE REFERENCE: what fits, what is heard, what is told -/
theorem lm_t {most v : Int} (h : 0 ≤ most) : am_lmax 0 (am_lmin most v) = max 0 (min most v) := by
  unfold am_lmax am_lmin
  split <;> split <;> omega
theorem iabs_t {x : Int} (h0 : -2147483648 < x) (h1 : x < 2147483648) : am_iabs x = (x.natAbs : Int) := by
  unfold am_iabs
  by_cases q : 0 ≤ x
  · rw [if_pos q]; omega
  · rw [if_neg q, w_t (by omega) (by omega)]; omega
theorem imin_t {x y : Int} : am_imin x y = min x y := by unfold am_imin; split <;> omega
theorem imax_t {x y : Int} : am_imax x y = max x y := by unfold am_imax; split <;> omega
theorem chW_lt {W : MW} {t : Int} (hW : ∀ p, 0 ≤ p → p < 7 → (W 7 p t = -2 ∨ 0 ≤ W 7 p t ∧ W 7 p t < 7)) : ∀ (n set : Nat) (p : Int), 0 ≤ p → p < 7 → set < 2 ^ 7 → chW W t n set p < 2 ^ 7
  | 0, _, _, _, _, h => h
  | n + 1, set, p, h0, h1, h => by
    unfold chW
    split
    · exact h
    · split
      · exact or1_lt (n := 7) h h0 (by omega)
      · rename_i q
        have := hW p h0 h1
        exact chW_lt hW n _ _ (by omega) (by omega) (or1_lt (n := 7) h h0 (by omega))
/-- the course's bounds -/
def CI (S : MS) (C : MC) : Prop := ∀ p, 0 ≤ p → p < S 0 0 → 0 ≤ C.1 p ∧ C.1 p ≤ 9
theorem wi_from {S : MS} {D : Int} {W : MW} (hW : WI S D W) {t : Int} (ht0 : 0 ≤ t) (ht : t < 6) : ∀ p, 0 ≤ p → p < 7 → (W 7 p t = -2 ∨ 0 ≤ W 7 p t ∧ W 7 p t < 7) := fun p h0 h1 => (hW.2.2.2.2.2 p t h0 h1 ht0 ht).2.2.1
theorem chain_lt {S : MS} {D : Int} {W : MW} (hW : WI S D W) {p t : Int} (hp0 : 0 ≤ p) (hp : p < 7) (ht0 : 0 ≤ t) (ht : t < 6) : chain W p t < 2 ^ 7 := chW_lt (wi_from hW ht0 ht) 8 0 p hp0 hp (by decide)
theorem fact_bd {S : MS} {C : MC} {D : Int} {W : MW} (hS : SI S) (hC : CI S C) (hD : D ≤ 20000) (hW : WI S D W) {p t ap : Int} (hp0 : 0 ≤ p) (hp : p < S 0 0) (ht0 : 0 ≤ t) (ht : t < 6) (ha0 : 0 ≤ ap) (ha : ap ≤ 200) : ∀ i, 0 ≤ i → i < 7 → -1000000000000 ≤ factF S C W p t ap i ∧ factF S C W p t ap i ≤ 1000000000000 := by
  intro i h0 h1
  have b0 := hS.1
  have b1 := hC p hp0 hp
  have b2 := hW.1
  have b3 := hW.2.2.2.2.2 p t hp0 (by omega) ht0 ht
  have b4 := cnt_le (fun p => decide (W 5 p t ≠ -1)) (men S)
  have b5 := cnt_le (fun p => decide (W 8 p t ≠ -2)) (men S)
  have hm : men S ≤ 7 := by unfold men; omega
  unfold factF manyF toldF
  split
  · omega
  · split
    · omega
    · split
      · omega
      · split
        · omega
        · split
          · omega
          · split <;> omega
section REF
variable {ρ : Nat → Nat → Nat} {cs : Nat × Nat × Nat} {d : Nat} {μ : Nat → Nat → Int}
def wthn (v : Option Int) (most plain : Int) : Int := match v with
  | none => plain
  | some v => max 0 (min most v)
theorem R_within (hρ : RM ρ) {f : Int → Int} {r most plain : Int} (hS : SI (SR μ)) (hr0 : 0 ≤ r) (hr : r < 3) (hm0 : 0 ≤ most) (hm : most ≤ 10000) (hf : ∀ i, 0 ≤ i → i < 7 → -1000000000000 ≤ f i ∧ f i ≤ 1000000000000) (hn : ∀ i : Int, 0 ≤ i → i < 7 → μ 119 i.toNat = f i) :
    ∃ μ', FrN μ μ' ∧ am_E (d + 3) 197 0 [some (.inr (.inr 99)), some (.inl r), some (.inl most), some (.inl plain)] [] (SH, ρ, μ, cs) = some (some (.inl (wthn (lawV (SR μ) f r) most plain)), (SH, ρ, μ', cs)) := by
  by_cases q : SR μ 14 r < SR μ 15 r
  · obtain ⟨μ', h1, h2, h3⟩ := R_goes (d := d) (cs := cs) hρ hS hr0 hr q hf hn
    refine ⟨μ', frk_n h1, ?_⟩
    cases hl : lawV (SR μ) f r with
    | none =>
      rw [hl] at h2
      simp (disch := (first | omega | (simp (disch := omega) only [sr_up, wr_up_o]; omega))) only [e197_0, e197_5, e197_13, ks_120, ks_99, rm_worked hρ, Bool.false_eq_true, eq_self, isk_t, i20_t, w20_t, l23_t, b21_t, b22_t, w_t, bif_t, bif_f, bif_d, if_pos, if_neg, if_true, if_false, not_true_eq_false, not_false_eq_true, Option.bind_some, Option.toList_some, Option.toList_none, List.cons_append, List.nil_append, Int.toNat_natCast, Int.reduceToNat, up_eq, up_p, up_k, sN,  R_hasLaw hρ, h2, Option.isSome_none ]
      all_goals rfl
    | some v =>
      rw [hl] at h2
      have h4 := h3 v hl
      simp (disch := (first | omega | (simp (disch := omega) only [sr_up, wr_up_o]; omega))) only [e197_0, e197_5, e197_13, ks_120, ks_99, rm_worked hρ, Bool.false_eq_true, eq_self, isk_t, i20_t, w20_t, l23_t, b21_t, b22_t, w_t, bif_t, bif_f, bif_d, if_pos, if_neg, if_true, if_false, not_true_eq_false, not_false_eq_true, Option.bind_some, Option.toList_some, Option.toList_none, List.cons_append, List.nil_append, Int.toNat_natCast, Int.reduceToNat, up_eq, up_p, up_k, sN,  R_hasLaw hρ, h2, Option.isSome_some, ks_120, h4, lm_t ]
      all_goals rfl
  · refine ⟨μ, frn_rf μ, ?_⟩
    have hl : lawV (SR μ) f r = none := if_neg q
    rw [hl]
    simp (disch := (first | omega | (simp (disch := omega) only [sr_up, wr_up_o]; omega))) only [e197_0, e197_5, ks_99, Bool.false_eq_true, eq_self, isk_t, i20_t, w20_t, l23_t, b21_t, b22_t, w_t, bif_t, bif_f, bif_d, if_pos, if_neg, if_true, if_false, not_true_eq_false, not_false_eq_true, Option.bind_some, Option.toList_some, Option.toList_none, List.cons_append, List.nil_append, Int.toNat_natCast, Int.reduceToNat, up_eq, up_p, up_k, sN,  R_hasLaw hρ ]
    all_goals rfl
theorem R_doesFit (hρ : RM ρ) {s p t hats b D : Int} {ch : Nat} (hs0 : 0 ≤ s) (hs : s < 23) (hp0 : 0 ≤ p) (hp : p < SR μ 0 0) (ht0 : 0 ≤ t) (ht : t < 6) (hS : SI (SR μ)) (hC : CI (SR μ) (CR μ b)) (hD : D ≤ 20000) (hW : WI (SR μ) D (WR μ s)) (hh0 : -2 ≤ hats) (hh : hats ≤ 99) (hc : ch < 128) :
    ∃ μ', FrN μ μ' ∧ am_E (d + 4) 198 0 [some (.inr (.inr 99)), some (.inl s), some (.inl p), some (.inl t), some (.inl hats), some (.inl (ch : Int)), none] [] (SH, ρ, μ, cs) = some (some (.inl (if fitB (SR μ) (CR μ b) (WR μ s) p t hats ch = true then 1 else 0)), (SH, ρ, μ', cs)) := by
  have b0 := hS.1
  have hp7 : p < 7 := by omega
  have hcl := chain_lt hW hp0 hp7 ht0 ht
  have hch := fun d => R_chain (ρ := ρ) (cs := cs) (d := d) hρ hs0 hs hp0 hp7 ht0 ht (wi_from hW ht0 ht)
  have b3 := hW.2.2.2.2.2 p t hp0 (by omega) ht0 ht
  have hand := nb_and (a := chain (WR μ s) p t) (b := ch) (by omega) (by omega)
  by_cases q1 : chain (WR μ s) p t &&& ch = 0
  · rw [q1] at hand
    by_cases q2 : μ 99 49 = 4
    · refine ⟨μ, frn_rf μ, ?_⟩
      have hB : fitB (SR μ) (CR μ b) (WR μ s) p t hats ch = true := by
        unfold fitB
        rw [if_neg (fun g => g q1), if_pos (by show decide (μ 99 49 ≠ 4) = false; simp [q2])]
      rw [hB, if_pos rfl]
      simp (disch := (first | omega | (simp (disch := omega) only [sr_up, wr_up_o]; omega))) only [e198_0, e198_7, ks_125, ks_99, rm_hatsOf hρ, Bool.false_eq_true, eq_self, isk_t, i20_t, w20_t, l23_t, b21_t, b22_t, w_t, bif_t, bif_f, bif_d, if_pos, if_neg, if_true, if_false, not_true_eq_false, not_false_eq_true, Option.bind_some, Option.toList_some, Option.toList_none, List.cons_append, List.nil_append, Int.toNat_natCast, Int.reduceToNat, up_eq, up_p, up_k, sN,  hch, hand ]
      all_goals rfl
    · have hap : (((WR μ s 5 p t - hats).natAbs : Nat) : Int) ≤ 200 := by omega
      have hB : fitB (SR μ) (CR μ b) (WR μ s) p t hats ch = match lawV (SR μ) (factF (SR μ) (CR μ b) (WR μ s) p t (Int.natAbs (WR μ s 5 p t - hats))) 1 with
          | none => decide (SR μ 0 5 ≤ (Int.natAbs (WR μ s 5 p t - hats) : Int) ∧ (Int.natAbs (WR μ s 5 p t - hats) : Int) ≤ SR μ 0 6)
          | some v => decide (v ≠ 0) := by
        unfold fitB
        rw [if_neg (fun g => g q1), if_neg (by show ¬ decide (μ 99 49 ≠ 4) = false; simp [q2])]
        all_goals rfl
      rw [hB]
      clear hB
      generalize hF : factF (SR μ) (CR μ b) (WR μ s) p t ((WR μ s 5 p t - hats).natAbs : Int) = F
      have hca := fun d => R_calls (ρ := ρ) (cs := cs) (d := d) (b := b) (ap := ((WR μ s 5 p t - hats).natAbs : Int)) hρ hs0 hs hp0 hp7 ht0 ht hS hD hW
      rw [hF] at hca
      have hSn : SR (nam μ F) = SR μ := frn_SR (nam_FrN μ F)
      have hn0 : nam μ F 101 5 = SR μ 0 5 := nam_fr μ F 101 5 (by decide)
      have hn1 : nam μ F 101 6 = SR μ 0 6 := nam_fr μ F 101 6 (by decide)
      have hfb : ∀ i, 0 ≤ i → i < 7 → -1000000000000 ≤ F i ∧ F i ≤ 1000000000000 := by
        rw [← hF]
        exact fact_bd hS hC hD hW hp0 hp ht0 ht (by omega) hap
      generalize hA : ((WR μ s 5 p t - hats).natAbs : Int) = A
      rw [hA] at hca hap
      have hA2 : am_iabs (WR μ s 5 p t - hats) = A := by rw [iabs_t (by omega) (by omega), hA]
      by_cases q3 : SR μ 14 1 < SR μ 15 1
      · obtain ⟨μ', h1, h2, h3⟩ := R_goes (μ := nam μ F) (f := F) (r := 1) (d := d + 1) (cs := cs) hρ (by rw [hSn]; exact hS) (by omega) (by omega) (by rw [hSn]; exact q3) hfb (fun i h0 h1 => nam_at μ F h0 h1)
        rw [hSn] at h2 h3
        refine ⟨μ', frn_tr (nam_FrN μ F) (frk_n h1), ?_⟩
        have hm5 : μ' 101 5 = SR μ 0 5 := by rw [h1 101 5 (by decide) (by decide)]; exact hn0
        have hm6 : μ' 101 6 = SR μ 0 6 := by rw [h1 101 6 (by decide) (by decide)]; exact hn1
        cases hl : lawV (SR μ) F 1 with
        | none =>
          rw [hl] at h2
          simp (disch := (first | omega | (simp (disch := omega) only [sr_up, wr_up_o]; omega))) only [e198_0, e198_7, e198_35, e198_53, e198_58, e198_66, ks_101, ks_120, ks_125, ks_99, rm_hatsOf hρ, rm_number hρ, rm_worked hρ, Bool.false_eq_true, eq_self, isk_t, i20_t, w20_t, l23_t, b21_t, b22_t, w_t, bif_t, bif_f, bif_d, if_pos, if_neg, if_true, if_false, not_true_eq_false, not_false_eq_true, Option.bind_some, Option.toList_some, Option.toList_none, List.cons_append, List.nil_append, Int.toNat_natCast, Int.reduceToNat, up_eq, up_p, up_k, sN,  hch, hand, R_slot, i20_s, wr_hats μ, hA2, hca, R_hasLaw hρ, hSn, h2, Option.isSome_none, ks_125, ks_101, hm5, hm6 ]
          by_cases q4 : A < SR μ 0 5
          · rw [if_pos q4, if_neg (by simp; omega)]
          · rw [if_neg q4]
            by_cases q5 : SR μ 0 6 < A
            · rw [if_pos q5, if_neg (by simp; omega)]
            · rw [if_neg q5, if_pos (by simp; omega)]
        | some v =>
          rw [hl] at h2
          have h4 := h3 v hl
          simp (disch := (first | omega | (simp (disch := omega) only [sr_up, wr_up_o]; omega))) only [e198_0, e198_7, e198_35, e198_53, e198_58, e198_66, ks_101, ks_120, ks_125, ks_99, rm_hatsOf hρ, rm_number hρ, rm_worked hρ, Bool.false_eq_true, eq_self, isk_t, i20_t, w20_t, l23_t, b21_t, b22_t, w_t, bif_t, bif_f, bif_d, if_pos, if_neg, if_true, if_false, not_true_eq_false, not_false_eq_true, Option.bind_some, Option.toList_some, Option.toList_none, List.cons_append, List.nil_append, Int.toNat_natCast, Int.reduceToNat, up_eq, up_p, up_k, sN,  hch, hand, R_slot, i20_s, wr_hats μ, hA2, hca, R_hasLaw hρ, hSn, h2, Option.isSome_some, ks_125, ks_120, h4, lc_eq ]
          by_cases q4 : v = 0
          · rw [if_pos q4, if_neg (by simp [q4])]
          · rw [if_neg q4, if_pos (by simp [q4])]
      · have hl : lawV (SR μ) F 1 = none := if_neg q3
        rw [hl]
        refine ⟨nam μ F, nam_FrN μ F, ?_⟩
        simp (disch := (first | omega | (simp (disch := omega) only [sr_up, wr_up_o]; omega))) only [e198_0, e198_7, e198_35, e198_53, e198_58, ks_101, ks_125, ks_99, rm_hatsOf hρ, rm_number hρ, Bool.false_eq_true, eq_self, isk_t, i20_t, w20_t, l23_t, b21_t, b22_t, w_t, bif_t, bif_f, bif_d, if_pos, if_neg, if_true, if_false, not_true_eq_false, not_false_eq_true, Option.bind_some, Option.toList_some, Option.toList_none, List.cons_append, List.nil_append, Int.toNat_natCast, Int.reduceToNat, up_eq, up_p, up_k, sN,  hch, hand, R_slot, i20_s, wr_hats μ, hA2, hca, R_hasLaw hρ, hSn, ks_125, ks_101, hn0, hn1 ]
        by_cases q4 : A < SR μ 0 5
        · rw [if_pos q4, if_neg (by simp; omega)]
        · rw [if_neg q4]
          by_cases q5 : SR μ 0 6 < A
          · rw [if_pos q5, if_neg (by simp; omega)]
          · rw [if_neg q5, if_pos (by simp; omega)]
  · refine ⟨μ, frn_rf μ, ?_⟩
    have hB : fitB (SR μ) (CR μ b) (WR μ s) p t hats ch = false := by
      unfold fitB
      rw [if_pos q1]
    rw [hB, if_neg (by decide)]
    simp (disch := (first | omega | (simp (disch := omega) only [sr_up, wr_up_o]; omega))) only [e198_0, e198_7, ks_125, ks_99, rm_hatsOf hρ, Bool.false_eq_true, eq_self, isk_t, i20_t, w20_t, l23_t, b21_t, b22_t, w_t, bif_t, bif_f, bif_d, if_pos, if_neg, if_true, if_false, not_true_eq_false, not_false_eq_true, Option.bind_some, Option.toList_some, Option.toList_none, List.cons_append, List.nil_append, Int.toNat_natCast, Int.reduceToNat, up_eq, up_p, up_k, sN,  hch, hand ]
end REF
