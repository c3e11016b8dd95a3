/-! TEXT: the reference's lines, whole -/
def LZ (Z Z' : MS) : Prop := (∀ k, Z' 14 k = Z 14 k) ∧ (∀ k, Z' 15 k = Z 15 k) ∧ Z' 0 9 = Z 0 9
theorem lz_rf (Z : MS) : LZ Z Z := ⟨fun _ => rfl, fun _ => rfl, rfl⟩
theorem lz_zp {Z Z' : MS} {x : Nat} {k v : Int} (h : LZ Z Z') (hx : x ≠ 14 ∧ x ≠ 15 ∧ (x ≠ 0 ∨ k.toNat ≠ 9)) : LZ Z (zp Z' x k v) := ⟨fun q => by rw [zp_ne (by omega)]; exact h.1 q, fun q => by rw [zp_ne (by omega)]; exact h.2.1 q, by rw [zp_ne (by omega)]; exact h.2.2⟩
def RLy (ρ : Nat → Nat → Nat) (cs : Nat × Nat × Nat) (b : Nat → Int) (n : Nat) (μ : Nat → Nat → Int) (run : Option am_Res) (x : PE ((MS × Nat) × Nat)) : Prop := ∃ μ', FZ μ μ' ∧ match x with
  | .inl q => RF μ' q ∧ run = some (none, (SH, ρ, μ', cs))
  | .inr z => RH μ' b n z.1.2 ∧ SR2 μ' = z.1.1 ∧ μ' 99 22 = μ 99 22 + 1 ∧ TD μ' z.2 z.1.1 ∧ μ' 99 32 = 0 ∧ μ' 99 33 = z.1.1 0 9 ∧ run = some (none, (SH, ρ, μ', cs))
section RLL
variable {ρ : Nat → Nat → Nat} {μ μ2 : Nat → Nat → Int} {cs : Nat × Nat × Nat} {d n a ts i : Nat} {b : Nat → Int} {Z : MS} {run : Option am_Res}
theorem rlo_z {x : PE (MS × Nat)} (h : RLo ρ cs b n μ2 run x) (hfr : FZ μ μ2) (hT : TD μ2 ts Z) (h22 : μ2 99 22 = μ 99 22) (h32 : μ2 99 32 = 0) (h33 : μ2 99 33 = Z 0 9) (hx : ∀ z, x = .inr z → LZ Z z.1) : RLy ρ cs b n μ run (bnd x fun z => .inr (z, ts)) := by
  obtain ⟨μ', f1, f2⟩ := h
  refine ⟨μ', fz_tr hfr f1, ?_⟩
  cases x with
  | inl q => exact f2
  | inr z =>
    obtain ⟨g1, g2, g3, g4, g5, g6, g7⟩ := f2
    obtain ⟨l1, l2, l3⟩ := hx z rfl
    obtain ⟨T, t1, t2, t3, t4⟩ := hT
    refine ⟨g1, g2, by rw [g3, h22], ⟨T, by rw [g4]; exact t1, t2, t3, fun k hk => ?_⟩, by rw [g5]; exact h32, ?_, g7⟩
    · show _ ↔ z.1 14 k < z.1 15 k
      rw [l1, l2]; exact t4 k hk
    · show _ = z.1 0 9
      rw [g6, h33, l3]
theorem rlz_z {x : PE (MS × Nat)} (h : RLz ρ cs b n ts μ2 run x) (hfr : FZ μ μ2) (h22 : μ2 99 22 = μ 99 22) : RLy ρ cs b n μ run (bnd x fun z => .inr (z, ts)) := by
  obtain ⟨μ', f1, f2⟩ := h
  refine ⟨μ', fz_tr hfr f1, ?_⟩
  cases x with
  | inl q => exact f2
  | inr z =>
    obtain ⟨g1, g2, g3, g4, g5, g6, g7⟩ := f2
    exact ⟨g1, g2, by rw [g3, h22], g4, g5, g6, g7⟩
theorem R_full0 (hρ : RM ρ) : am_E (d + 1) 162 0 [some (.inr (.inr 99)), some (.inl 0)] [] (SH, ρ, μ, cs) = some (some (.inl (if μ 101 10 = 7 then 1 else 0)), (SH, ρ, μ, cs)) := by
  have hf := fun d => R_fresher (ρ := ρ) (cs := cs) (d := d) (μ := μ) (k := 0) hρ (by omega)
  have hf : ∀ d, am_E d 156 0 [some (.inr (.inr 99)), some (.inl 0)] [] (SH, ρ, μ, cs) = some (some (.inl (μ 101 10)), (SH, ρ, μ, cs)) := hf
  by_cases c : μ 101 10 = 7
  · rw [if_pos c]
    simp (disch := (first | omega | (simp (disch := omega) only [sr_up, wr_up_o]; omega))) only [e162_0, e162_1_c0, e162_41, ks_99, ite_self, Bool.false_eq_true, eq_self, isk_t, i20_t, w20_t, l23_t, b21_t, b22_t, w_t, bif_t, bif_f, bif_d, if_pos, if_neg, if_true, if_false, not_true_eq_false, not_false_eq_true, Option.bind_some, Option.toList_some, Option.toList_none, List.cons_append, List.nil_append, Int.toNat_natCast, Int.reduceToNat, up_eq, up_p, up_k, sN,  hf, c ]
  · rw [if_neg c]
    simp (disch := (first | omega | (simp (disch := omega) only [sr_up, wr_up_o]; omega))) only [e162_0, e162_1_c0, e162_41, ks_99, ite_self, Bool.false_eq_true, eq_self, isk_t, i20_t, w20_t, l23_t, b21_t, b22_t, w_t, bif_t, bif_f, bif_d, if_pos, if_neg, if_true, if_false, not_true_eq_false, not_false_eq_true, Option.bind_some, Option.toList_some, Option.toList_none, List.cons_append, List.nil_append, Int.toNat_natCast, Int.reduceToNat, up_eq, up_p, up_k, sN,  hf, c ]
theorem R_full1 (hρ : RM ρ) : am_E (d + 1) 162 0 [some (.inr (.inr 99)), some (.inl 1)] [] (SH, ρ, μ, cs) = some (some (.inl (if μ 101 11 = 6 then 1 else 0)), (SH, ρ, μ, cs)) := by
  have hf := fun d => R_fresher (ρ := ρ) (cs := cs) (d := d) (μ := μ) (k := 1) hρ (by omega)
  have hf : ∀ d, am_E d 156 0 [some (.inr (.inr 99)), some (.inl 1)] [] (SH, ρ, μ, cs) = some (some (.inl (μ 101 11)), (SH, ρ, μ, cs)) := hf
  by_cases c : μ 101 11 = 6
  · rw [if_pos c]
    simp (disch := (first | omega | (simp (disch := omega) only [sr_up, wr_up_o]; omega))) only [e162_0, e162_1_c1, e162_57, ks_99, ite_self, Bool.false_eq_true, eq_self, isk_t, i20_t, w20_t, l23_t, b21_t, b22_t, w_t, bif_t, bif_f, bif_d, if_pos, if_neg, if_true, if_false, not_true_eq_false, not_false_eq_true, Option.bind_some, Option.toList_some, Option.toList_none, List.cons_append, List.nil_append, Int.toNat_natCast, Int.reduceToNat, up_eq, up_p, up_k, sN,  hf, c ]
  · rw [if_neg c]
    simp (disch := (first | omega | (simp (disch := omega) only [sr_up, wr_up_o]; omega))) only [e162_0, e162_1_c1, e162_57, ks_99, ite_self, Bool.false_eq_true, eq_self, isk_t, i20_t, w20_t, l23_t, b21_t, b22_t, w_t, bif_t, bif_f, bif_d, if_pos, if_neg, if_true, if_false, not_true_eq_false, not_false_eq_true, Option.bind_some, Option.toList_some, Option.toList_none, List.cons_append, List.nil_append, Int.toNat_natCast, Int.reduceToNat, up_eq, up_p, up_k, sN,  hf, c ]
theorem R_full2 (hρ : RM ρ) : am_E (d + 1) 162 0 [some (.inr (.inr 99)), some (.inl 2)] [] (SH, ρ, μ, cs) = some (some (.inl (if μ 101 12 = 10 then 1 else 0)), (SH, ρ, μ, cs)) := by
  have hf := fun d => R_fresher (ρ := ρ) (cs := cs) (d := d) (μ := μ) (k := 2) hρ (by omega)
  have hf : ∀ d, am_E d 156 0 [some (.inr (.inr 99)), some (.inl 2)] [] (SH, ρ, μ, cs) = some (some (.inl (μ 101 12)), (SH, ρ, μ, cs)) := hf
  by_cases c : μ 101 12 = 10
  · rw [if_pos c]
    simp (disch := (first | omega | (simp (disch := omega) only [sr_up, wr_up_o]; omega))) only [e162_0, e162_1_c2, e162_73, ks_99, ite_self, Bool.false_eq_true, eq_self, isk_t, i20_t, w20_t, l23_t, b21_t, b22_t, w_t, bif_t, bif_f, bif_d, if_pos, if_neg, if_true, if_false, not_true_eq_false, not_false_eq_true, Option.bind_some, Option.toList_some, Option.toList_none, List.cons_append, List.nil_append, Int.toNat_natCast, Int.reduceToNat, up_eq, up_p, up_k, sN,  hf, c ]
  · rw [if_neg c]
    simp (disch := (first | omega | (simp (disch := omega) only [sr_up, wr_up_o]; omega))) only [e162_0, e162_1_c2, e162_73, ks_99, ite_self, Bool.false_eq_true, eq_self, isk_t, i20_t, w20_t, l23_t, b21_t, b22_t, w_t, bif_t, bif_f, bif_d, if_pos, if_neg, if_true, if_false, not_true_eq_false, not_false_eq_true, Option.bind_some, Option.toList_some, Option.toList_none, List.cons_append, List.nil_append, Int.toNat_natCast, Int.reduceToNat, up_eq, up_p, up_k, sN,  hf, c ]
theorem R_full3 (hρ : RM ρ) : am_E (d + 1) 162 0 [some (.inr (.inr 99)), some (.inl 3)] [] (SH, ρ, μ, cs) = some (some (.inl (if μ 101 13 = 12 then 1 else 0)), (SH, ρ, μ, cs)) := by
  have hf := fun d => R_fresher (ρ := ρ) (cs := cs) (d := d) (μ := μ) (k := 3) hρ (by omega)
  have hf : ∀ d, am_E d 156 0 [some (.inr (.inr 99)), some (.inl 3)] [] (SH, ρ, μ, cs) = some (some (.inl (μ 101 13)), (SH, ρ, μ, cs)) := hf
  by_cases c : μ 101 13 = 12
  · rw [if_pos c]
    simp (disch := (first | omega | (simp (disch := omega) only [sr_up, wr_up_o]; omega))) only [e162_0, e162_1_c3, e162_89, ks_99, ite_self, Bool.false_eq_true, eq_self, isk_t, i20_t, w20_t, l23_t, b21_t, b22_t, w_t, bif_t, bif_f, bif_d, if_pos, if_neg, if_true, if_false, not_true_eq_false, not_false_eq_true, Option.bind_some, Option.toList_some, Option.toList_none, List.cons_append, List.nil_append, Int.toNat_natCast, Int.reduceToNat, up_eq, up_p, up_k, sN,  hf, c ]
  · rw [if_neg c]
    simp (disch := (first | omega | (simp (disch := omega) only [sr_up, wr_up_o]; omega))) only [e162_0, e162_1_c3, e162_89, ks_99, ite_self, Bool.false_eq_true, eq_self, isk_t, i20_t, w20_t, l23_t, b21_t, b22_t, w_t, bif_t, bif_f, bif_d, if_pos, if_neg, if_true, if_false, not_true_eq_false, not_false_eq_true, Option.bind_some, Option.toList_some, Option.toList_none, List.cons_append, List.nil_append, Int.toNat_natCast, Int.reduceToNat, up_eq, up_p, up_k, sN,  hf, c ]
theorem R_full4 (hρ : RM ρ) : am_E (d + 1) 162 0 [some (.inr (.inr 99)), some (.inl 4)] [] (SH, ρ, μ, cs) = some (some (.inl (if μ 101 14 = 12 then 1 else 0)), (SH, ρ, μ, cs)) := by
  have hf := fun d => R_fresher (ρ := ρ) (cs := cs) (d := d) (μ := μ) (k := 4) hρ (by omega)
  have hf : ∀ d, am_E d 156 0 [some (.inr (.inr 99)), some (.inl 4)] [] (SH, ρ, μ, cs) = some (some (.inl (μ 101 14)), (SH, ρ, μ, cs)) := hf
  by_cases c : μ 101 14 = 12
  · rw [if_pos c]
    simp (disch := (first | omega | (simp (disch := omega) only [sr_up, wr_up_o]; omega))) only [e162_0, e162_1_c4, e162_105, ks_99, ite_self, Bool.false_eq_true, eq_self, isk_t, i20_t, w20_t, l23_t, b21_t, b22_t, w_t, bif_t, bif_f, bif_d, if_pos, if_neg, if_true, if_false, not_true_eq_false, not_false_eq_true, Option.bind_some, Option.toList_some, Option.toList_none, List.cons_append, List.nil_append, Int.toNat_natCast, Int.reduceToNat, up_eq, up_p, up_k, sN,  hf, c ]
  · rw [if_neg c]
    simp (disch := (first | omega | (simp (disch := omega) only [sr_up, wr_up_o]; omega))) only [e162_0, e162_1_c4, e162_105, ks_99, ite_self, Bool.false_eq_true, eq_self, isk_t, i20_t, w20_t, l23_t, b21_t, b22_t, w_t, bif_t, bif_f, bif_d, if_pos, if_neg, if_true, if_false, not_true_eq_false, not_false_eq_true, Option.bind_some, Option.toList_some, Option.toList_none, List.cons_append, List.nil_append, Int.toNat_natCast, Int.reduceToNat, up_eq, up_p, up_k, sN,  hf, c ]
theorem R_full5 (hρ : RM ρ) {w : Int} (hw : 5 ≤ w) : am_E (d + 1) 162 0 [some (.inr (.inr 99)), some (.inl w)] [] (SH, ρ, μ, cs) = some (some (.inl 0), (SH, ρ, μ, cs)) := by
  simp (disch := (first | omega | (simp (disch := omega) only [sr_up, wr_up_o]; omega))) only [e162_0, e162_1_d, ks_99, ite_self, Bool.false_eq_true, eq_self, isk_t, i20_t, w20_t, l23_t, b21_t, b22_t, w_t, bif_t, bif_f, bif_d, if_pos, if_neg, if_true, if_false, not_true_eq_false, not_false_eq_true, Option.bind_some, Option.toList_some, Option.toList_none, List.cons_append, List.nil_append, Int.toNat_natCast, Int.reduceToNat, up_eq, up_p, up_k, sN]
theorem R_head (hρ : RM ρ) (h : RH μ b n a) {w : Nat} (hw : (tok b n a).1 = (w : Int)) (hw9 : w ≤ 9) (hZ : SR2 μ = Z) (hT : TD μ ts Z) (hfull : am_E (d + 199) 162 0 [some (.inr (.inr 99)), some (.inl (w : Int))] [] (SH, ρ, μ, cs) = some (some (.inl 0), (SH, ρ, μ, cs))) (htold : 5 ≤ w → w ≤ 8 → ts.testBit (w - 5) = false) : ∃ μ2, FZ μ μ2 ∧ RH μ2 b n (tok b n a).2.2.2 ∧ SR2 μ2 = Z ∧ TD μ2 (if 5 ≤ w ∧ w ≤ 8 then ts ||| 2 ^ (w - 5) else ts) Z ∧ μ2 99 22 = μ 99 22 ∧ μ2 99 32 = μ 99 32 ∧ μ2 99 33 = μ 99 33 ∧ am_E (d + 200) 163 0 [some (.inr (.inr 99)), none, none, none, none, none] [] (SH, ρ, μ, cs) = am_E (d + 200) 163 96 [some (.inr (.inr 99)), some (.inl (w : Int)), none, none, none, none] [.inl (w : Int)] (SH, ρ, μ2, cs) := by
  obtain ⟨hT2, hK, h0⟩ := id h
  have hs := rk_sort hK (tok_nn b n a) (tok_39 b n a)
  obtain ⟨T, k1, k2, k3, k4⟩ := hT
  have s0 : μ 99 26 = 0 := by omega
  have v := (hK.2.1 (by omega)).2
  have hq : rmp (tok b n a).1 = (w : Int) := by unfold rmp; rw [if_pos (by omega)]; exact hw
  rw [hq] at v
  have e3 : am_or (T : Int) (am_shl 1 (w : Int)) = ((T ||| 2 ^ w : Nat) : Int) := by
    rw [ib_or1 (by omega) (by omega) (by omega), Int.toNat_natCast]
  have hlt := td_or (k := w) k2 (by omega)
  have hbit : ∀ i, (T ||| 2 ^ w).testBit i = (T.testBit i || decide (w = i)) := fun i => td_bit
  generalize T ||| 2 ^ w = T' at *
  obtain ⟨μ2, f1, f2, f4⟩ := R_tokH (d := d + 193) (ρ := ρ) (cs := cs) hρ (rtk_fr (μ' := am_up μ 99 21 (T' : Int)) hT2 (fun i => up_p (by omega)) (up_k (by omega)) (up_k (by omega)) (up_k (by omega))) (by rw [up_k (by omega)]; exact h0)
  have fw2 := fw_fr f1
  refine ⟨μ2, fz_tr (fz_up (v := (T' : Int)) (fz_rf μ) (q := 99) (k := 21) (by omega)) (fz_fw fw2), f2, ?_, ⟨T', ?_, hlt, ?_, ?_⟩, ?_, ?_, ?_, ?_⟩
  · rw [fw_sr2 fw2, sr2_fr (fun q k q0 q1 => up_p (by omega))]
    exact hZ
  · rw [fw2 _ _ (by omega), up_eq]
  · intro s hs4
    rw [hbit, k3 s hs4]
    by_cases c : 5 ≤ w ∧ w ≤ 8
    · rw [if_pos c, td_bit]
      congr 1
      exact decide_eq_decide.mpr (by omega)
    · rw [if_neg c, decide_eq_false (by omega), Bool.or_false]
  · intro k hk
    rw [hbit, decide_eq_false (by omega), Bool.or_false]
    exact k4 k hk
  · rw [fw2 _ _ (by omega), up_k (by omega)]
  · rw [fw2 _ _ (by omega), up_k (by omega)]
  · rw [fw2 _ _ (by omega), up_k (by omega)]
  · by_cases c : w < 5
    · simp (disch := (first | omega | (simp (disch := omega) only [sr_up, wr_up_o]; omega))) only [e163_0, e163_32, e163_71, e163_95, ks_99, ite_self, Bool.false_eq_true, eq_self, isk_t, i20_t, w20_t, l23_t, b21_t, b22_t, w_t, bif_t, bif_f, bif_d, if_pos, if_neg, if_true, if_false, not_true_eq_false, not_false_eq_true, Option.bind_some, Option.toList_some, Option.toList_none, List.cons_append, List.nil_append, Int.toNat_natCast, Int.reduceToNat, up_eq, up_p, up_k, sN,  h0, s0, v, hfull, k1, e3, f4 ]
    · by_cases c2 : 8 < w
      · simp (disch := (first | omega | (simp (disch := omega) only [sr_up, wr_up_o]; omega))) only [e163_0, e163_32, e163_71, e163_95, ks_99, ite_self, Bool.false_eq_true, eq_self, isk_t, i20_t, w20_t, l23_t, b21_t, b22_t, w_t, bif_t, bif_f, bif_d, if_pos, if_neg, if_true, if_false, not_true_eq_false, not_false_eq_true, Option.bind_some, Option.toList_some, Option.toList_none, List.cons_append, List.nil_append, Int.toNat_natCast, Int.reduceToNat, up_eq, up_p, up_k, sN,  h0, s0, v, hfull, k1, e3, f4 ]
      · have hb := k3 (w - 5) (by omega)
        rw [htold (by omega) (by omega), show 5 + (w - 5) = w by omega] at hb
        have e2 : am_and (am_shr (T : Int) (w : Int)) 1 = 0 := by
          rw [ib_bit (by omega) (by omega) (by omega), Int.toNat_natCast, hb]
          all_goals rfl
        simp (disch := (first | omega | (simp (disch := omega) only [sr_up, wr_up_o]; omega))) only [e163_0, e163_32, e163_71, e163_95, ks_99, ite_self, Bool.false_eq_true, eq_self, isk_t, i20_t, w20_t, l23_t, b21_t, b22_t, w_t, bif_t, bif_f, bif_d, if_pos, if_neg, if_true, if_false, not_true_eq_false, not_false_eq_true, Option.bind_some, Option.toList_some, Option.toList_none, List.cons_append, List.nil_append, Int.toNat_natCast, Int.reduceToNat, up_eq, up_p, up_k, sN,  h0, s0, v, hfull, k1, e2, e3, f4 ]
/-- a line that isn't one -/
theorem R_lnB (hρ : RM ρ) (h : RH μ b n a) (hw : 9 < (tok b n a).1) : ∃ μ', FZ μ μ' ∧ RF μ' (1, (tok b n a).2.2.1) ∧ am_E (d + 1) 163 0 [some (.inr (.inr 99)), none, none, none, none, none] [] (SH, ρ, μ, cs) = some (none, (SH, ρ, μ', cs)) := by
  obtain ⟨hT2, hK, h0⟩ := id h
  have hs := rk_sort hK (tok_nn b n a) (tok_39 b n a)
  have hwr := fun (f : Int) (d : Nat) => R_wr (ρ := ρ) (cs := cs) (d := d) (f := f) h0
  refine ⟨am_up (am_up μ 99 28 1) 99 29 (μ 99 25), fz_up (fz_up (fz_rf μ) (by omega)) (by omega), rf_wr hK (by decide), ?_⟩
  by_cases s0 : μ 99 26 = 0
  · have c22 : (tok b n a).1 ≤ 22 := by omega
    have v := (hK.2.1 c22).2
    have hq : 9 < rmp (tok b n a).1 := by
      generalize (tok b n a).1 = k at *
      unfold rmp
      repeat' split
      all_goals omega
    generalize rmp (tok b n a).1 = V at *
    simp (disch := (first | omega | (simp (disch := omega) only [sr_up, wr_up_o]; omega))) only [e163_0, e163_21, ks_99, ite_self, Bool.false_eq_true, eq_self, isk_t, i20_t, w20_t, l23_t, b21_t, b22_t, w_t, bif_t, bif_f, bif_d, if_pos, if_neg, if_true, if_false, not_true_eq_false, not_false_eq_true, Option.bind_some, Option.toList_some, Option.toList_none, List.cons_append, List.nil_append, Int.toNat_natCast, Int.reduceToNat, up_eq, up_p, up_k, sN,  h0, s0, v, hwr ]
  · simp (disch := (first | omega | (simp (disch := omega) only [sr_up, wr_up_o]; omega))) only [e163_0, e163_21, ks_99, ite_self, Bool.false_eq_true, eq_self, isk_t, i20_t, w20_t, l23_t, b21_t, b22_t, w_t, bif_t, bif_f, bif_d, if_pos, if_neg, if_true, if_false, not_true_eq_false, not_false_eq_true, Option.bind_some, Option.toList_some, Option.toList_none, List.cons_append, List.nil_append, Int.toNat_natCast, Int.reduceToNat, up_eq, up_p, up_k, sN,  h0, s0, hwr ]
/-- a line too many -/
theorem R_lnF (hρ : RM ρ) (h : RH μ b n a) {w : Nat} (hw : (tok b n a).1 = (w : Int)) (hw9 : w ≤ 9) (hfull : am_E (d + 2) 162 0 [some (.inr (.inr 99)), some (.inl (w : Int))] [] (SH, ρ, μ, cs) = some (some (.inl 1), (SH, ρ, μ, cs))) : ∃ μ', FZ μ μ' ∧ RF μ' (2, (tok b n a).2.2.1) ∧ am_E (d + 3) 163 0 [some (.inr (.inr 99)), none, none, none, none, none] [] (SH, ρ, μ, cs) = some (none, (SH, ρ, μ', cs)) := by
  obtain ⟨hT2, hK, h0⟩ := id h
  have hs := rk_sort hK (tok_nn b n a) (tok_39 b n a)
  have hwr := fun (f : Int) (d : Nat) => R_wr (ρ := ρ) (cs := cs) (d := d) (f := f) h0
  have s0 : μ 99 26 = 0 := by omega
  have v := (hK.2.1 (by omega)).2
  have hq : rmp (tok b n a).1 = (w : Int) := by unfold rmp; rw [if_pos (by omega)]; exact hw
  rw [hq] at v
  refine ⟨am_up (am_up μ 99 28 2) 99 29 (μ 99 25), fz_up (fz_up (fz_rf μ) (by omega)) (by omega), rf_wr hK (by decide), ?_⟩
  simp (disch := (first | omega | (simp (disch := omega) only [sr_up, wr_up_o]; omega))) only [e163_0, e163_32, e163_40, e163_71, ks_99, ite_self, Bool.false_eq_true, eq_self, isk_t, i20_t, w20_t, l23_t, b21_t, b22_t, w_t, bif_t, bif_f, bif_d, if_pos, if_neg, if_true, if_false, not_true_eq_false, not_false_eq_true, Option.bind_some, Option.toList_some, Option.toList_none, List.cons_append, List.nil_append, Int.toNat_natCast, Int.reduceToNat, up_eq, up_p, up_k, sN,  h0, s0, v, hfull, hwr ]
/-- a line told twice -/
theorem R_lnT (hρ : RM ρ) (h : RH μ b n a) {w : Nat} (hw : (tok b n a).1 = (w : Int)) (hw5 : 5 ≤ w ∧ w ≤ 8) (hT : TD μ ts Z) (htold : ts.testBit (w - 5) = true) : ∃ μ', FZ μ μ' ∧ RF μ' (3, (tok b n a).2.2.1) ∧ am_E (d + 3) 163 0 [some (.inr (.inr 99)), none, none, none, none, none] [] (SH, ρ, μ, cs) = some (none, (SH, ρ, μ', cs)) := by
  obtain ⟨hT2, hK, h0⟩ := id h
  have hs := rk_sort hK (tok_nn b n a) (tok_39 b n a)
  have hwr := fun (f : Int) (d : Nat) => R_wr (ρ := ρ) (cs := cs) (d := d) (f := f) h0
  have s0 : μ 99 26 = 0 := by omega
  have v := (hK.2.1 (by omega)).2
  have hq : rmp (tok b n a).1 = (w : Int) := by unfold rmp; rw [if_pos (by omega)]; exact hw
  rw [hq] at v
  obtain ⟨T, k1, k2, k3, k4⟩ := hT
  have hb := k3 (w - 5) (by omega)
  rw [htold, show 5 + (w - 5) = w by omega] at hb
  have e2 : am_and (am_shr (T : Int) (w : Int)) 1 = 1 := by
    rw [ib_bit (by omega) (by omega) (by omega), Int.toNat_natCast, hb]
    all_goals rfl
  have hfull := R_full5 (d := d + 1) (ρ := ρ) (μ := μ) (cs := cs) (w := (w : Int)) hρ (by omega)
  refine ⟨am_up (am_up μ 99 28 3) 99 29 (μ 99 25), fz_up (fz_up (fz_rf μ) (by omega)) (by omega), rf_wr hK (by decide), ?_⟩
  simp (disch := (first | omega | (simp (disch := omega) only [sr_up, wr_up_o]; omega))) only [e163_0, e163_32, e163_40, e163_71, ks_99, ite_self, Bool.false_eq_true, eq_self, isk_t, i20_t, w20_t, l23_t, b21_t, b22_t, w_t, bif_t, bif_f, bif_d, if_pos, if_neg, if_true, if_false, not_true_eq_false, not_false_eq_true, Option.bind_some, Option.toList_some, Option.toList_none, List.cons_append, List.nil_append, Int.toNat_natCast, Int.reduceToNat, up_eq, up_p, up_k, sN,  h0, s0, v, hfull, k1, e2, hwr ]
end RLL
