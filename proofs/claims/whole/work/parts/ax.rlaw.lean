/-! TEXT: the reference's line of a law -/
/-- what lines were told -/
def TD (μ : Nat → Nat → Int) (ts : Nat) (Z : MS) : Prop := ∃ T : Nat, μ 99 21 = (T : Int) ∧ T < 2 ^ 19 ∧ (∀ s, s < 4 → T.testBit (5 + s) = ts.testBit s) ∧ ∀ k : Nat, k < 3 → (T.testBit (16 + k) = true ↔ Z 14 k < Z 15 k)
def RLz (ρ : Nat → Nat → Nat) (cs : Nat × Nat × Nat) (b : Nat → Int) (n ts : Nat) (μ : Nat → Nat → Int) (run : Option am_Res) (x : PE (MS × Nat)) : Prop := ∃ μ', FZ μ μ' ∧ match x with
  | .inl q => RF μ' q ∧ run = some (none, (SH, ρ, μ', cs))
  | .inr z => RH μ' b n z.2 ∧ SR2 μ' = z.1 ∧ μ' 99 22 = μ 99 22 + 1 ∧ TD μ' ts z.1 ∧ μ' 99 32 = 0 ∧ μ' 99 33 = z.1 0 9 ∧ run = some (none, (SH, ρ, μ', cs))
section RLW
variable {ρ : Nat → Nat → Nat} {g : Nat → Nat → Int} {μ : Nat → Nat → Int} {cs : Nat × Nat × Nat} {d n a ts : Nat} {b : Nat → Int} {Z : MS}
theorem td_or {T k : Nat} (h : T < 2 ^ 19) (hk : k < 19) : T ||| 2 ^ k < 2 ^ 19 := Nat.or_lt_two_pow h (Nat.pow_lt_pow_right (by omega) hk)
theorem td_bit {T k i : Nat} : (T ||| 2 ^ k).testBit i = (T.testBit i || decide (k = i)) := by
  rw [Nat.testBit_or, Nat.testBit_two_pow]
theorem rf_up {q : Int × Nat} {p k : Nat} {v : Int} (h : RF μ q) (hp : p ≠ 99) : RF (am_up μ p k v) q := ⟨by rw [up_p (by omega)]; exact h.1, by rw [up_p (by omega)]; exact h.2.1, h.2.2⟩
theorem fz_fe {x y : Nat → Nat → Int} {B : Nat} (h : FE B x y) : FZ x y := fun q k hq => h q k (by
  intro e
  apply hq
  rcases e with e | e | e | e
  · left; omega
  · right; obtain ⟨rfl, rfl⟩ := e; exact ⟨by omega, by omega, by decide⟩
  · right; obtain ⟨rfl, e⟩ := e; exact ⟨by omega, by omega, by show 64 ≤ k; omega⟩
  · right; obtain ⟨rfl, e⟩ := e; exact ⟨by omega, by omega, by show 64 ≤ k; omega⟩)
theorem rtk_rh (h : RH μ b n a) : n ≤ 700 ∧ (tok b n a).2.2.2 ≤ n := ⟨h.1.1, h.1.2.1⟩
theorem R_lawH (hρ : RM ρ) (h : RH μ b n a) (hZ : SR2 μ = Z) (hT : TD μ ts Z) (hw : (tok b n a).1 < 10 ∨ 12 < (tok b n a).1 ∨ Z 14 ((tok b n a).1 - 10) < Z 15 ((tok b n a).1 - 10)) : ∃ μ', FZ μ μ' ∧ RF μ' (if (tok b n a).1 < 10 ∨ 12 < (tok b n a).1 then 1 else 3, (tok b n a).2.2.1) ∧ am_E (d + 3) 165 0 [some (.inr (.inr 99)), none] [] (SH, ρ, μ, cs) = some (none, (SH, ρ, μ', cs)) := by
  obtain ⟨hT2, hK, h0⟩ := id h
  have hs := rk_sort hK (tok_nn b n a) (tok_39 b n a)
  have t0 := tok_nn b n a
  have hwr := fun (f : Int) (d : Nat) => R_wr (ρ := ρ) (cs := cs) (d := d) (f := f) h0
  by_cases c1 : (tok b n a).1 < 10 ∨ 12 < (tok b n a).1
  · rw [if_pos c1]
    refine ⟨am_up (am_up μ 99 28 1) 99 29 (μ 99 25), fz_up (fz_up (fz_rf μ) (by omega)) (by omega), rf_wr hK (by decide), ?_⟩
    by_cases s0 : μ 99 26 = 0
    · have c22 : (tok b n a).1 ≤ 22 := by omega
      have v := (hK.2.1 c22).2
      have hq : rmp (tok b n a).1 < 10 ∨ 12 < rmp (tok b n a).1 := by
        generalize (tok b n a).1 = k at *
        unfold rmp
        repeat' split
        all_goals omega
      generalize rmp (tok b n a).1 = V at *
      by_cases q : V < 10
      · simp (disch := (first | omega | (simp (disch := omega) only [sr_up, wr_up_o]; omega))) only [e165_0, e165_30, e165_65, ks_99, ite_self, Bool.false_eq_true, eq_self, isk_t, i20_t, w20_t, l23_t, b21_t, b22_t, w_t, bif_t, bif_f, bif_d, if_pos, if_neg, if_true, if_false, not_true_eq_false, not_false_eq_true, Option.bind_some, Option.toList_some, Option.toList_none, List.cons_append, List.nil_append, Int.toNat_natCast, Int.reduceToNat, up_eq, up_p, up_k, sN,  h0, s0, v, hwr ]
      · simp (disch := (first | omega | (simp (disch := omega) only [sr_up, wr_up_o]; omega))) only [e165_0, e165_30, e165_65, ks_99, ite_self, Bool.false_eq_true, eq_self, isk_t, i20_t, w20_t, l23_t, b21_t, b22_t, w_t, bif_t, bif_f, bif_d, if_pos, if_neg, if_true, if_false, not_true_eq_false, not_false_eq_true, Option.bind_some, Option.toList_some, Option.toList_none, List.cons_append, List.nil_append, Int.toNat_natCast, Int.reduceToNat, up_eq, up_p, up_k, sN,  h0, s0, v, hwr ]
    · simp (disch := (first | omega | (simp (disch := omega) only [sr_up, wr_up_o]; omega))) only [e165_0, e165_30, e165_65, ks_99, ite_self, Bool.false_eq_true, eq_self, isk_t, i20_t, w20_t, l23_t, b21_t, b22_t, w_t, bif_t, bif_f, bif_d, if_pos, if_neg, if_true, if_false, not_true_eq_false, not_false_eq_true, Option.bind_some, Option.toList_some, Option.toList_none, List.cons_append, List.nil_append, Int.toNat_natCast, Int.reduceToNat, up_eq, up_p, up_k, sN,  h0, s0, hwr ]
  · rw [if_neg c1]
    obtain ⟨T, k1, k2, k3, k4⟩ := hT
    obtain ⟨r, hr⟩ : ∃ r : Nat, (tok b n a).1 = 10 + (r : Int) := ⟨((tok b n a).1 - 10).toNat, by omega⟩
    have s0 : μ 99 26 = 0 := by omega
    have v := (hK.2.1 (by omega)).2
    have hq : rmp (tok b n a).1 = 10 + (r : Int) := by unfold rmp; rw [if_pos (by omega)]; exact hr
    rw [hq] at v
    have hb := (k4 r (by omega)).mpr (by
      rcases hw with z | z | z
      · omega
      · omega
      · rw [hr, show (10 : Int) + (r : Int) - 10 = (r : Int) by omega] at z; exact z)
    have e1 : (10 : Int) + (r : Int) - 10 = (r : Int) := by omega
    have e2 : am_and (am_shr (T : Int) (16 + (r : Int))) 1 = 1 := by
      rw [ib_bit (by omega) (by omega) (by omega), show (16 + (r : Int)).toNat = 16 + r by omega, hb]
      all_goals rfl
    refine ⟨am_up (am_up μ 99 28 3) 99 29 (μ 99 25), fz_up (fz_up (fz_rf μ) (by omega)) (by omega), rf_wr hK (by decide), ?_⟩
    simp (disch := (first | omega | (simp (disch := omega) only [sr_up, wr_up_o]; omega))) only [e165_0, e165_30, e165_65, ks_99, ite_self, Bool.false_eq_true, eq_self, isk_t, i20_t, w20_t, l23_t, b21_t, b22_t, w_t, bif_t, bif_f, bif_d, if_pos, if_neg, if_true, if_false, not_true_eq_false, not_false_eq_true, Option.bind_some, Option.toList_some, Option.toList_none, List.cons_append, List.nil_append, Int.toNat_natCast, Int.reduceToNat, up_eq, up_p, up_k, sN,  h0, s0, v, k1, e1, e2, hwr ]
theorem R_lawS {μ2 μ4 μ5 μ6 : Nat → Nat → Int} {B r : Nat} {O : List (Int × Int)} {V : Int} (hZ : SR2 μ = Z) (r3 : r < 3) (hB : Z 0 9 = (B : Int)) (hO : B + O.length ≤ 64) (h2 : ∀ q j, 101 ≤ q → q ≤ 118 → μ2 q j = μ q j) (h4 : ∀ q j, 101 ≤ q → q ≤ 118 → ¬ ((q = 101 ∧ j = 19) ∨ (q = 117 ∧ 64 + B ≤ j) ∨ (q = 118 ∧ 64 + B ≤ j)) → μ4 q j = (am_up μ2 115 (3 + r) B) q j) (h19 : μ4 101 19 = ((B + O.length : Nat) : Int)) (h5 : μ5 = am_up μ4 116 (3 + r) V) (hV : V = μ4 101 19) (hw : OR2 (am_up μ2 115 (3 + r) B) μ4 B O) (h6 : ∀ q j, 101 ≤ q → q ≤ 118 → μ6 q j = μ5 q j) : SR2 μ6 = zlaw Z r O := by
  funext x k
  have hZx : ∀ (x : Nat) (k : Int), x < 18 → Z x k = μ (101 + x) (hfR x + k.toNat) := fun x k hx => by rw [← hZ]; unfold SR2; rw [if_pos hx]
  unfold SR2
  by_cases hx : x < 18
  · rw [if_pos hx, h6 _ _ (by omega) (by omega), h5]
    by_cases x14 : x = 14
    · subst x14
      rw [up_p (by omega), h4 _ _ (by omega) (by omega) (by omega)]
      by_cases e : k.toNat = r
      · unfold zlaw
        rw [if_pos ⟨rfl, by omega⟩, hB]
        have : hfR 14 + k.toNat = 3 + r := by rw [e]; rfl
        rw [this]
        exact up_eq
      · rw [zl_o (by omega), hZx _ _ (by omega)]
        have : hfR 14 = 3 := by decide
        rw [this, up_k (by omega), h2 _ _ (by omega) (by omega)]
    · by_cases x15 : x = 15
      · subst x15
        have h3 : hfR 15 = 3 := by decide
        rw [h3]
        by_cases e : k.toNat = r
        · unfold zlaw
          rw [if_neg (by omega), if_pos ⟨rfl, by omega⟩, e]
          show (am_up μ4 116 (3 + r) V) 116 (3 + r) = _
          rw [up_eq, hV, h19, hB]
          omega
        · show (am_up μ4 116 (3 + r) V) 116 (3 + k.toNat) = _
          rw [up_k (by omega), h4 _ _ (by omega) (by omega) (by omega), up_p (by omega), h2 _ _ (by omega) (by omega), zl_o (by omega), hZx _ _ (by omega), h3]
      · rw [up_p (by omega)]
        by_cases x0 : x = 0
        · subst x0
          have h3 : hfR 0 = 10 := by decide
          rw [h3]
          by_cases e : k.toNat = 9
          · unfold zlaw
            rw [if_neg (by omega), if_neg (by omega), if_pos ⟨rfl, e⟩, e, hB]
            show μ4 101 19 = _
            rw [h19]
            omega
          · rw [h4 _ _ (by omega) (by omega) (by omega), up_p (by omega), h2 _ _ (by omega) (by omega), zl_o (by omega), hZx _ _ (by omega), h3]
        · by_cases x16 : x = 16
          · subst x16
            have h3 : hfR 16 = 64 := by decide
            rw [h3]
            show μ4 117 (64 + k.toNat) = _
            by_cases e : B ≤ k.toNat ∧ k.toNat < B + O.length
            · unfold zlaw
              rw [if_neg (by omega), if_neg (by omega), if_neg (by omega), if_pos ⟨rfl, by omega, by omega⟩, hB, Int.toNat_natCast]
              have := (hw.1 (k.toNat - B) (by omega)).1
              rw [show B + (k.toNat - B) = k.toNat by omega] at this
              exact this
            · rw [zl_o (by omega), hZx _ _ (by omega), h3]
              show _ = μ 117 (64 + k.toNat)
              by_cases e2 : k.toNat < B
              · rw [h4 _ _ (by omega) (by omega) (by omega), up_p (by omega), h2 _ _ (by omega) (by omega)]
              · rw [(hw.2 (64 + k.toNat) (by omega)).1, up_p (by omega), h2 _ _ (by omega) (by omega)]
          · by_cases x17 : x = 17
            · subst x17
              have h3 : hfR 17 = 64 := by decide
              rw [h3]
              show μ4 118 (64 + k.toNat) = _
              by_cases e : B ≤ k.toNat ∧ k.toNat < B + O.length
              · unfold zlaw
                rw [if_neg (by omega), if_neg (by omega), if_neg (by omega), if_neg (by omega), if_pos ⟨rfl, by omega, by omega⟩, hB, Int.toNat_natCast]
                have := (hw.1 (k.toNat - B) (by omega)).2
                rw [show B + (k.toNat - B) = k.toNat by omega] at this
                exact this
              · rw [zl_o (by omega), hZx _ _ (by omega), h3]
                show _ = μ 118 (64 + k.toNat)
                by_cases e2 : k.toNat < B
                · rw [h4 _ _ (by omega) (by omega) (by omega), up_p (by omega), h2 _ _ (by omega) (by omega)]
                · rw [(hw.2 (64 + k.toNat) (by omega)).2, up_p (by omega), h2 _ _ (by omega) (by omega)]
            · rw [h4 _ _ (by omega) (by omega) (by omega), up_p (by omega), h2 _ _ (by omega) (by omega), zl_o (by omega), hZx _ _ (by omega)]
  · rw [if_neg hx, zl_o (by omega), ← hZ]
    unfold SR2
    rw [if_neg hx]
/-- a law's line, from the word that names it -/
theorem R_lawl (hρ : RM ρ) (h : RH μ b n a) (hn : 0 ≤ μ 99 22) (hn2 : μ 99 22 < 1000) (hZ : SR2 μ = Z) (hS : SI Z) (hl : LB Z) (hT : TD μ ts Z) (h32 : μ 99 32 = 0) (h33 : μ 99 33 = Z 0 9) : RLz ρ cs b n ts μ (am_E (d + 200) 163 96 [some (.inr (.inr 99)), some (.inl 9), none, none, none, none] [.inl 9] (SH, ρ, μ, cs)) (pLaw b n Z a) := by
  by_cases hw : (tok b n a).1 < 10 ∨ 12 < (tok b n a).1 ∨ Z 14 ((tok b n a).1 - 10) < Z 15 ((tok b n a).1 - 10)
  · obtain ⟨μ', f1, f2, f3⟩ := R_lawH (d := d + 196) (cs := cs) hρ h hZ hT hw
    have hne : μ' 99 28 ≠ 0 := by rw [f2.1]; exact f2.2.2
    have he := R_eolF (d := d + 193) (ρ := ρ) (cs := cs) (w := 9) (l2 := none) (l3 := none) (l4 := none) (l5 := none) hne
    have hp : pLaw b n Z a = .inl (if (tok b n a).1 < 10 ∨ 12 < (tok b n a).1 then 1 else 3, (tok b n a).2.2.1) := by
      unfold pLaw
      by_cases c : (tok b n a).1 < 10 ∨ 12 < (tok b n a).1
      · rw [if_pos c, if_pos c]
      · rw [if_neg c, if_neg c, if_pos (by
          rcases hw with z | z | z
          · exact absurd (Or.inl z) c
          · exact absurd (Or.inr z) c
          · exact z)]
    rw [hp]
    refine ⟨μ', f1, f2, ?_⟩
    simp (disch := (first | omega | (simp (disch := omega) only [sr_up, wr_up_o]; omega))) only [e163_96_d, ks_99, ite_self, Bool.false_eq_true, eq_self, isk_t, i20_t, w20_t, l23_t, b21_t, b22_t, w_t, bif_t, bif_f, bif_d, if_pos, if_neg, if_true, if_false, not_true_eq_false, not_false_eq_true, Option.bind_some, Option.toList_some, Option.toList_none, List.cons_append, List.nil_append, Int.toNat_natCast, Int.reduceToNat, up_eq, up_p, up_k, sN,  f3, he ]
  · have c1 : ¬ ((tok b n a).1 < 10 ∨ 12 < (tok b n a).1) := fun e => hw (e.elim Or.inl (fun z => Or.inr (Or.inl z)))
    have c2 : ¬ Z 14 ((tok b n a).1 - 10) < Z 15 ((tok b n a).1 - 10) := fun e => hw (Or.inr (Or.inr e))
    obtain ⟨hT2, hK, h0⟩ := id h
    have hs := rk_sort hK (tok_nn b n a) (tok_39 b n a)
    obtain ⟨T, k1, k2, k3, k4⟩ := id hT
    obtain ⟨r, hr⟩ : ∃ r : Nat, (tok b n a).1 = 10 + (r : Int) := ⟨((tok b n a).1 - 10).toNat, by omega⟩
    have e1 : (10 : Int) + (r : Int) - 10 = (r : Int) := by omega
    have r3 : r < 3 := by omega
    have s0 : μ 99 26 = 0 := by omega
    have v := (hK.2.1 (by omega)).2
    have hq : rmp (tok b n a).1 = 10 + (r : Int) := by unfold rmp; rw [if_pos (by omega)]; exact hr
    rw [hq] at v
    rw [hr, e1] at c2
    have hb : T.testBit (16 + r) = false := by
      cases hh : T.testBit (16 + r) with
      | false => rfl
      | true => exact absurd ((k4 r r3).mp hh) c2
    have e2 : am_and (am_shr (T : Int) (16 + (r : Int))) 1 = 0 := by
      rw [ib_bit (by omega) (by omega) (by omega), show (16 + (r : Int)).toNat = 16 + r by omega, hb]
      all_goals rfl
    have e3 : am_or (T : Int) (am_shl 1 (16 + (r : Int))) = ((T ||| 2 ^ (16 + r) : Nat) : Int) := by
      rw [ib_or1 (by omega) (by omega) (by omega), show (16 + (r : Int)).toNat = 16 + r by omega]
    generalize hT' : T ||| 2 ^ (16 + r) = T' at *
    obtain ⟨B, hB⟩ := Int.eq_ofNat_of_zero_le hS.2.2.2.2.2.2.2.2.2.1.1
    have hB64 := hS.2.2.2.2.2.2.2.2.2.1.2
    have hB1 : μ 101 19 = (B : Int) := by
      rw [← hB, ← hZ]; rfl
    obtain ⟨μ2, f1, f2, f4⟩ := R_tokH (d := d + 192) (ρ := ρ) (cs := cs) hρ (rtk_fr (μ' := am_up μ 99 21 (T' : Int)) hT2 (fun i => up_p (by omega)) (up_k (by omega)) (up_k (by omega)) (up_k (by omega))) (by rw [up_k (by omega)]; exact h0)
    have ta := rtk_rh h
    have fw2 := fw_fr f1
    have hB2 : μ2 101 19 = (B : Int) := by rw [fw2 _ _ (by omega), up_p (by omega)]; exact hB1
    have hfr := fun d => R_fresher (ρ := ρ) (cs := cs) (d := d) (μ := μ2) (k := 9) hρ (by omega)
    have hfr : ∀ d, am_E d 156 0 [some (.inr (.inr 99)), some (.inl 9)] [] (SH, ρ, μ2, cs) = some (some (.inl (B : Int)), (SH, ρ, μ2, cs)) := fun d => by rw [← hB2]; exact hfr d
    have e4 : ((3 : Int) + (r : Int)).toNat = 3 + r := by omega
    have st1 : am_E (d + 199) 165 0 [some (.inr (.inr 99)), none] [] (SH, ρ, μ, cs) = am_E (d + 199) 165 92 [some (.inr (.inr 99)), some (.inl (r : Int))] [] (SH, ρ, μ2, cs) := by
      simp (disch := (first | omega | (simp (disch := omega) only [sr_up, wr_up_o]; omega))) only [e165_0, e165_30, e165_65, ks_99, ite_self, Bool.false_eq_true, eq_self, isk_t, i20_t, w20_t, l23_t, b21_t, b22_t, w_t, bif_t, bif_f, bif_d, if_pos, if_neg, if_true, if_false, not_true_eq_false, not_false_eq_true, Option.bind_some, Option.toList_some, Option.toList_none, List.cons_append, List.nil_append, Int.toNat_natCast, Int.reduceToNat, up_eq, up_p, up_k, sN,  h0, s0, v, k1, e1, e2, e3, f4 ]
    have hRE : RE (am_up μ2 115 (3 + r) B) (am_up μ2 115 (3 + r) B) B 0 (Z 0 9) [] := by
      refine ⟨?_, ?_, ?_, fun j hj => (by cases hj), fun k hk => ⟨rfl, rfl⟩⟩
      · rw [up_p (by omega), fw2 _ _ (by omega), up_k (by omega)]; exact h32
      · rw [up_p (by omega), fw2 _ _ (by omega), up_k (by omega)]; exact h33
      · rw [up_p (by omega)]; exact hB2
    have hV : SV B ([], 0, Z 0 9, []) := ⟨by show Z 0 9 = ((B + 0 + 0 : Nat) : Int); omega, rfl, hB64, by show 0 ≤ 8; omega⟩
    have hG : SG ([] : List Int) := fun k hk => by cases hk
    have hI : SYI true ([] : List Int) [] := ⟨rfl, fun x hx => by cases hx⟩
    obtain ⟨μ4, g1, g2, g3⟩ := R_exprA (g := am_up μ2 115 (3 + r) B) (ρ := ρ) (cs := cs) (b := b) (n := n) (B := B) hρ (n + 1) (tok b n a).2.2.2 (by omega) (d + 198) [] 0 (Z 0 9) [] (am_up μ2 115 (3 + r) B) (by unfold dN; omega) ta.2 (rh_up f2 (by omega)) hRE hV hG (by decide) (fun _ => Or.inl (by decide))
    have hp : pLaw b n Z a = bnd (sy b n (tok b n a).2.2.2 true ([], 0, Z 0 9, [])) fun z => .inr (zlaw Z r z.1, z.2.2) := by
      unfold pLaw
      rw [if_neg c1, hr, e1, if_neg c2]
      have : syF b n 701 (tok b n a).2.2.2 true ([], 0, Z 0 9, []) = sy b n (tok b n a).2.2.2 true ([], 0, Z 0 9, []) := syF_eq _ _ _ _ _ ta.2 (by omega) (by omega)
      rw [this]
    rw [hp]
    have fr3 : FZ μ (am_up μ2 115 (3 + r) B) := fz_row 14 r (fz_tr (fz_up (v := (T' : Int)) (fz_rf μ) (q := 99) (k := 21) (by omega)) (fz_fw fw2)) (by omega)
    have fr4 : FZ μ μ4 := fz_tr fr3 (fz_fe g1)
    have hfr4 := fun d => R_fresher (ρ := ρ) (cs := cs) (d := d) (μ := μ4) (k := 9) hρ (by omega)
    have hfr4 : ∀ d, am_E d 156 0 [some (.inr (.inr 99)), some (.inl 9)] [] (SH, ρ, μ4, cs) = some (some (.inl (μ4 101 19)), (SH, ρ, μ4, cs)) := hfr4
    have fr5 : ∀ v, FZ μ (am_up μ4 116 (3 + r) v) := fun v => fz_row 15 r fr4 (by omega)
    have st2 : am_E (d + 199) 165 0 [some (.inr (.inr 99)), none] [] (SH, ρ, μ, cs) = some (none, (SH, ρ, am_up μ4 116 (3 + r) (μ4 101 19), cs)) := by
      rw [st1]
      simp (disch := (first | omega | (simp (disch := omega) only [sr_up, wr_up_o]; omega))) only [e165_92, e165_105, e165_110, e165_123, ks_115, ks_116, ks_99, rm_sumFrom hρ, rm_sumTo hρ, ite_self, Bool.false_eq_true, eq_self, isk_t, i20_t, w20_t, l23_t, b21_t, b22_t, w_t, bif_t, bif_f, bif_d, if_pos, if_neg, if_true, if_false, not_true_eq_false, not_false_eq_true, Option.bind_some, Option.toList_some, Option.toList_none, List.cons_append, List.nil_append, Int.toNat_natCast, Int.reduceToNat, up_eq, up_p, up_k, sN,  hfr, e4, ks_115, ks_116, g3, hfr4 ]
    rcases g2 with ⟨q, z1, z2⟩ | ⟨a', τ, kn', o', z1, z2, z3, z4, z5, z6, z7, z8⟩
    · rw [z2]
      have hrf : RF (am_up μ4 116 (3 + r) (μ4 101 19)) q := rf_up z1 (by omega)
      have hne : (am_up μ4 116 (3 + r) (μ4 101 19)) 99 28 ≠ 0 := by rw [hrf.1]; exact hrf.2.2
      have he := R_eolF (d := d + 193) (ρ := ρ) (cs := cs) (w := 9) (l2 := none) (l3 := none) (l4 := none) (l5 := none) hne
      refine ⟨_, fr5 _, hrf, ?_⟩
      simp (disch := (first | omega | (simp (disch := omega) only [sr_up, wr_up_o]; omega))) only [e163_96_d, ks_99, ite_self, Bool.false_eq_true, eq_self, isk_t, i20_t, w20_t, l23_t, b21_t, b22_t, w_t, bif_t, bif_f, bif_d, if_pos, if_neg, if_true, if_false, not_true_eq_false, not_false_eq_true, Option.bind_some, Option.toList_some, Option.toList_none, List.cons_append, List.nil_append, Int.toNat_natCast, Int.reduceToNat, up_eq, up_p, up_k, sN,  st2, he ]
    · obtain ⟨w1, w2, w3, w4⟩ := z3
      rw [List.append_nil] at z4 z6 z8
      have hV4 := sv_app (st := []) z5 (by rw [List.append_nil]; exact z4)
      have hk4 : kn' = ((B + (o' ++ τ.map pz).length + 0 : Nat) : Int) := hV4.1
      have hk5 : kn' ≤ 64 := hV4.2.2.1
      have l22 : (am_up μ4 116 (3 + r) (μ4 101 19)) 99 22 = μ 99 22 := by rw [up_p (by omega), g1 _ _ (by omega), up_p (by omega), fw2 _ _ (by omega), up_k (by omega)]
      obtain ⟨μ6, y1, y2, y3, y4⟩ := R_eol (d := d + 193) (ρ := ρ) (cs := cs) (w := 9) (l2 := none) (l3 := none) (l4 := none) (l5 := none) hρ (rh_up (q := 116) (k := 3 + r) (v := μ4 101 19) z2 (by omega)) (by rw [l22]; exact hn) (by rw [l22]; exact hn2)
      have fr6 : FZ μ μ6 := fz_tr (fr5 (μ4 101 19)) (fun q k hq => y1 q k (by omega))
      have run : am_E (d + 200) 163 96 [some (.inr (.inr 99)), some (.inl 9), none, none, none, none] [.inl 9] (SH, ρ, μ, cs) = some (none, (SH, ρ, μ6, cs)) := by
        simp (disch := (first | omega | (simp (disch := omega) only [sr_up, wr_up_o]; omega))) only [e163_96_d, ks_99, ite_self, Bool.false_eq_true, eq_self, isk_t, i20_t, w20_t, l23_t, b21_t, b22_t, w_t, bif_t, bif_f, bif_d, if_pos, if_neg, if_true, if_false, not_true_eq_false, not_false_eq_true, Option.bind_some, Option.toList_some, Option.toList_none, List.cons_append, List.nil_append, Int.toNat_natCast, Int.reduceToNat, up_eq, up_p, up_k, sN,  st2, y4 ]
      cases hh : lE b n a' with
      | inl q =>
        obtain ⟨i1, rfl⟩ := lE_inl hh
        have : sy b n a' false (τ, 0, kn', o') = .inl (1, (tok b n a').2.2.1) := sy_bad z1.2 z8 (fun e => i1 e.1) (fun e => absurd e.2 (by show ¬ 0 < 0; omega))
        rw [z6, this]
        exact ⟨μ6, fr6, y2 _ hh, run⟩
      | inr a'' =>
        obtain ⟨i1, rfl⟩ := lE_inr hh
        have hsy : sy b n a' false (τ, 0, kn', o') = .inr (o' ++ τ.map pz, kn', (tok b n a').2.2.2) := by
          unfold sy syF
          rw [if_pos ⟨rfl, i1, rfl⟩]
          have := stl_ts (l := 1) (st := []) (o := o') z5 (by decide)
          rw [List.append_nil] at this
          show Sum.inr ((stl 1 τ o').2, kn', _) = _
          rw [this]
        have hok := sy_ok (b := b) (n := n) (B := B) _ (tok b n a).2.2.2 true ([], 0, Z 0 9, []) _ ta.2 hV hG hI (z6.trans hsy)
        obtain ⟨o1, o2, o3, o4, o5, o6⟩ := hok
        rw [z6, hsy]
        generalize hO : o' ++ τ.map pz = O at *
        have hlen : 0 < O.length := by
          cases O with
          | nil => exact absurd o3 (by show ¬ hgt [] 0 = some 1; decide)
          | cons x y => show 0 < y.length + 1; omega
        have y1b : ∀ q k, 101 ≤ q → q ≤ 118 → μ6 q k = (am_up μ4 116 (3 + r) (μ4 101 19)) q k := fun q k q0 q1 => y1 q k (by omega)
        have y1c : ∀ k, k = 21 ∨ k = 32 ∨ k = 33 → μ6 99 k = μ4 99 k := fun k hk => by rw [y1 _ _ (by omega), up_p (by omega)]
        have hTD : (am_up μ2 115 (3 + r) B) 99 21 = (T' : Int) := by rw [up_p (by omega), fw2 _ _ (by omega), up_eq]
        refine ⟨μ6, fr6, (y3 _ hh).1, ?_, ?_, ⟨T', ?_, ?_, ?_, ?_⟩, ?_, ?_, run⟩
        · refine R_lawS (V := μ4 101 19) hZ r3 hB (by omega) (fun q j q0 q1 => ?_) (fun q j q0 q1 hne => ?_) ?_ ?_ ?_ w4 (fun q j q0 q1 => y1b q j q0 q1)
          · rw [fw2 _ _ (by omega), up_p (by omega)]
          · exact g1 q j (by omega)
          · exact w3
          · rfl
          · rfl
        · rw [(y3 _ hh).2, l22]
        · rw [y1c 21 (by omega), g1 _ _ (by omega)]; exact hTD
        · rw [← hT']; exact td_or k2 (by omega)
        · intro s hs4
          rw [← hT', td_bit, k3 s hs4, decide_eq_false (by omega), Bool.or_false]
        · intro k hk
          rw [← hT', td_bit]
          show _ ↔ zlaw Z r O 14 k < zlaw Z r O 15 k
          by_cases e : r = k
          · subst e
            rw [zl_14, zl_15, decide_eq_true (by omega), Bool.or_true]
            exact ⟨fun _ => by omega, fun _ => rfl⟩
          · rw [zl_o (by omega), zl_o (by omega), decide_eq_false (by omega), Bool.or_false]
            exact k4 k hk
        · rw [y1c 32 (by omega)]; exact w1
        · rw [y1c 33 (by omega), w2]
          show kn' = zlaw Z r O 0 9
          rw [zl_9]; omega
end RLW
