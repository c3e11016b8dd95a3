/-! TEXT: all lines; the class -/
def pSF (b : Nat → Int) (n : Nat) : Nat → MS → Nat → Nat → Nat → PE (MS × Nat × Nat)
  | 0, _, _, _, _ => .inl (1, 0)
  | f + 1, Z, ts, L, a => if (tok b n a).1 = 39 then .inr (Z, ts, L) else match pL b n Z ts (tok b n a) with
    | .inl q => .inl q
    | .inr z => pSF b n f z.1.1 z.2 (L + 1) z.1.2
section PLO
variable {n a ts : Nat} {b : Nat → Int} {Z : MS}
theorem lb_zp {x : Nat} {k v : Int} (h : LB Z) (hx : x ≠ 15 ∧ (x ≠ 0 ∨ k.toNat ≠ 9)) : LB (zp Z x k v) := fun r h0 h1 => by
  rw [zp_ne (by omega), zp_ne (by omega)]
  exact h r h0 h1
theorem tok_nn (b : Nat → Int) (n a : Nat) : 0 ≤ (tok b n a).1 := by
  unfold tok
  generalize rn blk b n a = p
  by_cases c0 : n ≤ p
  · rw [if_pos c0]; show (0 : Int) ≤ 39; decide
  rw [if_neg c0]
  by_cases c1 : ltr (b p) = true
  · rw [if_pos c1]
    by_cases c2 : 6 < rn ltr b n p - p
    · rw [if_pos c2]; show (0 : Int) ≤ 38; decide
    · rw [if_neg c2]; exact (wkd_bd _).1
  rw [if_neg c1]
  by_cases c2 : dgt (b p) = true
  · rw [if_pos c2]; show (0 : Int) ≤ 24; decide
  · rw [if_neg c2]; have := sg2_bd (b := b) (n := n) p; show 0 ≤ (sg2 b n p).1; omega
theorem bnd_inr {α β : Type} {x : PE α} {f : α → PE β} {z : β} (h : bnd x f = .inr z) : ∃ y, x = .inr y ∧ f y = .inr z := by
  cases x with
  | inl e => cases h
  | inr y => exact ⟨y, rfl, h⟩
theorem tk_gt (ha : a ≤ n) (h : (tok b n a).1 ≠ 39) : a < (tok b n a).2.2.2 ∧ (tok b n a).2.2.2 ≤ n := by
  have t := tok_bd (b := b) ha
  have := t.2.2.2 h
  exact ⟨by omega, t.2.2.1⟩
theorem nN_at {f : Nat → Int} {k : Nat} {q : Int × Nat} (ha : a ≤ n) (h : nN b n f k a = .inr q) : a < q.2 ∧ q.2 ≤ n := by
  obtain ⟨g1, _, rfl⟩ := nN_inr h
  exact tk_gt ha (by omega)
theorem oN_at {f : Nat → Int} {k : Nat} {q : Int × Nat} (ha : a ≤ n) (h : oN b n f k a = .inr q) : a < q.2 ∧ q.2 ≤ n := by
  obtain ⟨g1, _, rfl⟩ := oN_inr h
  exact tk_gt ha (by omega)
theorem nU_at {lo hi : Int} {q : Int × Nat} (ha : a ≤ n) (h : nU b n lo hi a = .inr q) : (a < q.2 ∧ q.2 ≤ n) ∧ lo ≤ q.1 ∧ q.1 ≤ hi := by
  obtain ⟨g1, g2, rfl⟩ := nU_inr h
  exact ⟨tk_gt ha (by omega), g2⟩
theorem lE_at {a' : Nat} (ha : a ≤ n) (h : lE b n a = .inr a') : a < a' ∧ a' ≤ n := by
  obtain ⟨g1, rfl⟩ := lE_inr h
  exact tk_gt ha (by omega)
theorem pL_ok (hS : SI Z) (hl : LB Z) {z : (MS × Nat) × Nat} (ha : a ≤ n) (h39 : (tok b n a).1 ≠ 39) (h : pL b n Z ts (tok b n a) = .inr z) : SI z.1.1 ∧ LB z.1.1 ∧ a < z.1.2 ∧ z.1.2 ≤ n := by
  have hg := tk_gt (b := b) ha h39
  have t0 := tok_nn b n a
  generalize tok b n a = t at *
  have b0 := hS.1
  have b1 := hS.2.1
  unfold pL at h
  by_cases c0 : t.1 = 0
  · rw [if_pos c0] at h
    obtain ⟨y, h1, h2⟩ := bnd_inr h
    cases h2
    unfold pMan at h1
    by_cases q : 7 ≤ Z 0 0
    · rw [if_pos q] at h1; cases h1
    rw [if_neg q] at h1
    obtain ⟨q1, i1, h1⟩ := bnd_inr h1
    obtain ⟨q2, i2, h1⟩ := bnd_inr h1
    obtain ⟨q3, i3, h1⟩ := bnd_inr h1
    cases h1
    have j1 := nN_at hg.2 i1
    have j2 := nU_at j1.2 i2
    have j3 := lE_at j2.1.2 i3
    exact ⟨si_man hS (by omega) j2.2, lb_zp (lb_zp (lb_zp hl (by omega)) (by omega)) (by simp), by show a < q3; omega, j3.2⟩
  rw [if_neg c0] at h
  by_cases c1 : t.1 = 1
  · rw [if_pos c1] at h
    obtain ⟨y, h1, h2⟩ := bnd_inr h
    cases h2
    unfold pThing at h1
    by_cases q : 6 ≤ Z 0 1
    · rw [if_pos q] at h1; cases h1
    rw [if_neg q] at h1
    obtain ⟨q1, i1, h1⟩ := bnd_inr h1
    obtain ⟨q2, i2, h1⟩ := bnd_inr h1
    obtain ⟨q4, i4, h1⟩ := bnd_inr h1
    obtain ⟨q3, i3, h1⟩ := bnd_inr h1
    cases h1
    have j1 := nN_at hg.2 i1
    have j2 := nU_at j1.2 i2
    have j4 := nU_at j2.1.2 i4
    have j3 := lE_at j4.1.2 i3
    exact ⟨si_thing hS (by omega) j2.2 j4.2, lb_zp (lb_zp (lb_zp (lb_zp hl (by omega)) (by omega)) (by omega)) (by simp), by show a < q3; omega, j3.2⟩
  rw [if_neg c1] at h
  by_cases c2 : t.1 = 2
  · rw [if_pos c2] at h
    obtain ⟨y, h1, h2⟩ := bnd_inr h
    cases h2
    unfold pSees at h1
    by_cases q : 10 ≤ Z 0 2
    · rw [if_pos q] at h1; cases h1
    rw [if_neg q] at h1
    obtain ⟨q1, i1, h1⟩ := bnd_inr h1
    obtain ⟨q2, i2, h1⟩ := bnd_inr h1
    have h1 : (if seeB Z q1.1 q2.1 (Z 0 2).toNat 0 = true then _ else _) = _ := h1
    by_cases q5 : seeB Z q1.1 q2.1 (Z 0 2).toNat 0 = true
    · rw [if_pos q5] at h1; cases h1
    rw [if_neg q5] at h1
    obtain ⟨q3, i3, h1⟩ := bnd_inr h1
    cases h1
    have j1 := oN_at hg.2 i1
    have j2 := oN_at j1.2 i2
    have j3 := lE_at j2.2 i3
    have k1 := oN_bd i1
    have k2 := oN_bd i2
    exact ⟨si_sees hS (by omega) (by omega) (by omega), lb_zp (lb_zp (lb_zp hl (by omega)) (by omega)) (by simp), by show a < q3; omega, j3.2⟩
  rw [if_neg c2] at h
  by_cases c3 : t.1 = 3
  · rw [if_pos c3] at h
    obtain ⟨y, h1, h2⟩ := bnd_inr h
    cases h2
    unfold pWay at h1
    by_cases q : 12 ≤ Z 0 3
    · rw [if_pos q] at h1; cases h1
    rw [if_neg q] at h1
    obtain ⟨q1, i1, h1⟩ := bnd_inr h1
    obtain ⟨q2, i2, h1⟩ := bnd_inr h1
    have h1 : (if q2.1 = q1.1 then _ else _) = _ := h1
    by_cases q5 : q2.1 = q1.1
    · rw [if_pos q5] at h1; cases h1
    rw [if_neg q5] at h1
    obtain ⟨q4, i4, h1⟩ := bnd_inr h1
    obtain ⟨q3, i3, h1⟩ := bnd_inr h1
    cases h1
    have j1 := oN_at hg.2 i1
    have j2 := oN_at j1.2 i2
    have j4 := nU_at j2.2 i4
    have j3 := lE_at j4.1.2 i3
    have k1 := oN_bd i1
    have k2 := oN_bd i2
    exact ⟨si_way hS (by omega) (by omega) (by omega) (fun e => q5 e.symm) j4.2, lb_zp (lb_zp (lb_zp (lb_zp hl (by omega)) (by omega)) (by omega)) (by simp), by show a < q3; omega, j3.2⟩
  rw [if_neg c3] at h
  by_cases c4 : t.1 = 4
  · rw [if_pos c4] at h
    obtain ⟨y, h1, h2⟩ := bnd_inr h
    cases h2
    unfold pTell at h1
    by_cases q : 12 ≤ Z 0 4
    · rw [if_pos q] at h1; cases h1
    rw [if_neg q] at h1
    obtain ⟨q1, i1, h1⟩ := bnd_inr h1
    obtain ⟨q2, i2, h1⟩ := bnd_inr h1
    obtain ⟨q4, i4, h1⟩ := bnd_inr h1
    obtain ⟨q3, i3, h1⟩ := bnd_inr h1
    cases h1
    have j1 := oN_at hg.2 i1
    have j2 := oN_at j1.2 i2
    have j4 := nU_at j2.2 i4
    have j3 := lE_at j4.1.2 i3
    have k1 := oN_bd i1
    have k2 := oN_bd i2
    exact ⟨si_tell hS (by omega) (by omega) (by omega) j4.2, lb_zp (lb_zp (lb_zp (lb_zp hl (by omega)) (by omega)) (by omega)) (by simp), by show a < q3; omega, j3.2⟩
  rw [if_neg c4] at h
  by_cases c5 : 5 ≤ t.1 ∧ t.1 ≤ 8
  · rw [if_pos c5] at h
    obtain ⟨y, h1, h2⟩ := bnd_inr h
    cases h2
    obtain ⟨s, hs5⟩ : ∃ s : Nat, t.1 - 5 = (s : Int) := ⟨(t.1 - 5).toNat, by omega⟩
    rw [hs5] at h1
    unfold pSet at h1
    by_cases q : ts.testBit ((s : Int)).toNat = true
    · rw [if_pos q] at h1; cases h1
    rw [if_neg q] at h1
    obtain ⟨q1, i1, h1⟩ := bnd_inr h1
    obtain ⟨q3, i3, h1⟩ := bnd_inr h1
    cases h1
    have j1 := nU_at hg.2 i1
    have j3 := lE_at j1.1.2 i3
    exact ⟨si_set hS (by omega) j1.2, lb_zp hl (by omega), by show a < q3; omega, j3.2⟩
  rw [if_neg c5] at h
  by_cases c9 : t.1 = 9
  · rw [if_pos c9] at h
    obtain ⟨y, h1, h2⟩ := bnd_inr h
    cases h2
    unfold pLaw at h1
    by_cases q : (tok b n t.2.2.2).1 < 10 ∨ 12 < (tok b n t.2.2.2).1
    · rw [if_pos q] at h1; cases h1
    rw [if_neg q] at h1
    have g2 := tk_gt (b := b) hg.2 (by omega)
    generalize tok b n t.2.2.2 = t' at *
    by_cases q2 : Z 14 (t'.1 - 10) < Z 15 (t'.1 - 10)
    · rw [if_pos q2] at h1; cases h1
    rw [if_neg q2] at h1
    obtain ⟨q1, i1, h1⟩ := bnd_inr h1
    cases h1
    obtain ⟨B, hB⟩ := Int.eq_ofNat_of_zero_le hS.2.2.2.2.2.2.2.2.2.1.1
    have hB64 := hS.2.2.2.2.2.2.2.2.2.1.2
    obtain ⟨y1, y2, y3, y4, y5, y6⟩ := sy_ok (B := B) 701 t'.2.2.2 true ([], 0, Z 0 9, []) q1 g2.2 ⟨by show Z 0 9 = ((B + 0 + 0 : Nat) : Int); omega, rfl, hB64, by show 0 ≤ 8; omega⟩ (fun k hk => by cases hk) ⟨rfl, fun x hx => by cases hx⟩ i1
    have z := si_law hS hl (r := t'.1 - 10) (by omega) (by omega) (o := q1.1) (by omega) y3 y4
    exact ⟨z.1, z.2, by show a < q1.2.2; omega, y6⟩
  · rw [if_neg c9] at h; cases h
end PLO
section XST
variable {cs : Nat × Nat × Nat} {d n c : Nat} {b : Nat → Int}
def FX2 (c : Nat) (μ μ' : Nat → Nat → Int) : Prop := ∀ q k, ¬ ((q = 41 ∧ 3 ≤ k ∧ k ≤ 6) ∨ (q = 40 ∧ 3 ≤ k ∧ k ≤ 7) ∨ (c ≤ q ∧ q < c + 19) ∨ q = 44 ∨ q = 45) → μ' q k = μ q k
theorem fx2_tr {x y z : Nat → Nat → Int} (h1 : FX2 c x y) (h2 : FX2 c y z) : FX2 c x z := fun q k h => (h2 q k h).trans (h1 q k h)
theorem fx2_x {x y : Nat → Nat → Int} (h : FX c x y) : FX2 c x y := fun q k hq => h q k (by omega)
theorem fx2_up {μ μ' : Nat → Nat → Int} {k : Nat} {v : Int} (h1 : FX2 c μ μ') (h : 3 ≤ k ∧ k ≤ 7) : FX2 c μ (am_up μ' 40 k v) := fun q' k' h' => by
  rw [am_up_no (fun e => h' (by omega))]
  exact h1 q' k' h'
def XSt (ρ : Nat → Nat → Nat) (cs : Nat × Nat × Nat) (c : Nat) (μ : Nat → Nat → Int) (run : Option am_Res) (x : PE (MS × Nat × Nat)) : Prop := ∃ ρ' μ', FP ρ ρ' ∧ FX2 c μ μ' ∧ match x with
  | .inl q => μ' 40 6 = q.1 ∧ μ' 40 7 = (q.2 : Int) ∧ run = some (some (.inl (-1)), (SH, ρ', μ', cs))
  | .inr z => XS μ' c z.1 ∧ μ' 40 6 = 0 ∧ μ' 40 7 = -1 ∧ run = some (some (.inl (z.2.2 : Int)), (SH, ρ', μ', cs))
theorem X_story (hb : c = 2 ∨ c = 21) {x2 : Int} : ∀ (f : Nat) (Z : MS) (ts L a : Nat) {ρ : Nat → Nat → Nat} {μ : Nat → Nat → Int}, n - a + 1 ≤ f → L ≤ a → a ≤ n → XM ρ → ρ 40 2 = c → XTk ρ μ b n (tok b n a).2.2.2 → XK μ (tok b n a) → XP μ c Z ts → SI Z → LB Z → (∀ s : Nat, s < 4 → μ 1000002 s = mxS s) → μ 40 6 = 0 → XSt ρ cs c μ (am_E (d + 8) 35 46 [some (.inr (.inr 40)), some (.inr (.inr 1)), some (.inl x2), some (.inr (.inr c)), some (.inl (L : Int))] [] (SH, ρ, μ, cs)) (pSF b n f Z ts L a) := by
  intro f
  induction f with
  | zero => intro Z ts L a ρ μ h; omega
  | succ f ih =>
    intro Z ts L a ρ μ hf hLa ha hx hs hT hK hP hS hl hM h6
    have hn : n ≤ 700 := hT.2.1
    have k4 := hK.1
    have epS : pSF b n (f + 1) Z ts L a = if (tok b n a).1 = 39 then .inr (Z, ts, L) else match pL b n Z ts (tok b n a) with
      | .inl q => .inl q
      | .inr z => pSF b n f z.1.1 z.2 (L + 1) z.1.2 := rfl
    rw [epS]
    by_cases c39 : (tok b n a).1 = 39
    · rw [if_pos c39]
      rw [c39] at k4
      refine ⟨ρ, am_up μ 40 7 (-1), fun _ _ _ => rfl, fx2_up (fun _ _ _ => rfl) (by omega), ?_, ?_, up_eq, ?_⟩
      · exact xs_fr hP.1 (fun q k q0 q1 => up_p (by omega))
      · rw [up_k (by omega)]; exact h6
      · by_cases q : 700 ≤ L
        · rw [e35_46]; simp (disch := omega) only [xk_0, xk_1, xk_40, xk_41, xk_42, xk_43, xk_44, xk_45, xk_46, xk_47, xk_48, xk_49, xk_50, xk_51, xk_52, xk_53, xk_54, xk_55, xk_56, xk_57, xk_58, xk_59, xk_60, xk_61, xk_62, xk_63, xk_64, xk_65, xk_66, xk_67, xk_68, xk_69, xk_70, xk_71, xk_72, xk_73, xk_74, xk_75, xk_76, xk_77, xk_78, xk_79, xk_80, xk_81, xk_82, xk_83, xk_84, xk_85, xk_86, xk_87, xk_88, xk_89, xk_90, xk_91, xk_92, xk_93, xk_94, xk_95, xk_96, xk_97, xk_98, xk_st0 hb, xk_st1 hb, xk_st10 hb, xk_st11 hb, xk_st12 hb, xk_st13 hb, xk_st14 hb, xk_st15 hb, xk_st16 hb, xk_st17 hb, xk_st18 hb, xk_st2 hb, xk_st3 hb, xk_st4 hb, xk_st5 hb, xk_st6 hb, xk_st7 hb, xk_st8 hb, xk_st9 hb, xm_0_0 hx, xm_0_10 hx, xm_0_11 hx, xm_0_12 hx, xm_0_13 hx, xm_0_14 hx, xm_0_15 hx, xm_0_2 hx, xm_0_9 hx, xm_40_0 hx, xm_40_1 hx, xm_41_0 hx, xm_44_0 hx, xm_44_1 hx, xm_73_4 hx, xm_73_5 hx, xm_73_6 hx, xm_77_1 hx, xm_77_2 hx, xm_77_3 hx, xm_77_4 hx, xm_77_5 hx, xm_77_6 hx, xm_77_7 hx, xm_77_8 hx, xm_77_9 hx, xm_87_2 hx, xm_87_3 hx, xm_87_4 hx, xm_87_5 hx, xm_87_6 hx, xm_87_7 hx, xm_87_8 hx, xm_lw2 hx hb, xm_lw3 hx hb, xm_lw4 hx hb, xm_lw5 hx hb, xm_st1 hx hb, xm_st10 hx hb, xm_st11 hx hb, xm_st13 hx hb, xm_st14 hx hb, xm_st15 hx hb, xm_st16 hx hb, xm_st17 hx hb, xm_st2 hx hb, xm_st4 hx hb, xm_st5 hx hb, xm_st6 hx hb, xm_st7 hx hb, xm_st9 hx hb, ite_self, Bool.false_eq_true, eq_self, isk_t, i20_t, w20_t, l23_t, b21_t, b22_t, w_t, bif_t, bif_f, bif_d, if_pos, if_neg, if_true, if_false, not_true_eq_false, not_false_eq_true, Option.bind_some, Option.toList_some, Option.toList_none, List.cons_append, List.nil_append, Int.toNat_natCast, Int.reduceToNat, up_eq, up_p, up_k, sN,  h6 ]
        · rw [e35_46]; simp (disch := omega) only [xk_0, xk_1, xk_40, xk_41, xk_42, xk_43, xk_44, xk_45, xk_46, xk_47, xk_48, xk_49, xk_50, xk_51, xk_52, xk_53, xk_54, xk_55, xk_56, xk_57, xk_58, xk_59, xk_60, xk_61, xk_62, xk_63, xk_64, xk_65, xk_66, xk_67, xk_68, xk_69, xk_70, xk_71, xk_72, xk_73, xk_74, xk_75, xk_76, xk_77, xk_78, xk_79, xk_80, xk_81, xk_82, xk_83, xk_84, xk_85, xk_86, xk_87, xk_88, xk_89, xk_90, xk_91, xk_92, xk_93, xk_94, xk_95, xk_96, xk_97, xk_98, xk_st0 hb, xk_st1 hb, xk_st10 hb, xk_st11 hb, xk_st12 hb, xk_st13 hb, xk_st14 hb, xk_st15 hb, xk_st16 hb, xk_st17 hb, xk_st18 hb, xk_st2 hb, xk_st3 hb, xk_st4 hb, xk_st5 hb, xk_st6 hb, xk_st7 hb, xk_st8 hb, xk_st9 hb, xm_0_0 hx, xm_0_10 hx, xm_0_11 hx, xm_0_12 hx, xm_0_13 hx, xm_0_14 hx, xm_0_15 hx, xm_0_2 hx, xm_0_9 hx, xm_40_0 hx, xm_40_1 hx, xm_41_0 hx, xm_44_0 hx, xm_44_1 hx, xm_73_4 hx, xm_73_5 hx, xm_73_6 hx, xm_77_1 hx, xm_77_2 hx, xm_77_3 hx, xm_77_4 hx, xm_77_5 hx, xm_77_6 hx, xm_77_7 hx, xm_77_8 hx, xm_77_9 hx, xm_87_2 hx, xm_87_3 hx, xm_87_4 hx, xm_87_5 hx, xm_87_6 hx, xm_87_7 hx, xm_87_8 hx, xm_lw2 hx hb, xm_lw3 hx hb, xm_lw4 hx hb, xm_lw5 hx hb, xm_st1 hx hb, xm_st10 hx hb, xm_st11 hx hb, xm_st13 hx hb, xm_st14 hx hb, xm_st15 hx hb, xm_st16 hx hb, xm_st17 hx hb, xm_st2 hx hb, xm_st4 hx hb, xm_st5 hx hb, xm_st6 hx hb, xm_st7 hx hb, xm_st9 hx hb, ite_self, Bool.false_eq_true, eq_self, isk_t, i20_t, w20_t, l23_t, b21_t, b22_t, w_t, bif_t, bif_f, bif_d, if_pos, if_neg, if_true, if_false, not_true_eq_false, not_false_eq_true, Option.bind_some, Option.toList_some, Option.toList_none, List.cons_append, List.nil_append, Int.toNat_natCast, Int.reduceToNat, up_eq, up_p, up_k, sN,  h6, k4 ]
    · rw [if_neg c39]
      have hL7 : L < 700 := by
        rcases Nat.lt_or_ge a n with q | q
        · omega
        · exfalso
          refine c39 ?_
          unfold tok
          rw [rn_no (by omega), if_pos q]
      have hz := X_line (d := d) (cs := cs) hx hb hs hT hK hP hS hl hM (tok_nn b n a)
      obtain ⟨ρ1, μ1, f0, f1, f2⟩ := hz
      cases hp : pL b n Z ts (tok b n a) with
      | inl q =>
        rw [hp] at f2
        obtain ⟨z1, z2, z3⟩ := f2
        have hx1 : XM ρ1 := xm_t hx (fun p k h1 _ _ _ => f0 p k h1)
        refine ⟨ρ1, am_up (am_up μ1 40 6 q.1) 40 7 q.2, f0, fx2_up (fx2_up (fx2_x f1) (by omega)) (by omega), by rw [up_k (by omega), up_eq], up_eq, ?_⟩
        have hx0 := hx
        have e1 : am_E (d + 8) 35 46 [some (.inr (.inr 40)), some (.inr (.inr 1)), some (.inl x2), some (.inr (.inr c)), some (.inl (L : Int))] [] (SH, ρ, μ, cs) = am_E (d + 8) 35 81 [some (.inr (.inr 40)), some (.inr (.inr 1)), some (.inl x2), some (.inr (.inr c)), some (.inl (L : Int))] [] (SH, ρ1, am_up μ1 40 6 q.1, cs) := by
          generalize q.1 = Q at *
          rw [e35_46]; simp (disch := omega) only [e35_78, xk_0, xk_1, xk_40, xk_41, xk_42, xk_43, xk_44, xk_45, xk_46, xk_47, xk_48, xk_49, xk_50, xk_51, xk_52, xk_53, xk_54, xk_55, xk_56, xk_57, xk_58, xk_59, xk_60, xk_61, xk_62, xk_63, xk_64, xk_65, xk_66, xk_67, xk_68, xk_69, xk_70, xk_71, xk_72, xk_73, xk_74, xk_75, xk_76, xk_77, xk_78, xk_79, xk_80, xk_81, xk_82, xk_83, xk_84, xk_85, xk_86, xk_87, xk_88, xk_89, xk_90, xk_91, xk_92, xk_93, xk_94, xk_95, xk_96, xk_97, xk_98, xk_st0 hb, xk_st1 hb, xk_st10 hb, xk_st11 hb, xk_st12 hb, xk_st13 hb, xk_st14 hb, xk_st15 hb, xk_st16 hb, xk_st17 hb, xk_st18 hb, xk_st2 hb, xk_st3 hb, xk_st4 hb, xk_st5 hb, xk_st6 hb, xk_st7 hb, xk_st8 hb, xk_st9 hb, xm_0_0 hx, xm_0_10 hx, xm_0_11 hx, xm_0_12 hx, xm_0_13 hx, xm_0_14 hx, xm_0_15 hx, xm_0_2 hx, xm_0_9 hx, xm_40_0 hx, xm_40_1 hx, xm_41_0 hx, xm_44_0 hx, xm_44_1 hx, xm_73_4 hx, xm_73_5 hx, xm_73_6 hx, xm_77_1 hx, xm_77_2 hx, xm_77_3 hx, xm_77_4 hx, xm_77_5 hx, xm_77_6 hx, xm_77_7 hx, xm_77_8 hx, xm_77_9 hx, xm_87_2 hx, xm_87_3 hx, xm_87_4 hx, xm_87_5 hx, xm_87_6 hx, xm_87_7 hx, xm_87_8 hx, xm_lw2 hx hb, xm_lw3 hx hb, xm_lw4 hx hb, xm_lw5 hx hb, xm_st1 hx hb, xm_st10 hx hb, xm_st11 hx hb, xm_st13 hx hb, xm_st14 hx hb, xm_st15 hx hb, xm_st16 hx hb, xm_st17 hx hb, xm_st2 hx hb, xm_st4 hx hb, xm_st5 hx hb, xm_st6 hx hb, xm_st7 hx hb, xm_st9 hx hb, ite_self, Bool.false_eq_true, eq_self, isk_t, i20_t, w20_t, l23_t, b21_t, b22_t, w_t, bif_t, bif_f, bif_d, if_pos, if_neg, if_true, if_false, not_true_eq_false, not_false_eq_true, Option.bind_some, Option.toList_some, Option.toList_none, List.cons_append, List.nil_append, Int.toNat_natCast, Int.reduceToNat, up_eq, up_p, up_k, sN,  h6, k4, c39, z3 ]
        rw [e1]
        clear hx0 hx
        have hx := hx1
        generalize q.1 = Q at *
        have z1' : μ1 41 6 = (q.2 : Int) := z1
        have e2 : am_E (d + 8) 35 81 [some (.inr (.inr 40)), some (.inr (.inr 1)), some (.inl x2), some (.inr (.inr c)), some (.inl (L : Int))] [] (SH, ρ1, am_up μ1 40 6 Q, cs) = am_E (d + 8) 35 46 [some (.inr (.inr 40)), some (.inr (.inr 1)), some (.inl x2), some (.inr (.inr c)), some (.inl (L : Int))] [] (SH, ρ1, am_up μ1 40 6 Q, cs) := by
          rw [e35_81]
          simp (disch := omega) only [xm_st1 hx hb, xm_st2 hx hb, xm_st4 hx hb, xm_st5 hx hb, xm_st6 hx hb, xm_st7 hx hb, xm_st9 hx hb, xm_st10 hx hb, xm_st11 hx hb, xm_st13 hx hb, xm_st14 hx hb, xm_st15 hx hb, xm_st16 hx hb, xm_st17 hx hb, xm_lw2 hx hb, xm_lw3 hx hb, xm_lw4 hx hb, xm_lw5 hx hb, xk_st0 hb, xk_st1 hb, xk_st2 hb, xk_st3 hb, xk_st4 hb, xk_st5 hb, xk_st6 hb, xk_st7 hb, xk_st8 hb, xk_st9 hb, xk_st10 hb, xk_st11 hb, xk_st12 hb, xk_st13 hb, xk_st14 hb, xk_st15 hb, xk_st16 hb, xk_st17 hb, xk_st18 hb, xm_0_0 hx, xm_0_2 hx, xm_0_9 hx, xm_0_10 hx, xm_0_11 hx, xm_0_12 hx, xm_0_13 hx, xm_0_14 hx, xm_0_15 hx, xm_40_0 hx, xm_40_1 hx, xm_41_0 hx, xm_44_0 hx, xm_44_1 hx, xm_73_4 hx, xm_73_5 hx, xm_73_6 hx, xm_77_1 hx, xm_77_2 hx, xm_77_3 hx, xm_77_4 hx, xm_77_5 hx, xm_77_6 hx, xm_77_7 hx, xm_77_8 hx, xm_77_9 hx, xm_87_2 hx, xm_87_3 hx, xm_87_4 hx, xm_87_5 hx, xm_87_6 hx, xm_87_7 hx, xm_87_8 hx, xk_0, xk_1, xk_40, xk_41, xk_42, xk_43, xk_44, xk_45, xk_46, xk_47, xk_48, xk_49, xk_50, xk_51, xk_52, xk_53, xk_54, xk_55, xk_56, xk_57, xk_58, xk_59, xk_60, xk_61, xk_62, xk_63, xk_64, xk_65, xk_66, xk_67, xk_68, xk_69, xk_70, xk_71, xk_72, xk_73, xk_74, xk_75, xk_76, xk_77, xk_78, xk_79, xk_80, xk_81, xk_82, xk_83, xk_84, xk_85, xk_86, xk_87, xk_88, xk_89, xk_90, xk_91, xk_92, xk_93, xk_94, xk_95, xk_96, xk_97, xk_98, ite_self, Bool.false_eq_true, eq_self, isk_t, i20_t, w20_t, l23_t, b21_t, b22_t, w_t, bif_t, bif_f, bif_d, if_pos, if_neg, if_true, if_false, not_true_eq_false, not_false_eq_true, Option.bind_some, Option.toList_some, Option.toList_none, List.cons_append, List.nil_append, Int.toNat_natCast, Int.reduceToNat, up_eq, up_p, up_k, sN,  z2 ]
        rw [e2]
        rw [e35_46]; simp (disch := omega) only [xk_0, xk_1, xk_40, xk_41, xk_42, xk_43, xk_44, xk_45, xk_46, xk_47, xk_48, xk_49, xk_50, xk_51, xk_52, xk_53, xk_54, xk_55, xk_56, xk_57, xk_58, xk_59, xk_60, xk_61, xk_62, xk_63, xk_64, xk_65, xk_66, xk_67, xk_68, xk_69, xk_70, xk_71, xk_72, xk_73, xk_74, xk_75, xk_76, xk_77, xk_78, xk_79, xk_80, xk_81, xk_82, xk_83, xk_84, xk_85, xk_86, xk_87, xk_88, xk_89, xk_90, xk_91, xk_92, xk_93, xk_94, xk_95, xk_96, xk_97, xk_98, xk_st0 hb, xk_st1 hb, xk_st10 hb, xk_st11 hb, xk_st12 hb, xk_st13 hb, xk_st14 hb, xk_st15 hb, xk_st16 hb, xk_st17 hb, xk_st18 hb, xk_st2 hb, xk_st3 hb, xk_st4 hb, xk_st5 hb, xk_st6 hb, xk_st7 hb, xk_st8 hb, xk_st9 hb, xm_0_0 hx, xm_0_10 hx, xm_0_11 hx, xm_0_12 hx, xm_0_13 hx, xm_0_14 hx, xm_0_15 hx, xm_0_2 hx, xm_0_9 hx, xm_40_0 hx, xm_40_1 hx, xm_41_0 hx, xm_44_0 hx, xm_44_1 hx, xm_73_4 hx, xm_73_5 hx, xm_73_6 hx, xm_77_1 hx, xm_77_2 hx, xm_77_3 hx, xm_77_4 hx, xm_77_5 hx, xm_77_6 hx, xm_77_7 hx, xm_77_8 hx, xm_77_9 hx, xm_87_2 hx, xm_87_3 hx, xm_87_4 hx, xm_87_5 hx, xm_87_6 hx, xm_87_7 hx, xm_87_8 hx, xm_lw2 hx hb, xm_lw3 hx hb, xm_lw4 hx hb, xm_lw5 hx hb, xm_st1 hx hb, xm_st10 hx hb, xm_st11 hx hb, xm_st13 hx hb, xm_st14 hx hb, xm_st15 hx hb, xm_st16 hx hb, xm_st17 hx hb, xm_st2 hx hb, xm_st4 hx hb, xm_st5 hx hb, xm_st6 hx hb, xm_st7 hx hb, xm_st9 hx hb, ite_self, Bool.false_eq_true, eq_self, isk_t, i20_t, w20_t, l23_t, b21_t, b22_t, w_t, bif_t, bif_f, bif_d, if_pos, if_neg, if_true, if_false, not_true_eq_false, not_false_eq_true, Option.bind_some, Option.toList_some, Option.toList_none, List.cons_append, List.nil_append, Int.toNat_natCast, Int.reduceToNat, up_eq, up_p, up_k, sN,  z2, z1' ]
      | inr z =>
        rw [hp] at f2
        obtain ⟨z1, z2, z3⟩ := f2
        have hx1 : XM ρ1 := xm_t hx (fun p k h1 _ _ _ => f0 p k h1)
        obtain ⟨w1, w2, w3, w4⟩ := pL_ok hS hl ha c39 hp
        have hT1 : XTk ρ1 (am_up μ1 40 6 0) b n z.1.2 := xt_up z1 (by omega)
        obtain ⟨μ2, g1, g2, g3, g4⟩ := X_next (d := d + 5) (cs := cs) hx1 hT1
        have hP2 : XP μ2 c z.1.1 z.2 := by
          obtain ⟨p1, p2, p3, p4, p5⟩ := z2
          refine ⟨xs_fr p1 (fun q k q0 q1 => by rw [g1 _ _ (by omega), up_p (by omega)]), ?_, ?_, p4, ?_⟩
          · rw [g1 _ _ (by omega), up_k (by omega)]; exact p2
          · rw [g1 _ _ (by omega), up_k (by omega)]; exact p3
          · rw [g1 _ _ (by omega), up_p (by omega)]; exact p5
        have hz := ih z.1.1 z.2 (L + 1) z.1.2 (ρ := ρ1) (μ := μ2) (by omega) (by omega) w4 hx1 (by rw [f0 _ _ (by omega)]; exact hs) g2 g3 hP2 w1 w2 (fun s hs4 => by rw [g1 _ _ (by omega), up_p (by omega), f1 _ _ (by omega)]; exact hM s hs4) (by rw [g1 _ _ (by omega), up_eq])
        obtain ⟨ρ3, μ3, r0, r1, r2⟩ := hz
        have e1 : am_E (d + 8) 35 46 [some (.inr (.inr 40)), some (.inr (.inr 1)), some (.inl x2), some (.inr (.inr c)), some (.inl (L : Int))] [] (SH, ρ, μ, cs) = am_E (d + 8) 35 81 [some (.inr (.inr 40)), some (.inr (.inr 1)), some (.inl x2), some (.inr (.inr c)), some (.inl (L : Int))] [] (SH, ρ1, am_up μ1 40 6 0, cs) := by
          rw [e35_46]; simp (disch := omega) only [e35_78, xk_0, xk_1, xk_40, xk_41, xk_42, xk_43, xk_44, xk_45, xk_46, xk_47, xk_48, xk_49, xk_50, xk_51, xk_52, xk_53, xk_54, xk_55, xk_56, xk_57, xk_58, xk_59, xk_60, xk_61, xk_62, xk_63, xk_64, xk_65, xk_66, xk_67, xk_68, xk_69, xk_70, xk_71, xk_72, xk_73, xk_74, xk_75, xk_76, xk_77, xk_78, xk_79, xk_80, xk_81, xk_82, xk_83, xk_84, xk_85, xk_86, xk_87, xk_88, xk_89, xk_90, xk_91, xk_92, xk_93, xk_94, xk_95, xk_96, xk_97, xk_98, xk_st0 hb, xk_st1 hb, xk_st10 hb, xk_st11 hb, xk_st12 hb, xk_st13 hb, xk_st14 hb, xk_st15 hb, xk_st16 hb, xk_st17 hb, xk_st18 hb, xk_st2 hb, xk_st3 hb, xk_st4 hb, xk_st5 hb, xk_st6 hb, xk_st7 hb, xk_st8 hb, xk_st9 hb, xm_0_0 hx, xm_0_10 hx, xm_0_11 hx, xm_0_12 hx, xm_0_13 hx, xm_0_14 hx, xm_0_15 hx, xm_0_2 hx, xm_0_9 hx, xm_40_0 hx, xm_40_1 hx, xm_41_0 hx, xm_44_0 hx, xm_44_1 hx, xm_73_4 hx, xm_73_5 hx, xm_73_6 hx, xm_77_1 hx, xm_77_2 hx, xm_77_3 hx, xm_77_4 hx, xm_77_5 hx, xm_77_6 hx, xm_77_7 hx, xm_77_8 hx, xm_77_9 hx, xm_87_2 hx, xm_87_3 hx, xm_87_4 hx, xm_87_5 hx, xm_87_6 hx, xm_87_7 hx, xm_87_8 hx, xm_lw2 hx hb, xm_lw3 hx hb, xm_lw4 hx hb, xm_lw5 hx hb, xm_st1 hx hb, xm_st10 hx hb, xm_st11 hx hb, xm_st13 hx hb, xm_st14 hx hb, xm_st15 hx hb, xm_st16 hx hb, xm_st17 hx hb, xm_st2 hx hb, xm_st4 hx hb, xm_st5 hx hb, xm_st6 hx hb, xm_st7 hx hb, xm_st9 hx hb, ite_self, Bool.false_eq_true, eq_self, isk_t, i20_t, w20_t, l23_t, b21_t, b22_t, w_t, bif_t, bif_f, bif_d, if_pos, if_neg, if_true, if_false, not_true_eq_false, not_false_eq_true, Option.bind_some, Option.toList_some, Option.toList_none, List.cons_append, List.nil_append, Int.toNat_natCast, Int.reduceToNat, up_eq, up_p, up_k, sN,  h6, k4, c39, z3 ]
        have e2 : am_E (d + 8) 35 81 [some (.inr (.inr 40)), some (.inr (.inr 1)), some (.inl x2), some (.inr (.inr c)), some (.inl (L : Int))] [] (SH, ρ1, am_up μ1 40 6 0, cs) = am_E (d + 8) 35 46 [some (.inr (.inr 40)), some (.inr (.inr 1)), some (.inl x2), some (.inr (.inr c)), some (.inl ((L + 1 : Nat) : Int))] [] (SH, ρ1, μ2, cs) := by
          have hx := hx1
          rw [show ((L + 1 : Nat) : Int) = (L : Int) + 1 by omega]
          simp (disch := omega) only [e35_81, e35_95, xk_0, xk_1, xk_40, xk_41, xk_42, xk_43, xk_44, xk_45, xk_46, xk_47, xk_48, xk_49, xk_50, xk_51, xk_52, xk_53, xk_54, xk_55, xk_56, xk_57, xk_58, xk_59, xk_60, xk_61, xk_62, xk_63, xk_64, xk_65, xk_66, xk_67, xk_68, xk_69, xk_70, xk_71, xk_72, xk_73, xk_74, xk_75, xk_76, xk_77, xk_78, xk_79, xk_80, xk_81, xk_82, xk_83, xk_84, xk_85, xk_86, xk_87, xk_88, xk_89, xk_90, xk_91, xk_92, xk_93, xk_94, xk_95, xk_96, xk_97, xk_98, xk_st0 hb, xk_st1 hb, xk_st10 hb, xk_st11 hb, xk_st12 hb, xk_st13 hb, xk_st14 hb, xk_st15 hb, xk_st16 hb, xk_st17 hb, xk_st18 hb, xk_st2 hb, xk_st3 hb, xk_st4 hb, xk_st5 hb, xk_st6 hb, xk_st7 hb, xk_st8 hb, xk_st9 hb, xm_0_0 hx, xm_0_10 hx, xm_0_11 hx, xm_0_12 hx, xm_0_13 hx, xm_0_14 hx, xm_0_15 hx, xm_0_2 hx, xm_0_9 hx, xm_40_0 hx, xm_40_1 hx, xm_41_0 hx, xm_44_0 hx, xm_44_1 hx, xm_73_4 hx, xm_73_5 hx, xm_73_6 hx, xm_77_1 hx, xm_77_2 hx, xm_77_3 hx, xm_77_4 hx, xm_77_5 hx, xm_77_6 hx, xm_77_7 hx, xm_77_8 hx, xm_77_9 hx, xm_87_2 hx, xm_87_3 hx, xm_87_4 hx, xm_87_5 hx, xm_87_6 hx, xm_87_7 hx, xm_87_8 hx, xm_lw2 hx hb, xm_lw3 hx hb, xm_lw4 hx hb, xm_lw5 hx hb, xm_st1 hx hb, xm_st10 hx hb, xm_st11 hx hb, xm_st13 hx hb, xm_st14 hx hb, xm_st15 hx hb, xm_st16 hx hb, xm_st17 hx hb, xm_st2 hx hb, xm_st4 hx hb, xm_st5 hx hb, xm_st6 hx hb, xm_st7 hx hb, xm_st9 hx hb, ite_self, Bool.false_eq_true, eq_self, isk_t, i20_t, w20_t, l23_t, b21_t, b22_t, w_t, bif_t, bif_f, bif_d, if_pos, if_neg, if_true, if_false, not_true_eq_false, not_false_eq_true, Option.bind_some, Option.toList_some, Option.toList_none, List.cons_append, List.nil_append, Int.toNat_natCast, Int.reduceToNat, up_eq, up_p, up_k, sN,  g4 ]
        refine ⟨ρ3, μ3, fun p k hh => (r0 p k hh).trans (f0 p k hh), fx2_tr (fx2_tr (fx2_up (fx2_x f1) (by omega)) (fx2_x (fx_ft g1))) r1, ?_⟩
        rw [e1, e2]
        exact r2
end XST
