/-! TEXT: the reference's expressions: signs that join -/
def ROs (g : Nat → Nat → Int) (b : Nat → Int) (n B : Nat) (l : Int) (S0 : PE (List (Int × Int) × Int × Nat)) (a : Nat) (st : List Int) (op : Nat) (kn : Int) (μ' : Nat → Nat → Int) : Prop := (∃ q, RF μ' q ∧ S0 = .inl q) ∨ ∃ (a' : Nat) (τ : List Int) (kn' : Int) (o' : List (Int × Int)), (a < a' ∧ a' ≤ n) ∧ RH μ' b n a' ∧ RE g μ' B op kn' (o' ++ τ.map pz) ∧ SV B (τ ++ st, op, kn', o') ∧ (∀ k ∈ τ, l ≤ rnk k) ∧ S0 = sy b n a' false (τ ++ st, op, kn', o') ∧ kn ≤ kn' ∧ EN l (tok b n a').1 (τ ++ st) o'
section RBN
variable {ρ : Nat → Nat → Nat} {g : Nat → Nat → Int} {cs : Nat × Nat × Nat} {n B : Nat} {b : Nat → Int}
theorem dN_le {op : Nat} {kn kn' : Int} (h : kn ≤ kn') : dN op kn' ≤ dN op kn := by
  unfold dN
  omega
theorem mk_sg {k : Int} (h : 0 < rnk k) : (2 : Int) = mk1 (k, 0) ∧ ksg k = mk2 (k, 0) := by
  obtain ⟨_, _, g3, g4⟩ := rnk_kc h
  constructor
  · unfold mk1; rw [if_neg g3, if_neg g4]
  · unfold mk2
    rw [if_neg (by
      intro e
      rcases e with e | e
      · exact g3 e
      · exact g4 e)]
theorem R_bin (hρ : RM ρ) {l lpo : Int} {mo dlo D : Nat} {lvo : am_L} (hl : 0 < l ∧ l ≠ 4 ∧ l ≠ 3) (hlp : l < lpo) (hl3 : dlo < 3 ∨ 3 < l) (hD7 : 7 ≤ D) (L : (Nat → Nat → Int) → Option am_Res) (a0 : Nat)
    (hO : ∀ a, a0 < a → SPC g ρ cs b n B (l + 1) lpo mo lvo dlo a)
    (hOF : ∀ μ : Nat → Nat → Int, μ 99 28 ≠ 0 → am_E D mo 0 lvo [] (SH, ρ, μ, cs) = some (none, (SH, ρ, μ, cs)))
    (hF : ∀ μ : Nat → Nat → Int, μ 99 28 ≠ 0 → L μ = some (none, (SH, ρ, μ, cs)))
    (hstop : ∀ (μ : Nat → Nat → Int) (a : Nat), RH μ b n a → rnk (tok b n a).1 ≠ l → L μ = some (none, (SH, ρ, μ, cs)))
    (hgo : ∀ (μ μ1 μ2 μ3 μ4 : Nat → Nat → Int) (a : Nat), RH μ b n a → rnk (tok b n a).1 = l → am_E D 167 0 [some (.inr (.inr 99))] [] (SH, ρ, μ, cs) = some (none, (SH, ρ, μ1, cs)) → am_E D 152 0 [some (.inr (.inr 99))] [] (SH, ρ, μ1, cs) = some (none, (SH, ρ, μ2, cs)) → am_E D mo 0 lvo [] (SH, ρ, μ2, cs) = some (none, (SH, ρ, μ3, cs)) → am_E D 166 0 [some (.inr (.inr 99)), some (.inl 2), some (.inl (ksg (tok b n a).1))] [] (SH, ρ, μ3, cs) = some (none, (SH, ρ, μ4, cs)) → ∀ res, L μ4 = some res → L μ = some res)
    (S0 : PE (List (Int × Int) × Int × Nat)) (st : List Int) (op : Nat) (kn0 : Int) (hdN : dN op kn0 ≤ D + 1 + dlo) (hG : SG st) (ht : rnk (topS st) < l) : ∀ (m a : Nat) (τ : List Int) (kn : Int) (o : List (Int × Int)) (μ : Nat → Nat → Int), n - a ≤ m → a0 < a → a ≤ n → RH μ b n a → RE g μ B op kn (o ++ τ.map pz) → SV B (τ ++ st, op, kn, o) → (∀ k ∈ τ, l ≤ rnk k) → S0 = sy b n a false (τ ++ st, op, kn, o) → kn0 ≤ kn → EN (l + 1) (tok b n a).1 (τ ++ st) o → ∃ μ', FE B μ μ' ∧ ROs g b n B l S0 a0 st op kn0 μ' ∧ L μ = some (none, (SH, ρ, μ', cs)) := by
  obtain ⟨d, rfl⟩ : ∃ d, D = d + 7 := ⟨D - 7, by omega⟩
  intro m
  induction m with
  | zero =>
    intro a τ kn o μ hm h0 ha h hE hV hτ hS hk hN
    have h39 : (tok b n a).1 = 39 := by
      unfold tok
      rw [rn_no (by omega), if_pos (by omega)]
    have hr : rnk (tok b n a).1 = 0 := by rw [h39]; decide
    refine ⟨μ, fe_rf, Or.inr ⟨a, τ, kn, o, ⟨h0, ha⟩, h, hE, hV, hτ, hS, hk, Or.inl (by omega)⟩, hstop μ a h (by omega)⟩
  | succ m ih =>
    intro a τ kn o μ hm h0 ha h hE hV hτ hS hk hN
    by_cases c : rnk (tok b n a).1 = l
    · have h20 : (tok b n a).1 ≠ 20 := fun e => by rw [e] at c; exact hl.2.2 (by rw [← c]; decide)
      have hsb := sy_bin (op := op) (kn := kn) (o := o) (st := st) (τ := τ) ha (by omega) (by omega) h20 (fun k hk => by rw [c]; exact hτ k hk) (by omega)
      have hτ1 : ∀ k ∈ τ, 1 ≤ rnk k := fun k hk => by have := hτ k hk; omega
      have hV1 := sv_app hτ1 hV
      have hkm : kn ≤ 64 := hV.2.2.1
      have hkk : kn = ((B + (o ++ τ.map pz).length + nop st : Nat) : Int) := hV1.1
      obtain ⟨μ1, f1, f2, f3, f4⟩ := R_knot (d := d + 6) (ρ := ρ) (cs := cs) h hE (by omega) hkm
      have msg := mk_sg (k := (tok b n a).1) (by omega)
      by_cases c64 : 64 ≤ kn
      · have hr := f2 c64
        have hne : μ1 99 28 ≠ 0 := by rw [hr.1]; exact hr.2.2
        refine ⟨μ1, f1, Or.inl ⟨_, hr, by rw [hS, hsb, if_pos c64]⟩, ?_⟩
        exact hgo μ μ1 μ1 μ1 μ1 a h c f4 (R_goOnF hne) (hOF μ1 hne) (R_putsF hρ hne) _ (hF μ1 hne)
      · obtain ⟨g1, g2, g3⟩ := f3 c64
        obtain ⟨μ2, r1, r2, r3⟩ := R_goOn (ρ := ρ) (cs := cs) (d := d) hρ g1
        have tg := tk_gt (b := b) ha (fun e => by rw [e] at c; exact absurd c.symm (by have : rnk 39 = 0 := by decide
                                                                                       omega))
        have k25 : (tok b n a).1 ≠ 25 := fun e => by
          rw [e] at c
          have : rnk 25 = 0 := by decide
          omega
        have hV2 : SV B ((tok b n a).1 :: st, op, kn + 1, o ++ τ.map pz) := sv_wk hV1 k25 (by unfold wk; rw [if_neg c64])
        have hG2 : SG ((tok b n a).1 :: st) := fun x hx => by
          rcases List.mem_cons.mp hx with rfl | hx
          · exact Or.inl (by omega)
          · exact hG x hx
        have hdn2 := dN_le (op := op) (kn := kn0) (kn' := kn + 1) (by omega)
        have hdn3 : dN op (kn + 1) + 1 ≤ dN op kn0 := by
          unfold dN
          omega
        obtain ⟨μ3, k1, k2, k3⟩ := hO (tok b n a).2.2.2 (by omega) (d + 7) ((tok b n a).1 :: st) op (kn + 1) (o ++ τ.map pz) μ2 (by omega) tg.2 r2 (re_fw g2 (fw_fr r1)) hV2 hG2 (by show rnk (tok b n a).1 < lpo; omega) (fun _ => by
          rcases hl3 with q | q
          · exact Or.inl q
          · exact Or.inr (by show 3 < rnk (tok b n a).1; omega))
        have fr3 : FE B μ μ3 := fe_tr (fe_tr f1 (fe_fw (fw_fr r1))) k1
        have hS2 : S0 = sy b n (tok b n a).2.2.2 true ((tok b n a).1 :: st, op, kn + 1, o ++ τ.map pz) := by rw [hS, hsb, if_neg c64]
        rcases k2 with ⟨q, z1, z2⟩ | ⟨a', τ2, kn', o', z1, z2, z3, z4, z5, z6, z7, z8⟩
        · have hne : μ3 99 28 ≠ 0 := by rw [z1.1]; exact z1.2.2
          refine ⟨μ3, fr3, Or.inl ⟨q, z1, hS2.trans z2⟩, ?_⟩
          exact hgo μ μ1 μ2 μ3 μ3 a h c f4 r3 k3 (R_putsF hρ hne) _ (hF μ3 hne)
        · have hV4 := sv_app (fun k hk => by have := z5 k hk; omega) z4
          have hk4 : kn' = ((B + (o' ++ τ2.map pz).length + (nop st + (if (tok b n a).1 = 25 then 0 else 1)) : Nat) : Int) := hV4.1
          rw [if_neg k25] at hk4
          have hk5 : kn' ≤ 64 := hV4.2.2.1
          obtain ⟨μ4, y1, y2, y3, y4⟩ := R_puts (d := d + 6) (ρ := ρ) (cs := cs) hρ z2 z3 (by omega) msg.1 msg.2
          have ea : (τ2 ++ [(tok b n a).1]) ++ st = τ2 ++ (tok b n a).1 :: st := by simp
          have eo : o' ++ (τ2 ++ [(tok b n a).1]).map pz = (o' ++ τ2.map pz) ++ [((tok b n a).1, 0)] := by simp [pz]
          obtain ⟨μ5, w1, w2, w3⟩ := ih a' (τ2 ++ [(tok b n a).1]) kn' o' μ4 (by omega) (by omega) z1.2 y2 (by rw [eo]; exact y3) (by rw [ea]; exact z4) (fun k hk => by
            rcases List.mem_append.mp hk with q | q
            · have := z5 k q; omega
            · rw [List.mem_singleton.mp q]; omega) (by rw [ea]; exact hS2.trans z6) (by omega) (by rw [ea]; exact z8)
          exact ⟨μ5, fe_tr (fe_tr fr3 y1) w1, w2, hgo μ μ1 μ2 μ3 μ4 a h c f4 r3 k3 y4 _ w3⟩
    · refine ⟨μ, fe_rf, Or.inr ⟨a, τ, kn, o, ⟨h0, ha⟩, h, hE, hV, hτ, hS, hk, ?_⟩, hstop μ a h c⟩
      rcases hN with q | q | q
      · exact Or.inl (by omega)
      · exact Or.inr (Or.inl q)
      · exact Or.inr (Or.inr q)
end RBN
section RFF
variable {ρ : Nat → Nat → Nat} {g : Nat → Nat → Int} {μ : Nat → Nat → Int} {cs : Nat × Nat × Nat} {d : Nat}
theorem R_primF (h : μ 99 28 ≠ 0) : am_E (d + 1) 173 0 [some (.inr (.inr 99)), none] [] (SH, ρ, μ, cs) = some (none, (SH, ρ, μ, cs)) := by
  simp (disch := (first | omega | (simp (disch := omega) only [sr_up, wr_up_o]; omega))) only [e173_0, ks_99, ite_self, Bool.false_eq_true, eq_self, isk_t, i20_t, w20_t, l23_t, b21_t, b22_t, w_t, bif_t, bif_f, bif_d, if_pos, if_neg, if_true, if_false, not_true_eq_false, not_false_eq_true, Option.bind_some, Option.toList_some, Option.toList_none, List.cons_append, List.nil_append, Int.toNat_natCast, Int.reduceToNat, up_eq, up_p, up_k, sN,  h ]
theorem R_prodF4 (h : μ 99 28 ≠ 0) : am_E (d + 2) 172 4 [some (.inr (.inr 99)), none] [] (SH, ρ, μ, cs) = some (none, (SH, ρ, μ, cs)) := by
  have h1 := fun (w : Int) (d : Nat) => R_isSF (ρ := ρ) (cs := cs) (d := d) (w := w) h
  rw [e172_4]; simp (disch := (first | omega | (simp (disch := omega) only [sr_up, wr_up_o]; omega))) only [e172_10, e172_19, ks_99, ite_self, Bool.false_eq_true, eq_self, isk_t, i20_t, w20_t, l23_t, b21_t, b22_t, w_t, bif_t, bif_f, bif_d, if_pos, if_neg, if_true, if_false, not_true_eq_false, not_false_eq_true, Option.bind_some, Option.toList_some, Option.toList_none, List.cons_append, List.nil_append, Int.toNat_natCast, Int.reduceToNat, up_eq, up_p, up_k, sN,  h1 ]
theorem R_prodF (h : μ 99 28 ≠ 0) : am_E (d + 2) 172 0 [some (.inr (.inr 99)), none] [] (SH, ρ, μ, cs) = some (none, (SH, ρ, μ, cs)) := by
  have h1 := R_primF (ρ := ρ) (cs := cs) (d := d) h
  have h2 := R_prodF4 (ρ := ρ) (cs := cs) (d := d) h
  simp (disch := (first | omega | (simp (disch := omega) only [sr_up, wr_up_o]; omega))) only [e172_0, ks_99, ite_self, Bool.false_eq_true, eq_self, isk_t, i20_t, w20_t, l23_t, b21_t, b22_t, w_t, bif_t, bif_f, bif_d, if_pos, if_neg, if_true, if_false, not_true_eq_false, not_false_eq_true, Option.bind_some, Option.toList_some, Option.toList_none, List.cons_append, List.nil_append, Int.toNat_natCast, Int.reduceToNat, up_eq, up_p, up_k, sN,  h1, h2 ]
theorem R_sumF4 (h : μ 99 28 ≠ 0) : am_E (d + 3) 171 4 [some (.inr (.inr 99)), none] [] (SH, ρ, μ, cs) = some (none, (SH, ρ, μ, cs)) := by
  have h1 := fun (w : Int) (d : Nat) => R_isSF (ρ := ρ) (cs := cs) (d := d) (w := w) h
  rw [e171_4]; simp (disch := (first | omega | (simp (disch := omega) only [sr_up, wr_up_o]; omega))) only [e171_10, e171_19, ks_99, ite_self, Bool.false_eq_true, eq_self, isk_t, i20_t, w20_t, l23_t, b21_t, b22_t, w_t, bif_t, bif_f, bif_d, if_pos, if_neg, if_true, if_false, not_true_eq_false, not_false_eq_true, Option.bind_some, Option.toList_some, Option.toList_none, List.cons_append, List.nil_append, Int.toNat_natCast, Int.reduceToNat, up_eq, up_p, up_k, sN,  h1 ]
theorem R_sumF (h : μ 99 28 ≠ 0) : am_E (d + 3) 171 0 [some (.inr (.inr 99)), none] [] (SH, ρ, μ, cs) = some (none, (SH, ρ, μ, cs)) := by
  have h1 := R_prodF (ρ := ρ) (cs := cs) (d := d) h
  have h2 := R_sumF4 (ρ := ρ) (cs := cs) (d := d) h
  simp (disch := (first | omega | (simp (disch := omega) only [sr_up, wr_up_o]; omega))) only [e171_0, ks_99, ite_self, Bool.false_eq_true, eq_self, isk_t, i20_t, w20_t, l23_t, b21_t, b22_t, w_t, bif_t, bif_f, bif_d, if_pos, if_neg, if_true, if_false, not_true_eq_false, not_false_eq_true, Option.bind_some, Option.toList_some, Option.toList_none, List.cons_append, List.nil_append, Int.toNat_natCast, Int.reduceToNat, up_eq, up_p, up_k, sN,  h1, h2 ]
theorem R_negF (h : μ 99 28 ≠ 0) : am_E (d + 4) 170 0 [some (.inr (.inr 99)), none] [] (SH, ρ, μ, cs) = some (none, (SH, ρ, μ, cs)) := by
  have h1 := fun (w : Int) (d : Nat) => R_isWF (ρ := ρ) (cs := cs) (d := d) (w := w) h
  have h2 := R_sumF (ρ := ρ) (cs := cs) (d := d) h
  simp (disch := (first | omega | (simp (disch := omega) only [sr_up, wr_up_o]; omega))) only [e170_0, e170_6, e170_34, ks_99, ite_self, Bool.false_eq_true, eq_self, isk_t, i20_t, w20_t, l23_t, b21_t, b22_t, w_t, bif_t, bif_f, bif_d, if_pos, if_neg, if_true, if_false, not_true_eq_false, not_false_eq_true, Option.bind_some, Option.toList_some, Option.toList_none, List.cons_append, List.nil_append, Int.toNat_natCast, Int.reduceToNat, up_eq, up_p, up_k, sN,  h1, h2, h ]
theorem R_conjF4 (h : μ 99 28 ≠ 0) : am_E (d + 5) 169 4 [some (.inr (.inr 99))] [] (SH, ρ, μ, cs) = some (none, (SH, ρ, μ, cs)) := by
  have h1 := fun (w : Int) (d : Nat) => R_isWF (ρ := ρ) (cs := cs) (d := d) (w := w) h
  rw [e169_4]; simp (disch := (first | omega | (simp (disch := omega) only [sr_up, wr_up_o]; omega))) only [e169_10, ks_99, ite_self, Bool.false_eq_true, eq_self, isk_t, i20_t, w20_t, l23_t, b21_t, b22_t, w_t, bif_t, bif_f, bif_d, if_pos, if_neg, if_true, if_false, not_true_eq_false, not_false_eq_true, Option.bind_some, Option.toList_some, Option.toList_none, List.cons_append, List.nil_append, Int.toNat_natCast, Int.reduceToNat, up_eq, up_p, up_k, sN,  h1 ]
theorem R_conjF (h : μ 99 28 ≠ 0) : am_E (d + 5) 169 0 [some (.inr (.inr 99))] [] (SH, ρ, μ, cs) = some (none, (SH, ρ, μ, cs)) := by
  have h1 := R_negF (ρ := ρ) (cs := cs) (d := d) h
  have h2 := R_conjF4 (ρ := ρ) (cs := cs) (d := d) h
  simp (disch := (first | omega | (simp (disch := omega) only [sr_up, wr_up_o]; omega))) only [e169_0, ks_99, ite_self, Bool.false_eq_true, eq_self, isk_t, i20_t, w20_t, l23_t, b21_t, b22_t, w_t, bif_t, bif_f, bif_d, if_pos, if_neg, if_true, if_false, not_true_eq_false, not_false_eq_true, Option.bind_some, Option.toList_some, Option.toList_none, List.cons_append, List.nil_append, Int.toNat_natCast, Int.reduceToNat, up_eq, up_p, up_k, sN,  h1, h2 ]
theorem R_exprF4 (h : μ 99 28 ≠ 0) : am_E (d + 6) 168 4 [some (.inr (.inr 99))] [] (SH, ρ, μ, cs) = some (none, (SH, ρ, μ, cs)) := by
  have h1 := fun (w : Int) (d : Nat) => R_isWF (ρ := ρ) (cs := cs) (d := d) (w := w) h
  rw [e168_4]; simp (disch := (first | omega | (simp (disch := omega) only [sr_up, wr_up_o]; omega))) only [e168_10, ks_99, ite_self, Bool.false_eq_true, eq_self, isk_t, i20_t, w20_t, l23_t, b21_t, b22_t, w_t, bif_t, bif_f, bif_d, if_pos, if_neg, if_true, if_false, not_true_eq_false, not_false_eq_true, Option.bind_some, Option.toList_some, Option.toList_none, List.cons_append, List.nil_append, Int.toNat_natCast, Int.reduceToNat, up_eq, up_p, up_k, sN,  h1 ]
end RFF
