/-! TEXT: the reference's expressions: one value -/
def dN (op : Nat) (kn : Int) : Nat := 30 + 8 * (8 - op) + (64 - kn).toNat
def RO (g : Nat → Nat → Int) (b : Nat → Int) (n B : Nat) (l : Int) (a : Nat) (st : List Int) (op : Nat) (kn : Int) (o : List (Int × Int)) (μ' : Nat → Nat → Int) : Prop := (∃ q, RF μ' q ∧ sy b n a true (st, op, kn, o) = .inl q) ∨ ∃ (a' : Nat) (τ : List Int) (kn' : Int) (o' : List (Int × Int)), (a < a' ∧ a' ≤ n) ∧ RH μ' b n a' ∧ RE g μ' B op kn' (o' ++ τ.map pz) ∧ SV B (τ ++ st, op, kn', o') ∧ (∀ k ∈ τ, l ≤ rnk k) ∧ sy b n a true (st, op, kn, o) = sy b n a' false (τ ++ st, op, kn', o') ∧ kn ≤ kn' ∧ EN l (tok b n a').1 (τ ++ st) o'
/-- what a method of the reference reads, from a token on -/
def SPC (g : Nat → Nat → Int) (ρ : Nat → Nat → Nat) (cs : Nat × Nat × Nat) (b : Nat → Int) (n B : Nat) (l lp : Int) (m : Nat) (lv : am_L) (dl : Nat) (a : Nat) : Prop := ∀ (D : Nat) (st : List Int) (op : Nat) (kn : Int) (o : List (Int × Int)) (μ : Nat → Nat → Int), dN op kn ≤ D + dl → a ≤ n → RH μ b n a → RE g μ B op kn o → SV B (st, op, kn, o) → SG st → rnk (topS st) < lp → ((tok b n a).1 = 20 → dl < 3 ∨ 3 < rnk (topS st)) → ∃ μ', FE B μ μ' ∧ RO g b n B l a st op kn o μ' ∧ am_E D m 0 lv [] (SH, ρ, μ, cs) = some (none, (SH, ρ, μ', cs))
section RPR
variable {ρ : Nat → Nat → Nat} {g : Nat → Nat → Int} {μ : Nat → Nat → Int} {cs : Nat × Nat × Nat} {d n a B op : Nat} {b : Nat → Int} {kn : Int} {o : List (Int × Int)}
theorem rmp_16 {x : Int} (h0 : 0 ≤ x) (h1 : x ≤ 22) : (16 ≤ rmp x ↔ 13 ≤ x ∧ x ≤ 19) ∧ (13 ≤ x ∧ x ≤ 19 → rmp x = x + 3) := by
  unfold rmp
  repeat' split
  all_goals omega
theorem w13 : ∀ x : Int, 0 ≤ x → x ≤ 22 → (rmp x = 13 ↔ x = 22) := by
  intro x h0 h1
  unfold rmp
  repeat' split
  all_goals omega
theorem w14 : ∀ x : Int, 0 ≤ x → x ≤ 22 → (rmp x = 14 ↔ x = 21) := by
  intro x h0 h1
  unfold rmp
  repeat' split
  all_goals omega
theorem w15 : ∀ x : Int, 0 ≤ x → x ≤ 22 → (rmp x = 15 ↔ x = 20) := by
  intro x h0 h1
  unfold rmp
  repeat' split
  all_goals omega
theorem s40 : ∀ x : Int, 25 ≤ x → x ≤ 37 → (schr x = 40 ↔ x = 25) := by
  intro x h0 h1
  unfold schr
  repeat' split
  all_goals omega
theorem s41 : ∀ x : Int, 25 ≤ x → x ≤ 37 → (schr x = 41 ↔ x = 26) := by
  intro x h0 h1
  unfold schr
  repeat' split
  all_goals omega
theorem s42 : ∀ x : Int, 25 ≤ x → x ≤ 37 → (schr x = 42 ↔ x = 30) := by
  intro x h0 h1
  unfold schr
  repeat' split
  all_goals omega
theorem s43 : ∀ x : Int, 25 ≤ x → x ≤ 37 → (schr x = 43 ↔ x = 28) := by
  intro x h0 h1
  unfold schr
  repeat' split
  all_goals omega
theorem s45 : ∀ x : Int, 25 ≤ x → x ≤ 37 → (schr x = 45 ↔ x = 29) := by
  intro x h0 h1
  unfold schr
  repeat' split
  all_goals omega
theorem s47 : ∀ x : Int, 25 ≤ x → x ≤ 37 → (schr x = 47 ↔ x = 31) := by
  intro x h0 h1
  unfold schr
  repeat' split
  all_goals omega
/-- a value: number or name -/
theorem R_val (hρ : RM ρ) (h : RH μ b n a) (hE : RE g μ B op kn o) {st : List Int} (hV : SV B (st, op, kn, o)) (ha : a ≤ n) (h39 : (tok b n a).1 ≠ 39) {k v x1 X Y : Int} (hX : X = mk1 (k, v)) (hY : Y = mk2 (k, v)) (hsy : sy b n a true (st, op, kn, o) = if 64 ≤ kn then .inl (2, (tok b n a).2.2.1) else sy b n (tok b n a).2.2.2 false (st, op, kn + 1, o ++ [(k, v)])) (hrun : ∀ μ1, μ1 99 27 = μ 99 27 → am_E (d + 8) 173 166 [some (.inr (.inr 99)), some (.inl x1)] [] (SH, ρ, μ1, cs) = (am_E (d + 7) 166 0 [some (.inr (.inr 99)), some (.inl X), some (.inl Y)] [] (SH, ρ, μ1, cs)).bind (fun r => am_E (d + 8) 173 197 [some (.inr (.inr 99)), some (.inl x1)] (r.1.toList ++ []) r.2)) (hrunF : ∀ μ1, μ1 99 28 ≠ 0 → am_E (d + 8) 173 166 [some (.inr (.inr 99)), some (.inl x1)] [] (SH, ρ, μ1, cs) = am_E (d + 8) 173 197 [some (.inr (.inr 99)), some (.inl x1)] [] (SH, ρ, μ1, cs)) : ∃ μ', FE B μ μ' ∧ RO g b n B 7 a st op kn o μ' ∧ am_E (d + 8) 173 162 [some (.inr (.inr 99)), some (.inl x1)] [] (SH, ρ, μ, cs) = some (none, (SH, ρ, μ', cs)) := by
  have hk := hV.1
  have hkm : kn ≤ 64 := hV.2.2.1
  have hk : kn = ((B + o.length + nop st : Nat) : Int) := hk
  obtain ⟨μ1, f1, f2, f3, f4⟩ := R_knot (d := d + 6) (ρ := ρ) (cs := cs) h hE (by omega) hkm
  by_cases c : 64 ≤ kn
  · rw [if_pos c] at hsy
    have hr := f2 c
    have hne : μ1 99 28 ≠ 0 := by rw [hr.1]; exact hr.2.2
    have hg := R_goOnF (ρ := ρ) (cs := cs) (d := d) hne
    refine ⟨μ1, f1, Or.inl ⟨_, hr, hsy⟩, ?_⟩
    have hF := hrunF μ1 hne
    simp (disch := (first | omega | (simp (disch := omega) only [sr_up, wr_up_o]; omega))) only [e173_162, e173_197, e173_201, ks_99, ite_self, Bool.false_eq_true, eq_self, isk_t, i20_t, w20_t, l23_t, b21_t, b22_t, w_t, bif_t, bif_f, bif_d, if_pos, if_neg, if_true, if_false, not_true_eq_false, not_false_eq_true, Option.bind_some, Option.toList_some, Option.toList_none, List.cons_append, List.nil_append, Int.toNat_natCast, Int.reduceToNat, up_eq, up_p, up_k, sN,  f4, hF, hg ]
  · rw [if_neg c] at hsy
    obtain ⟨g1, g2, g3⟩ := f3 c
    obtain ⟨μ2, r1, r2, r3, r4⟩ := R_puts (d := d + 6) (ρ := ρ) (cs := cs) hρ g1 g2 (by omega) hX hY
    obtain ⟨μ3, t1, t2, t3⟩ := R_goOn (ρ := ρ) (cs := cs) (d := d) hρ r2
    have hR := hrun μ1 g3
    have tg := tk_gt (b := b) ha h39
    refine ⟨μ3, fe_tr (fe_tr f1 r1) (fe_fw (fw_fr t1)), Or.inr ⟨(tok b n a).2.2.2, [], kn + 1, o ++ [(k, v)], tg, t2, ?_, ?_, fun x hx => (by cases hx), hsy, by omega, Or.inl (by have := rnk_bd (tok b n (tok b n a).2.2.2).1; omega)⟩, ?_⟩
    · have := re_fw r3 (fw_fr t1)
      simpa using this
    · refine ⟨?_, hV.2.1, ?_, hV.2.2.2⟩
      · show kn + 1 = ((B + (o ++ [(k, v)]).length + nop st : Nat) : Int)
        rw [List.length_append]
        show kn + 1 = ((B + (o.length + 1) + nop st : Nat) : Int)
        omega
      · show kn + 1 ≤ 64
        omega
    · simp (disch := (first | omega | (simp (disch := omega) only [sr_up, wr_up_o]; omega))) only [e173_162, e173_197, e173_201, ks_99, ite_self, Bool.false_eq_true, eq_self, isk_t, i20_t, w20_t, l23_t, b21_t, b22_t, w_t, bif_t, bif_f, bif_d, if_pos, if_neg, if_true, if_false, not_true_eq_false, not_false_eq_true, Option.bind_some, Option.toList_some, Option.toList_none, List.cons_append, List.nil_append, Int.toNat_natCast, Int.reduceToNat, up_eq, up_p, up_k, sN,  f4, hR, r4, t3 ]
theorem R_prim (hρ : RM ρ) (hX : ∀ a', a < a' → SPC g ρ cs b n B 1 1 168 [some (.inr (.inr 99))] 0 a') : SPC g ρ cs b n B 7 7 173 [some (.inr (.inr 99)), none] 5 a := by
  intro D st op kn o μ hD ha h hE hV hG ht h20
  have hkm : kn ≤ 64 := hV.2.2.1
  have hom : op ≤ 8 := hV.2.2.2
  have hk : kn = ((B + o.length + nop st : Nat) : Int) := hV.1
  unfold dN at hD
  obtain ⟨d, rfl⟩ : ∃ d, D = d + 8 := ⟨D - 8, by omega⟩
  obtain ⟨hT, hK, h0⟩ := id h
  have hs := rk_sort hK (tok_nn b n a) (tok_39 b n a)
  have t0 := tok_nn b n a
  have i40 := fun d => R_isS (ρ := ρ) (cs := cs) (d := d) h (w := 40) (k := 25) s40 (by omega)
  have hop := hE.1
  by_cases c25 : (tok b n a).1 = 25
  · rw [if_pos c25] at i40
    have i40 : ∀ d, am_E d 151 0 [some (.inr (.inr 99)), some (.inl 40)] [] (SH, ρ, μ, cs) = some (some (.inl 1), (SH, ρ, μ, cs)) := i40
    have tg := tk_gt (b := b) ha (by omega)
    by_cases c8 : 8 ≤ op
    · have e8 : (op : Int) = 8 := by omega
      have hw := fun d => R_wr (ρ := ρ) (cs := cs) (d := d) (f := 2) h0
      refine ⟨am_up (am_up μ 99 28 2) 99 29 (μ 99 25), fe_up (fe_up fe_rf (by omega)) (by omega), Or.inl ⟨(2, (tok b n a).2.2.1), rf_wr hK (by decide), ?_⟩, ?_⟩
      · rw [sy_tv ha]
        have : tvS (tok b n a).1 (tok b n a).2.1 (st, op, kn, o) = .inl 2 := by
          unfold tvS
          rw [c25, if_neg (by decide), if_neg (by decide), if_neg (by omega), if_pos rfl]
          show (if 8 ≤ op then Sum.inl 2 else _) = _
          rw [if_pos c8]
        rw [this]
      · rw [e8] at hop
        simp (disch := (first | omega | (simp (disch := omega) only [sr_up, wr_up_o]; omega))) only [e173_0, e173_14, e173_31, ks_99, ite_self, Bool.false_eq_true, eq_self, isk_t, i20_t, w20_t, l23_t, b21_t, b22_t, w_t, bif_t, bif_f, bif_d, if_pos, if_neg, if_true, if_false, not_true_eq_false, not_false_eq_true, Option.bind_some, Option.toList_some, Option.toList_none, List.cons_append, List.nil_append, Int.toNat_natCast, Int.reduceToNat, up_eq, up_p, up_k, sN,  h0, i40, hop, hw ]
    · have e8 : ¬ (op : Int) = 8 := by omega
      have hsy : sy b n a true (st, op, kn, o) = sy b n (tok b n a).2.2.2 true (25 :: st, op + 1, kn, o) := by
        rw [sy_tv ha]
        have : tvS (tok b n a).1 (tok b n a).2.1 (st, op, kn, o) = .inr (25 :: st, op + 1, kn, o) := by
          unfold tvS
          rw [c25, if_neg (by decide), if_neg (by decide), if_neg (by omega), if_pos rfl]
          show (if 8 ≤ op then Sum.inl 2 else _) = _
          rw [if_neg c8]
        rw [this, c25]
        all_goals rfl
      obtain ⟨μ2, f1, f2, f4⟩ := R_tokH (d := d + 1) (ρ := ρ) (cs := cs) hρ (rtk_up (k := 32) (v := (op : Int) + 1) hT (by omega)) (by rw [up_k (by omega)]; exact h0)
      have hE2 : RE g μ2 B (op + 1) kn o := by
        refine re_fw (μ := am_up μ 99 32 ((op : Int) + 1)) ⟨by rw [up_eq]; omega, by rw [up_k (by omega)]; exact hE.2.1, by rw [up_p (by omega)]; exact hE.2.2.1, or2_fr hE.2.2.2 (fun k => up_p (by omega)) (fun k => up_p (by omega))⟩ (fw_fr f1)
      have hV2 : SV B (25 :: st, op + 1, kn, o) := by
        refine ⟨?_, ?_, hkm, by show op + 1 ≤ 8; omega⟩
        · show kn = ((B + o.length + (nop st + (if (25 : Int) = 25 then 0 else 1)) : Nat) : Int)
          rw [if_pos rfl]; exact hk
        · show op + 1 = npn st + (if (25 : Int) = 25 then 1 else 0)
          rw [if_pos rfl]
          have : op = npn st := hV.2.1
          omega
      have hG2 : SG (25 :: st) := fun x hx => by
        rcases List.mem_cons.mp hx with rfl | hx
        · exact Or.inr rfl
        · exact hG x hx
      obtain ⟨μ3, g1, g2, g3⟩ := hX (tok b n a).2.2.2 tg.1 (d + 7) (25 :: st) (op + 1) kn o μ2 (by unfold dN; omega) tg.2 f2 hE2 hV2 hG2 (by show rnk 25 < 1; decide) (fun _ => Or.inl (by decide))
      have fr : FE B μ μ3 := fe_tr (fe_tr (fe_up fe_rf (by omega)) (fe_fw (fw_fr f1))) g1
      have e0 : am_E (d + 8) 173 0 [some (.inr (.inr 99)), none] [] (SH, ρ, μ, cs) = am_E (d + 8) 173 57 [some (.inr (.inr 99)), none] [] (SH, ρ, μ3, cs) := by
        simp (disch := (first | omega | (simp (disch := omega) only [sr_up, wr_up_o]; omega))) only [e173_0, e173_14, e173_31, e173_53, ks_99, ite_self, Bool.false_eq_true, eq_self, isk_t, i20_t, w20_t, l23_t, b21_t, b22_t, w_t, bif_t, bif_f, bif_d, if_pos, if_neg, if_true, if_false, not_true_eq_false, not_false_eq_true, Option.bind_some, Option.toList_some, Option.toList_none, List.cons_append, List.nil_append, Int.toNat_natCast, Int.reduceToNat, up_eq, up_p, up_k, sN,  h0, i40, hop, e8, f4, g3 ]
      rcases g2 with ⟨q, r1, r2⟩ | ⟨a', τ, kn', o', r1, r2, r3, r4, r5, r6, r7, r8⟩
      · have hne : μ3 99 28 ≠ 0 := by rw [r1.1]; exact r1.2.2
        refine ⟨μ3, fr, Or.inl ⟨q, r1, hsy.trans r2⟩, ?_⟩
        rw [e0]
        simp (disch := (first | omega | (simp (disch := omega) only [sr_up, wr_up_o]; omega))) only [e173_57, e173_78, ks_99, ite_self, Bool.false_eq_true, eq_self, isk_t, i20_t, w20_t, l23_t, b21_t, b22_t, w_t, bif_t, bif_f, bif_d, if_pos, if_neg, if_true, if_false, not_true_eq_false, not_false_eq_true, Option.bind_some, Option.toList_some, Option.toList_none, List.cons_append, List.nil_append, Int.toNat_natCast, Int.reduceToNat, up_eq, up_p, up_k, sN,  hne ]
      · obtain ⟨hT3, hK3, h03⟩ := id r2
        have i41 := fun d => R_isS (ρ := ρ) (cs := cs) (d := d) r2 (w := 41) (k := 26) s41 (by omega)
        by_cases c26 : (tok b n a').1 = 26
        · rw [if_pos c26] at i41
          have i41 : ∀ d, am_E d 151 0 [some (.inr (.inr 99)), some (.inl 41)] [] (SH, ρ, μ3, cs) = some (some (.inl 1), (SH, ρ, μ3, cs)) := i41
          have hop3 : μ3 99 32 = (op : Int) + 1 := by rw [r3.1]; omega
          obtain ⟨μ4, k1, k2, k4⟩ := R_tokH (d := d + 1) (ρ := ρ) (cs := cs) hρ (rtk_up (k := 32) (v := (op : Int) + 1 - 1) hT3 (by omega)) (by rw [up_k (by omega)]; exact h03)
          have tg3 := tk_gt (b := b) r1.2 (show (tok b n a').1 ≠ 39 by omega)
          refine ⟨μ4, fe_tr (fe_up fr (by omega)) (fe_fw (fw_fr k1)), Or.inr ⟨(tok b n a').2.2.2, [], kn', o' ++ τ.map pz, ⟨by omega, tg3.2⟩, k2, ?_, ?_, fun x hx => (by cases hx), ?_, r7, Or.inl (by have := rnk_bd (tok b n (tok b n a').2.2.2).1; omega)⟩, ?_⟩
          · have : RE g (am_up μ3 99 32 ((op : Int) + 1 - 1)) B op kn' (o' ++ τ.map pz) := ⟨by rw [up_eq]; omega, by rw [up_k (by omega)]; exact r3.2.1, by rw [up_p (by omega)]; exact r3.2.2.1, or2_fr r3.2.2.2 (fun k => up_p (by omega)) (fun k => up_p (by omega))⟩
            have := re_fw this (fw_fr k1)
            simpa using this
          · obtain ⟨z1, z2, z3, z4⟩ := sv_app r5 r4
            refine ⟨?_, ?_, z3, by show op ≤ 8; omega⟩
            · have z1 : kn' = ((B + (o' ++ τ.map pz).length + (nop st + (if (25 : Int) = 25 then 0 else 1)) : Nat) : Int) := z1
              rw [if_pos rfl] at z1
              exact z1
            · have z2 : op + 1 = npn st + (if (25 : Int) = 25 then 1 else 0) := z2
              rw [if_pos rfl] at z2
              show op = npn st
              omega
          · rw [hsy, r6]
            exact sy_close r1.2 c26 r5
          · rw [e0]
            simp (disch := (first | omega | (simp (disch := omega) only [sr_up, wr_up_o]; omega))) only [e173_57, e173_70, e173_78, e173_100, ks_99, ite_self, Bool.false_eq_true, eq_self, isk_t, i20_t, w20_t, l23_t, b21_t, b22_t, w_t, bif_t, bif_f, bif_d, if_pos, if_neg, if_true, if_false, not_true_eq_false, not_false_eq_true, Option.bind_some, Option.toList_some, Option.toList_none, List.cons_append, List.nil_append, Int.toNat_natCast, Int.reduceToNat, up_eq, up_p, up_k, sN,  h03, i41, hop3, k4 ]
        · rw [if_neg c26] at i41
          have i41 : ∀ d, am_E d 151 0 [some (.inr (.inr 99)), some (.inl 41)] [] (SH, ρ, μ3, cs) = some (some (.inl 0), (SH, ρ, μ3, cs)) := i41
          have hw := fun d => R_wr (ρ := ρ) (cs := cs) (d := d) (f := 1) h03
          refine ⟨am_up (am_up μ3 99 28 1) 99 29 (μ3 99 25), fe_up (fe_up fr (by omega)) (by omega), Or.inl ⟨(1, (tok b n a').2.2.1), rf_wr hK3 (by decide), ?_⟩, ?_⟩
          · rw [hsy, r6]
            exact sy_bad r1.2 r8 (fun e => absurd e.2 (by show ¬ op + 1 = 0; omega)) (fun e => c26 e.1)
          · rw [e0]
            simp (disch := (first | omega | (simp (disch := omega) only [sr_up, wr_up_o]; omega))) only [e173_57, e173_70, e173_78, ks_99, ite_self, Bool.false_eq_true, eq_self, isk_t, i20_t, w20_t, l23_t, b21_t, b22_t, w_t, bif_t, bif_f, bif_d, if_pos, if_neg, if_true, if_false, not_true_eq_false, not_false_eq_true, Option.bind_some, Option.toList_some, Option.toList_none, List.cons_append, List.nil_append, Int.toNat_natCast, Int.reduceToNat, up_eq, up_p, up_k, sN,  h03, i41, hw ]
  · rw [if_neg c25] at i40
    have i40 : ∀ d, am_E d 151 0 [some (.inr (.inr 99)), some (.inl 40)] [] (SH, ρ, μ, cs) = some (some (.inl 0), (SH, ρ, μ, cs)) := i40
    by_cases c24 : (tok b n a).1 = 24
    · have s2 : μ 99 26 = 2 := by omega
      have v2 := (hK.2.2.2.1 c24).2
      have vn := nm_nn (b := b) c24
      by_cases cv : 9999 < (tok b n a).2.1
      · have hw := fun d => R_wr (ρ := ρ) (cs := cs) (d := d) (f := 2) h0
        have hne : (am_up (am_up μ 99 28 2) 99 29 (μ 99 25)) 99 28 ≠ 0 := by rw [up_k (by omega), up_eq]; decide
        have hk1 := R_knotF (ρ := ρ) (cs := cs) (d := d + 6) hne
        have hp1 := fun x y => R_putsF (ρ := ρ) (cs := cs) (d := d + 6) (x := x) (y := y) hρ hne
        have hg1 := R_goOnF (ρ := ρ) (cs := cs) (d := d) hne
        refine ⟨am_up (am_up μ 99 28 2) 99 29 (μ 99 25), fe_up (fe_up fe_rf (by omega)) (by omega), Or.inl ⟨(2, (tok b n a).2.2.1), rf_wr hK (by decide), ?_⟩, ?_⟩
        · rw [sy_tv ha]
          have : tvS (tok b n a).1 (tok b n a).2.1 (st, op, kn, o) = .inl 2 := by
            unfold tvS
            rw [if_pos c24, if_pos cv]
          rw [this]
        · generalize (tok b n a).2.1 = V at *
          simp (disch := (first | omega | (simp (disch := omega) only [sr_up, wr_up_o]; omega))) only [e173_0, e173_14, e173_134, e173_162, e173_166, e173_197, e173_201, ks_99, ite_self, Bool.false_eq_true, eq_self, isk_t, i20_t, w20_t, l23_t, b21_t, b22_t, w_t, bif_t, bif_f, bif_d, if_pos, if_neg, if_true, if_false, not_true_eq_false, not_false_eq_true, Option.bind_some, Option.toList_some, Option.toList_none, List.cons_append, List.nil_append, Int.toNat_natCast, Int.reduceToNat, up_eq, up_p, up_k, sN,  h0, i40, s2, v2, hw, hk1, hp1, hg1 ]
      · have e0 : am_E (d + 8) 173 0 [some (.inr (.inr 99)), none] [] (SH, ρ, μ, cs) = am_E (d + 8) 173 162 [some (.inr (.inr 99)), some (.inl 1)] [] (SH, ρ, μ, cs) := by
          generalize (tok b n a).2.1 = V at *
          simp (disch := (first | omega | (simp (disch := omega) only [sr_up, wr_up_o]; omega))) only [e173_0, e173_14, ks_99, ite_self, Bool.false_eq_true, eq_self, isk_t, i20_t, w20_t, l23_t, b21_t, b22_t, w_t, bif_t, bif_f, bif_d, if_pos, if_neg, if_true, if_false, not_true_eq_false, not_false_eq_true, Option.bind_some, Option.toList_some, Option.toList_none, List.cons_append, List.nil_append, Int.toNat_natCast, Int.reduceToNat, up_eq, up_p, up_k, sN,  h0, i40, s2, v2 ]
        obtain ⟨μ', w1, w2, w3⟩ := R_val (d := d) (ρ := ρ) (cs := cs) (x1 := 1) (X := 0) (Y := (tok b n a).2.1) (k := 24) (v := (tok b n a).2.1) hρ h hE hV ha (by omega) rfl rfl (by
          rw [sy_tv ha]
          have : tvS (tok b n a).1 (tok b n a).2.1 (st, op, kn, o) = pv 24 (tok b n a).2.1 (st, op, kn, o) := by
            unfold tvS
            rw [if_pos c24, if_neg cv]
          rw [this]
          unfold pv
          by_cases c : 64 ≤ kn
          · rw [if_pos c, if_pos c]
          · rw [if_neg c, if_neg c, c24]
            rfl) (fun μ1 e1 => by
          rw [v2] at e1
          generalize (tok b n a).2.1 = V at *
          simp (disch := (first | omega | (simp (disch := omega) only [sr_up, wr_up_o]; omega))) only [e173_166, ks_99, ite_self, Bool.false_eq_true, eq_self, isk_t, i20_t, w20_t, l23_t, b21_t, b22_t, w_t, bif_t, bif_f, bif_d, if_pos, if_neg, if_true, if_false, not_true_eq_false, not_false_eq_true, Option.bind_some, Option.toList_some, Option.toList_none, List.cons_append, List.nil_append, Int.toNat_natCast, Int.reduceToNat, up_eq, up_p, up_k, sN,  e1 ]) (fun μ1 hne => by
          have hp1 := fun x y => R_putsF (ρ := ρ) (cs := cs) (d := d + 6) (x := x) (y := y) hρ hne
          simp (disch := (first | omega | (simp (disch := omega) only [sr_up, wr_up_o]; omega))) only [e173_166, ks_99, ite_self, Bool.false_eq_true, eq_self, isk_t, i20_t, w20_t, l23_t, b21_t, b22_t, w_t, bif_t, bif_f, bif_d, if_pos, if_neg, if_true, if_false, not_true_eq_false, not_false_eq_true, Option.bind_some, Option.toList_some, Option.toList_none, List.cons_append, List.nil_append, Int.toNat_natCast, Int.reduceToNat, up_eq, up_p, up_k, sN,  hp1 ])
        exact ⟨μ', w1, w2, e0.trans w3⟩
    · by_cases c13 : 13 ≤ (tok b n a).1 ∧ (tok b n a).1 ≤ 19
      · have s2 : μ 99 26 = 0 := by omega
        have v2 := (hK.2.1 (by omega)).2
        have rr := rmp_16 t0 (show (tok b n a).1 ≤ 22 by omega)
        rw [rr.2 c13] at v2
        have e0 : am_E (d + 8) 173 0 [some (.inr (.inr 99)), none] [] (SH, ρ, μ, cs) = am_E (d + 8) 173 162 [some (.inr (.inr 99)), some (.inl 0)] [] (SH, ρ, μ, cs) := by
          generalize (tok b n a).1 = V at *
          simp (disch := (first | omega | (simp (disch := omega) only [sr_up, wr_up_o]; omega))) only [e173_0, e173_14, ks_99, ite_self, Bool.false_eq_true, eq_self, isk_t, i20_t, w20_t, l23_t, b21_t, b22_t, w_t, bif_t, bif_f, bif_d, if_pos, if_neg, if_true, if_false, not_true_eq_false, not_false_eq_true, Option.bind_some, Option.toList_some, Option.toList_none, List.cons_append, List.nil_append, Int.toNat_natCast, Int.reduceToNat, up_eq, up_p, up_k, sN,  h0, i40, s2, v2 ]
        have ev : ∀ V : Int, V + 3 - 16 = V - 13 := by intro V; omega
        obtain ⟨μ', w1, w2, w3⟩ := R_val (d := d) (ρ := ρ) (cs := cs) (x1 := 0) (X := 1) (Y := (tok b n a).1 - 13) (k := 13) (v := (tok b n a).1 - 13) hρ h hE hV ha (by omega) rfl rfl (by
          rw [sy_tv ha]
          have : tvS (tok b n a).1 (tok b n a).2.1 (st, op, kn, o) = pv 13 ((tok b n a).1 - 13) (st, op, kn, o) := by
            unfold tvS
            rw [if_neg c24, if_pos c13]
          rw [this]
          unfold pv
          by_cases c : 64 ≤ kn
          · rw [if_pos c, if_pos c]
          · rw [if_neg c, if_neg c]
            have hd : dueB (tok b n a).1 = false := by
              generalize (tok b n a).1 = V at *
              unfold dueB rnk
              simp (disch := omega) only [if_neg]
              exact decide_eq_false (by omega)
            rw [hd]) (fun μ1 e1 => by
          rw [v2] at e1
          generalize (tok b n a).1 = V at *
          simp (disch := (first | omega | (simp (disch := omega) only [sr_up, wr_up_o]; omega))) only [e173_166, ks_99, ite_self, Bool.false_eq_true, eq_self, isk_t, i20_t, w20_t, l23_t, b21_t, b22_t, w_t, bif_t, bif_f, bif_d, if_pos, if_neg, if_true, if_false, not_true_eq_false, not_false_eq_true, Option.bind_some, Option.toList_some, Option.toList_none, List.cons_append, List.nil_append, Int.toNat_natCast, Int.reduceToNat, up_eq, up_p, up_k, sN,  e1, ev ]) (fun μ1 hne => by
          have hp1 := fun x y => R_putsF (ρ := ρ) (cs := cs) (d := d + 6) (x := x) (y := y) hρ hne
          simp (disch := (first | omega | (simp (disch := omega) only [sr_up, wr_up_o]; omega))) only [e173_166, ks_99, ite_self, Bool.false_eq_true, eq_self, isk_t, i20_t, w20_t, l23_t, b21_t, b22_t, w_t, bif_t, bif_f, bif_d, if_pos, if_neg, if_true, if_false, not_true_eq_false, not_false_eq_true, Option.bind_some, Option.toList_some, Option.toList_none, List.cons_append, List.nil_append, Int.toNat_natCast, Int.reduceToNat, up_eq, up_p, up_k, sN,  hp1 ])
        exact ⟨μ', w1, w2, e0.trans w3⟩
      · have hw := fun d => R_wr (ρ := ρ) (cs := cs) (d := d) (f := 1) h0
        have hne : (am_up (am_up μ 99 28 1) 99 29 (μ 99 25)) 99 28 ≠ 0 := by rw [up_k (by omega), up_eq]; decide
        have hk1 := R_knotF (ρ := ρ) (cs := cs) (d := d + 6) hne
        have hp1 := fun x y => R_putsF (ρ := ρ) (cs := cs) (d := d + 6) (x := x) (y := y) hρ hne
        have hg1 := R_goOnF (ρ := ρ) (cs := cs) (d := d) hne
        refine ⟨am_up (am_up μ 99 28 1) 99 29 (μ 99 25), fe_up (fe_up fe_rf (by omega)) (by omega), Or.inl ⟨(1, (tok b n a).2.2.1), rf_wr hK (by decide), ?_⟩, ?_⟩
        · rw [sy_tv ha]
          have : tvS (tok b n a).1 (tok b n a).2.1 (st, op, kn, o) = .inl 1 := by
            unfold tvS
            rw [if_neg c24, if_neg c13, if_neg (fun e => by
              rcases h20 e.1 with q | q
              · omega
              · have := e.2
                have e2 : rnk (topS st) ≤ 3 := this
                omega), if_neg c25]
          rw [this]
        · have s2 : ¬ μ 99 26 = 2 := by omega
          by_cases s0 : μ 99 26 = 0
          · have c22 : (tok b n a).1 ≤ 22 := by omega
            have v2 := (hK.2.1 c22).2
            have rr := (rmp_16 t0 c22).1
            have v3 : ¬ 16 ≤ rmp (tok b n a).1 := fun e => c13 (rr.mp e)
            generalize rmp (tok b n a).1 = V at *
            simp (disch := (first | omega | (simp (disch := omega) only [sr_up, wr_up_o]; omega))) only [e173_0, e173_14, e173_162, e173_166, e173_197, e173_201, ks_99, ite_self, Bool.false_eq_true, eq_self, isk_t, i20_t, w20_t, l23_t, b21_t, b22_t, w_t, bif_t, bif_f, bif_d, if_pos, if_neg, if_true, if_false, not_true_eq_false, not_false_eq_true, Option.bind_some, Option.toList_some, Option.toList_none, List.cons_append, List.nil_append, Int.toNat_natCast, Int.reduceToNat, up_eq, up_p, up_k, sN,  h0, i40, s2, s0, v2, v3, hw, hk1, hp1, hg1 ]
          · simp (disch := (first | omega | (simp (disch := omega) only [sr_up, wr_up_o]; omega))) only [e173_0, e173_14, e173_162, e173_166, e173_197, e173_201, ks_99, ite_self, Bool.false_eq_true, eq_self, isk_t, i20_t, w20_t, l23_t, b21_t, b22_t, w_t, bif_t, bif_f, bif_d, if_pos, if_neg, if_true, if_false, not_true_eq_false, not_false_eq_true, Option.bind_some, Option.toList_some, Option.toList_none, List.cons_append, List.nil_append, Int.toNat_natCast, Int.reduceToNat, up_eq, up_p, up_k, sN,  h0, i40, s2, s0, hw, hk1, hp1, hg1 ]
end RPR
