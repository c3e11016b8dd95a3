/-! TEXT: the reference reads a story -/
def RSt (ρ : Nat → Nat → Nat) (cs : Nat × Nat × Nat) (μ : Nat → Nat → Int) (run : (Nat → Nat → Int) → Option am_Res) (x : PE (MS × Nat × Nat)) : Prop := ∃ μ', FZ μ μ' ∧ run μ = run μ' ∧ match x with
  | .inl q => RF μ' q
  | .inr z => SR2 μ' = z.1 ∧ μ' 99 28 = 0 ∧ μ' 99 26 = 4 ∧ μ' 99 22 = (z.2.2 : Int) ∧ μ' 99 29 = -1
section RSY
variable {ρ : Nat → Nat → Nat} {cs : Nat × Nat × Nat} {d n : Nat} {b : Nat → Int}
theorem R_story (hρ : RM ρ) {x1 x2 : Int} : ∀ (f : Nat) (Z : MS) (ts L a : Nat) (μ : Nat → Nat → Int), n - a + 1 ≤ f → L ≤ a → a ≤ n → RH μ b n a → SR2 μ = Z → SI Z → LB Z → TD μ ts Z → μ 99 32 = 0 → μ 99 33 = Z 0 9 → μ 99 22 = (L : Int) → RSt ρ cs μ (fun μ => am_E (d + 201) 175 148 [some (.inr (.inr 99)), some (.inl x1), some (.inl x2)] [] (SH, ρ, μ, cs)) (pSF b n f Z ts L a) := by
  intro f
  induction f with
  | zero => intro Z ts L a μ h; omega
  | succ f ih =>
    intro Z ts L a μ hf hLa ha h hZ hS hl hT h32 h33 h22
    have hn : n ≤ 700 := h.1.1
    obtain ⟨hT2, hK, h0⟩ := id h
    have hs := rk_sort hK (tok_nn b n a) (tok_39 b n a)
    by_cases c : (tok b n a).1 = 39
    · have e : pSF b n (f + 1) Z ts L a = .inr (Z, ts, L) := by
        unfold pSF
        rw [if_pos c]
      rw [e]
      exact ⟨μ, fz_rf μ, rfl, hZ, h0, by omega, h22, hT2.2.2.2.2.2⟩
    · have e : pSF b n (f + 1) Z ts L a = match pL b n Z ts (tok b n a) with
          | .inl q => .inl q
          | .inr z => pSF b n f z.1.1 z.2 (L + 1) z.1.2 := by
        show (if (tok b n a).1 = 39 then _ else _) = _
        rw [if_neg c]
        cases pL b n Z ts (tok b n a) <;> rfl
      rw [e]
      have s4 : ¬ μ 99 26 = 4 := by omega
      have hL := R_line (d := d) (ρ := ρ) (cs := cs) hρ h (by omega) (by omega) hZ hS hl hT h32 h33
      obtain ⟨μ', f1, f2⟩ := hL
      cases hp : pL b n Z ts (tok b n a) with
      | inl q =>
        rw [hp] at f2
        obtain ⟨g1, g2⟩ := f2
        refine ⟨μ', f1, ?_, g1⟩
        show am_E (d + 201) 175 148 [some (.inr (.inr 99)), some (.inl x1), some (.inl x2)] [] (SH, ρ, μ, cs) = am_E (d + 201) 175 148 [some (.inr (.inr 99)), some (.inl x1), some (.inl x2)] [] (SH, ρ, μ', cs)
        rw [e175_148]; simp (disch := (first | omega | (simp (disch := omega) only [sr_up, wr_up_o]; omega))) only [e175_167, ks_101, ks_99, rm_number hρ, ite_self, Bool.false_eq_true, eq_self, isk_t, i20_t, w20_t, l23_t, b21_t, b22_t, w_t, bif_t, bif_f, bif_d, if_pos, if_neg, if_true, if_false, not_true_eq_false, not_false_eq_true, Option.bind_some, Option.toList_some, Option.toList_none, List.cons_append, List.nil_append, Int.toNat_natCast, Int.reduceToNat, up_eq, up_p, up_k, sN,  h0, s4, g2 ]
      | inr z =>
        rw [hp] at f2
        obtain ⟨g1, g2, g3, g4, g5, g6, g7⟩ := f2
        obtain ⟨o1, o2, o3, o4⟩ := pL_ok hS hl ha c hp
        obtain ⟨μ3, k1, k2, k3⟩ := ih z.1.1 z.2 (L + 1) z.1.2 μ' (by omega) (by omega) o4 g1 g2 o1 o2 g4 g5 g6 (by rw [g3, h22]; omega)
        have run : am_E (d + 201) 175 148 [some (.inr (.inr 99)), some (.inl x1), some (.inl x2)] [] (SH, ρ, μ, cs) = am_E (d + 201) 175 148 [some (.inr (.inr 99)), some (.inl x1), some (.inl x2)] [] (SH, ρ, μ', cs) := by
          rw [e175_148]; simp (disch := (first | omega | (simp (disch := omega) only [sr_up, wr_up_o]; omega))) only [e175_167, ks_101, ks_99, rm_number hρ, ite_self, Bool.false_eq_true, eq_self, isk_t, i20_t, w20_t, l23_t, b21_t, b22_t, w_t, bif_t, bif_f, bif_d, if_pos, if_neg, if_true, if_false, not_true_eq_false, not_false_eq_true, Option.bind_some, Option.toList_some, Option.toList_none, List.cons_append, List.nil_append, Int.toNat_natCast, Int.reduceToNat, up_eq, up_p, up_k, sN,  h0, s4, g7 ]
        refine ⟨μ3, fz_tr f1 k1, run.trans k2, ?_⟩
        show match pSF b n f z.1.1 z.2 (L + 1) z.1.2 with
          | .inl q => RF μ3 q
          | .inr z => SR2 μ3 = z.1 ∧ μ3 99 28 = 0 ∧ μ3 99 26 = 4 ∧ μ3 99 22 = (z.2.2 : Int) ∧ μ3 99 29 = -1
        cases hq : pSF b n f z.1.1 z.2 (L + 1) z.1.2 with
        | inl q => rw [hq] at k3; exact k3
        | inr y => rw [hq] at k3; exact k3
end RSY
