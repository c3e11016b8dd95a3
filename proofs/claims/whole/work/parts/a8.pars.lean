/-! TEXT: what a line asks, by its tokens -/
abbrev PE (α : Type) : Type := Sum (Int × Nat) α
def nN (b : Nat → Int) (n : Nat) (f : Nat → Int) (c a : Nat) : PE (Int × Nat) := if (tok b n a).1 ≠ 23 then .inl (1, (tok b n a).2.2.1) else if 0 ≤ fnd f 0 (tok b n a).2.1 c 0 then .inl (3, (tok b n a).2.2.1) else .inr ((tok b n a).2.1, (tok b n a).2.2.2)
def oN (b : Nat → Int) (n : Nat) (f : Nat → Int) (c a : Nat) : PE (Int × Nat) := if (tok b n a).1 ≠ 23 then .inl (1, (tok b n a).2.2.1) else if fnd f 0 (tok b n a).2.1 c 0 < 0 then .inl (4, (tok b n a).2.2.1) else .inr (fnd f 0 (tok b n a).2.1 c 0, (tok b n a).2.2.2)
def nU (b : Nat → Int) (n : Nat) (lo hi : Int) (a : Nat) : PE (Int × Nat) := if (tok b n a).1 ≠ 24 then .inl (1, (tok b n a).2.2.1) else if (tok b n a).2.1 < lo ∨ hi < (tok b n a).2.1 then .inl (2, (tok b n a).2.2.1) else .inr ((tok b n a).2.1, (tok b n a).2.2.2)
def lE (b : Nat → Int) (n : Nat) (a : Nat) : PE Nat := if (tok b n a).1 ≠ 27 then .inl (1, (tok b n a).2.2.1) else .inr (tok b n a).2.2.2
def zp (Z : MS) (a : Nat) (k v : Int) : MS := fun a' k' => if a' = a ∧ k'.toNat = k.toNat then v else Z a' k'
theorem zp_eq {Z : MS} {a : Nat} {k v : Int} : zp Z a k v a k = v := if_pos ⟨rfl, rfl⟩
theorem zp_ne {Z : MS} {a a' : Nat} {k k' v : Int} (h : a' ≠ a ∨ k'.toNat ≠ k.toNat) : zp Z a k v a' k' = Z a' k' := if_neg (fun e => by omega)
def bnd {α β : Type} (x : PE α) (f : α → PE β) : PE β := match x with
  | .inl e => .inl e
  | .inr v => f v
def nmR (Z : MS) (a : Nat) : Nat → Int := fun k => Z a k
def pMan (b : Nat → Int) (n : Nat) (Z : MS) (pk a : Nat) : PE (MS × Nat) :=
  if 7 ≤ Z 0 0 then .inl (2, pk) else bnd (nN b n (nmR Z 1) (Z 0 0).toNat a) fun q => bnd (nU b n 0 9 q.2) fun w => bnd (lE b n w.2) fun a' => .inr (zp (zp (zp Z 1 (Z 0 0) q.1) 2 (Z 0 0) w.1) 0 0 (Z 0 0 + 1), a')
def pThing (b : Nat → Int) (n : Nat) (Z : MS) (pk a : Nat) : PE (MS × Nat) :=
  if 6 ≤ Z 0 1 then .inl (2, pk) else bnd (nN b n (nmR Z 3) (Z 0 1).toNat a) fun q => bnd (nU b n 0 99 q.2) fun w => bnd (nU b n 0 99 w.2) fun x => bnd (lE b n x.2) fun a' => .inr (zp (zp (zp (zp Z 3 (Z 0 1) q.1) 4 (Z 0 1) w.1) 5 (Z 0 1) x.1) 0 1 (Z 0 1 + 1), a')
def pSees (b : Nat → Int) (n : Nat) (Z : MS) (pk a : Nat) : PE (MS × Nat) :=
  if 10 ≤ Z 0 2 then .inl (2, pk) else bnd (oN b n (nmR Z 1) (Z 0 0).toNat a) fun q => bnd (oN b n (nmR Z 3) (Z 0 1).toNat q.2) fun w => if seeB Z q.1 w.1 (Z 0 2).toNat 0 = true then .inl (3, (tok b n q.2).2.2.1) else bnd (lE b n w.2) fun a' => .inr (zp (zp (zp Z 6 (Z 0 2) q.1) 7 (Z 0 2) w.1) 0 2 (Z 0 2 + 1), a')
def pWay (b : Nat → Int) (n : Nat) (Z : MS) (pk a : Nat) : PE (MS × Nat) :=
  if 12 ≤ Z 0 3 then .inl (2, pk) else bnd (oN b n (nmR Z 1) (Z 0 0).toNat a) fun q => bnd (oN b n (nmR Z 1) (Z 0 0).toNat q.2) fun w => if w.1 = q.1 then .inl (5, (tok b n q.2).2.2.1) else bnd (nU b n 1 9 w.2) fun x => bnd (lE b n x.2) fun a' => .inr (zp (zp (zp (zp Z 8 (Z 0 3) q.1) 9 (Z 0 3) w.1) 10 (Z 0 3) x.1) 0 3 (Z 0 3 + 1), a')
def pTell (b : Nat → Int) (n : Nat) (Z : MS) (pk a : Nat) : PE (MS × Nat) :=
  if 12 ≤ Z 0 4 then .inl (2, pk) else bnd (oN b n (nmR Z 1) (Z 0 0).toNat a) fun q => bnd (oN b n (nmR Z 3) (Z 0 1).toNat q.2) fun w => bnd (nU b n 0 99 w.2) fun x => bnd (lE b n x.2) fun a' => .inr (zp (zp (zp (zp Z 11 (Z 0 4) q.1) 12 (Z 0 4) w.1) 13 (Z 0 4) x.1) 0 4 (Z 0 4 + 1), a')
def mxS (s : Int) : Int := if s = 2 then 100 else if s = 3 then 99999 else 99
def pSet (b : Nat → Int) (n : Nat) (Z : MS) (ts : Nat) (s : Int) (pk a : Nat) : PE (MS × Nat) :=
  if ts.testBit s.toNat = true then .inl (3, pk) else bnd (nU b n 0 (mxS s) a) fun q => bnd (lE b n q.2) fun a' => .inr (zp Z 0 (5 + s) q.1, a')
theorem nN_inr {b : Nat → Int} {n : Nat} {f : Nat → Int} {c a : Nat} {q : Int × Nat} (h : nN b n f c a = .inr q) : (tok b n a).1 = 23 ∧ fnd f 0 (tok b n a).2.1 c 0 < 0 ∧ q = ((tok b n a).2.1, (tok b n a).2.2.2) := by
  unfold nN at h
  by_cases c1 : (tok b n a).1 ≠ 23
  · rw [if_pos c1] at h; cases h
  · rw [if_neg c1] at h
    by_cases c2 : 0 ≤ fnd f 0 (tok b n a).2.1 c 0
    · rw [if_pos c2] at h; cases h
    · rw [if_neg c2] at h; cases h
      exact ⟨by omega, by omega, rfl⟩
theorem nN_inl {b : Nat → Int} {n : Nat} {f : Nat → Int} {c a : Nat} {q : Int × Nat} (h : nN b n f c a = .inl q) : ((tok b n a).1 ≠ 23 ∧ q = (1, (tok b n a).2.2.1)) ∨ ((tok b n a).1 = 23 ∧ 0 ≤ fnd f 0 (tok b n a).2.1 c 0 ∧ q = (3, (tok b n a).2.2.1)) := by
  unfold nN at h
  by_cases c1 : (tok b n a).1 ≠ 23
  · rw [if_pos c1] at h; cases h; exact Or.inl ⟨c1, rfl⟩
  · rw [if_neg c1] at h
    by_cases c2 : 0 ≤ fnd f 0 (tok b n a).2.1 c 0
    · rw [if_pos c2] at h; cases h; exact Or.inr ⟨by omega, c2, rfl⟩
    · rw [if_neg c2] at h; cases h
theorem oN_inr {b : Nat → Int} {n : Nat} {f : Nat → Int} {c a : Nat} {q : Int × Nat} (h : oN b n f c a = .inr q) : (tok b n a).1 = 23 ∧ 0 ≤ fnd f 0 (tok b n a).2.1 c 0 ∧ q = (fnd f 0 (tok b n a).2.1 c 0, (tok b n a).2.2.2) := by
  unfold oN at h
  by_cases c1 : (tok b n a).1 ≠ 23
  · rw [if_pos c1] at h; cases h
  · rw [if_neg c1] at h
    by_cases c2 : fnd f 0 (tok b n a).2.1 c 0 < 0
    · rw [if_pos c2] at h; cases h
    · rw [if_neg c2] at h; cases h
      exact ⟨by omega, by omega, rfl⟩
theorem oN_inl {b : Nat → Int} {n : Nat} {f : Nat → Int} {c a : Nat} {q : Int × Nat} (h : oN b n f c a = .inl q) : ((tok b n a).1 ≠ 23 ∧ q = (1, (tok b n a).2.2.1)) ∨ ((tok b n a).1 = 23 ∧ fnd f 0 (tok b n a).2.1 c 0 < 0 ∧ q = (4, (tok b n a).2.2.1)) := by
  unfold oN at h
  by_cases c1 : (tok b n a).1 ≠ 23
  · rw [if_pos c1] at h; cases h; exact Or.inl ⟨c1, rfl⟩
  · rw [if_neg c1] at h
    by_cases c2 : fnd f 0 (tok b n a).2.1 c 0 < 0
    · rw [if_pos c2] at h; cases h; exact Or.inr ⟨by omega, c2, rfl⟩
    · rw [if_neg c2] at h; cases h
theorem nU_inr {b : Nat → Int} {n : Nat} {lo hi : Int} {a : Nat} {q : Int × Nat} (h : nU b n lo hi a = .inr q) : (tok b n a).1 = 24 ∧ (lo ≤ (tok b n a).2.1 ∧ (tok b n a).2.1 ≤ hi) ∧ q = ((tok b n a).2.1, (tok b n a).2.2.2) := by
  unfold nU at h
  by_cases c1 : (tok b n a).1 ≠ 24
  · rw [if_pos c1] at h; cases h
  · rw [if_neg c1] at h
    by_cases c2 : (tok b n a).2.1 < lo ∨ hi < (tok b n a).2.1
    · rw [if_pos c2] at h; cases h
    · rw [if_neg c2] at h; cases h
      exact ⟨by omega, by omega, rfl⟩
theorem nU_inl {b : Nat → Int} {n : Nat} {lo hi : Int} {a : Nat} {q : Int × Nat} (h : nU b n lo hi a = .inl q) : ((tok b n a).1 ≠ 24 ∧ q = (1, (tok b n a).2.2.1)) ∨ ((tok b n a).1 = 24 ∧ ((tok b n a).2.1 < lo ∨ hi < (tok b n a).2.1) ∧ q = (2, (tok b n a).2.2.1)) := by
  unfold nU at h
  by_cases c1 : (tok b n a).1 ≠ 24
  · rw [if_pos c1] at h; cases h; exact Or.inl ⟨c1, rfl⟩
  · rw [if_neg c1] at h
    by_cases c2 : (tok b n a).2.1 < lo ∨ hi < (tok b n a).2.1
    · rw [if_pos c2] at h; cases h; exact Or.inr ⟨by omega, c2, rfl⟩
    · rw [if_neg c2] at h; cases h
theorem lE_inr {b : Nat → Int} {n a a' : Nat} (h : lE b n a = .inr a') : (tok b n a).1 = 27 ∧ a' = (tok b n a).2.2.2 := by
  unfold lE at h
  by_cases c1 : (tok b n a).1 ≠ 27
  · rw [if_pos c1] at h; cases h
  · rw [if_neg c1] at h; cases h; exact ⟨by omega, rfl⟩
theorem lE_inl {b : Nat → Int} {n a : Nat} {q : Int × Nat} (h : lE b n a = .inl q) : (tok b n a).1 ≠ 27 ∧ q = (1, (tok b n a).2.2.1) := by
  unfold lE at h
  by_cases c1 : (tok b n a).1 ≠ 27
  · rw [if_pos c1] at h; cases h; exact ⟨c1, rfl⟩
  · rw [if_neg c1] at h; cases h
section XLN
variable {ρ : Nat → Nat → Nat} {μ : Nat → Nat → Int} {cs : Nat × Nat × Nat} {d n a c : Nat} {b : Nat → Int}
/-- what a reader's step comes to: a fault, its place at hand; or it goes on -/
def XO (ρ : Nat → Nat → Nat) (b : Nat → Int) (n : Nat) (μ' : Nat → Nat → Int) (x : PE (Int × Nat)) : Prop := match x with
  | .inl q => μ' 41 6 = (q.2 : Int)
  | .inr q => XTk ρ μ' b n q.2
def XF (x : PE (Int × Nat)) : Int := match x with
  | .inl q => q.1
  | .inr _ => 0
theorem X_nN (hx : XM ρ) (h : XTk ρ μ b n a) {q len : Nat} (hk : am_ks SH cs.2.2 q = (20, len)) (hl : len < 1000) (hc : c ≤ len) (hq : q ≠ 41) : ∃ μ', FT μ μ' ∧ XO ρ b n μ' (nN b n (μ q) c a) ∧ (∀ y, nN b n (μ q) c a = .inr y → μ' 41 5 = y.1) ∧ am_E (d + 3) 44 0 [some (.inr (.inr 40)), some (.inr (.inr q)), some (.inl (c : Int))] [] (SH, ρ, μ, cs) = some (some (.inl (XF (nN b n (μ q) c a))), (SH, ρ, μ', cs)) := by
  obtain ⟨μ', f1, f2, f3, f4⟩ := X_next (d := d) (cs := cs) hx h
  have hp := fun d => X_placeOf (ρ := ρ) (μ := μ') (cs := cs) (d := d) (q := q) (z := μ' 41 5) (sz := (c : Int)) hk hl (by omega) (by omega) c 0 (by omega)
  have ef : fnd (μ' q) 0 (μ' 41 5) c 0 = fnd (μ q) 0 (μ' 41 5) c 0 := fnd_c c 0 (fun j _ _ => f1 q j (by omega))
  rw [ef] at hp
  obtain ⟨k4, k6, k5, -⟩ := f3
  refine ⟨μ', f1, ?_, ?_, ?_⟩
  · cases hh : nN b n (μ q) c a with
    | inl y => rcases nN_inl hh with ⟨_, rfl⟩ | ⟨_, _, rfl⟩ <;> exact k6
    | inr y => obtain ⟨_, _, rfl⟩ := nN_inr hh; exact f2
  · intro y hh
    obtain ⟨g1, _, rfl⟩ := nN_inr hh
    exact k5 (by omega)
  · cases hh : nN b n (μ q) c a with
    | inl y =>
      rcases nN_inl hh with ⟨g1, rfl⟩ | ⟨g1, g2, rfl⟩
      · simp (disch := omega) only [e44_0, e44_7, xk_0, xk_1, xk_40, xk_41, xk_42, xk_43, xk_44, xk_45, xk_46, xk_47, xk_48, xk_49, xk_50, xk_51, xk_52, xk_53, xk_54, xk_55, xk_56, xk_57, xk_58, xk_59, xk_60, xk_61, xk_62, xk_63, xk_64, xk_65, xk_66, xk_67, xk_68, xk_69, xk_70, xk_71, xk_72, xk_73, xk_74, xk_75, xk_76, xk_77, xk_78, xk_79, xk_80, xk_81, xk_82, xk_83, xk_84, xk_85, xk_86, xk_87, xk_88, xk_89, xk_90, xk_91, xk_92, xk_93, xk_94, xk_95, xk_96, xk_97, xk_98, xm_0_0 hx, xm_0_10 hx, xm_0_11 hx, xm_0_12 hx, xm_0_13 hx, xm_0_14 hx, xm_0_15 hx, xm_0_2 hx, xm_0_9 hx, xm_40_0 hx, xm_40_1 hx, xm_41_0 hx, xm_44_0 hx, xm_44_1 hx, xm_73_4 hx, xm_73_5 hx, xm_73_6 hx, xm_77_1 hx, xm_77_2 hx, xm_77_3 hx, xm_77_4 hx, xm_77_5 hx, xm_77_6 hx, xm_77_7 hx, xm_77_8 hx, xm_77_9 hx, xm_87_2 hx, xm_87_3 hx, xm_87_4 hx, xm_87_5 hx, xm_87_6 hx, xm_87_7 hx, xm_87_8 hx, ite_self, Bool.false_eq_true, eq_self, isk_t, i20_t, w20_t, l23_t, b21_t, b22_t, w_t, bif_t, bif_f, bif_d, if_pos, if_neg, if_true, if_false, not_true_eq_false, not_false_eq_true, Option.bind_some, Option.toList_some, Option.toList_none, List.cons_append, List.nil_append, Int.toNat_natCast, Int.reduceToNat, up_eq, up_p, up_k, sN,  f4, k4, g1 ]
        all_goals rfl
      · rw [k5 (by omega)] at hp
        have k5' := k5 (by omega)
        generalize fnd (μ q) 0 (tok b n a).2.1 c 0 = F at *
        have hp : ∀ d, am_E d 58 2 [some (.inl ((tok b n a).2.1)), some (.inr (.inr q)), some (.inl (c : Int)), some (.inl 0)] [] (SH, ρ, μ', cs) = some (some (.inl F), (SH, ρ, μ', cs)) := hp
        simp (disch := omega) only [e44_0, e44_7, e44_33, e58_0, xk_0, xk_1, xk_40, xk_41, xk_42, xk_43, xk_44, xk_45, xk_46, xk_47, xk_48, xk_49, xk_50, xk_51, xk_52, xk_53, xk_54, xk_55, xk_56, xk_57, xk_58, xk_59, xk_60, xk_61, xk_62, xk_63, xk_64, xk_65, xk_66, xk_67, xk_68, xk_69, xk_70, xk_71, xk_72, xk_73, xk_74, xk_75, xk_76, xk_77, xk_78, xk_79, xk_80, xk_81, xk_82, xk_83, xk_84, xk_85, xk_86, xk_87, xk_88, xk_89, xk_90, xk_91, xk_92, xk_93, xk_94, xk_95, xk_96, xk_97, xk_98, xm_0_0 hx, xm_0_10 hx, xm_0_11 hx, xm_0_12 hx, xm_0_13 hx, xm_0_14 hx, xm_0_15 hx, xm_0_2 hx, xm_0_9 hx, xm_40_0 hx, xm_40_1 hx, xm_41_0 hx, xm_44_0 hx, xm_44_1 hx, xm_73_4 hx, xm_73_5 hx, xm_73_6 hx, xm_77_1 hx, xm_77_2 hx, xm_77_3 hx, xm_77_4 hx, xm_77_5 hx, xm_77_6 hx, xm_77_7 hx, xm_77_8 hx, xm_77_9 hx, xm_87_2 hx, xm_87_3 hx, xm_87_4 hx, xm_87_5 hx, xm_87_6 hx, xm_87_7 hx, xm_87_8 hx, ite_self, Bool.false_eq_true, eq_self, isk_t, i20_t, w20_t, l23_t, b21_t, b22_t, w_t, bif_t, bif_f, bif_d, if_pos, if_neg, if_true, if_false, not_true_eq_false, not_false_eq_true, Option.bind_some, Option.toList_some, Option.toList_none, List.cons_append, List.nil_append, Int.toNat_natCast, Int.reduceToNat, up_eq, up_p, up_k, sN,  f4, k4, g1, k5', hp ]
        all_goals rfl
    | inr y =>
      obtain ⟨g1, g2, rfl⟩ := nN_inr hh
      rw [k5 (by omega)] at hp
      have k5' := k5 (by omega)
      generalize fnd (μ q) 0 (tok b n a).2.1 c 0 = F at *
      have hp : ∀ d, am_E d 58 2 [some (.inl ((tok b n a).2.1)), some (.inr (.inr q)), some (.inl (c : Int)), some (.inl 0)] [] (SH, ρ, μ', cs) = some (some (.inl F), (SH, ρ, μ', cs)) := hp
      simp (disch := omega) only [e44_0, e44_7, e44_33, e58_0, xk_0, xk_1, xk_40, xk_41, xk_42, xk_43, xk_44, xk_45, xk_46, xk_47, xk_48, xk_49, xk_50, xk_51, xk_52, xk_53, xk_54, xk_55, xk_56, xk_57, xk_58, xk_59, xk_60, xk_61, xk_62, xk_63, xk_64, xk_65, xk_66, xk_67, xk_68, xk_69, xk_70, xk_71, xk_72, xk_73, xk_74, xk_75, xk_76, xk_77, xk_78, xk_79, xk_80, xk_81, xk_82, xk_83, xk_84, xk_85, xk_86, xk_87, xk_88, xk_89, xk_90, xk_91, xk_92, xk_93, xk_94, xk_95, xk_96, xk_97, xk_98, xm_0_0 hx, xm_0_10 hx, xm_0_11 hx, xm_0_12 hx, xm_0_13 hx, xm_0_14 hx, xm_0_15 hx, xm_0_2 hx, xm_0_9 hx, xm_40_0 hx, xm_40_1 hx, xm_41_0 hx, xm_44_0 hx, xm_44_1 hx, xm_73_4 hx, xm_73_5 hx, xm_73_6 hx, xm_77_1 hx, xm_77_2 hx, xm_77_3 hx, xm_77_4 hx, xm_77_5 hx, xm_77_6 hx, xm_77_7 hx, xm_77_8 hx, xm_77_9 hx, xm_87_2 hx, xm_87_3 hx, xm_87_4 hx, xm_87_5 hx, xm_87_6 hx, xm_87_7 hx, xm_87_8 hx, ite_self, Bool.false_eq_true, eq_self, isk_t, i20_t, w20_t, l23_t, b21_t, b22_t, w_t, bif_t, bif_f, bif_d, if_pos, if_neg, if_true, if_false, not_true_eq_false, not_false_eq_true, Option.bind_some, Option.toList_some, Option.toList_none, List.cons_append, List.nil_append, Int.toNat_natCast, Int.reduceToNat, up_eq, up_p, up_k, sN,  f4, k4, g1, k5', hp ]
      all_goals rfl
theorem X_oN (hx : XM ρ) (h : XTk ρ μ b n a) {q len : Nat} (hk : am_ks SH cs.2.2 q = (20, len)) (hl : len < 1000) (hc : c ≤ len) (hq : q ≠ 41) : ∃ μ', (∀ q k, ¬ (q = 41 ∧ 3 ≤ k ∧ k ≤ 6) → ¬ (q = 40 ∧ k = 5) → μ' q k = μ q k) ∧ XO ρ b n μ' (oN b n (μ q) c a) ∧ (∀ y, oN b n (μ q) c a = .inr y → μ' 40 5 = y.1 ∧ μ' 41 6 = ((tok b n a).2.2.1 : Int)) ∧ am_E (d + 3) 45 0 [some (.inr (.inr 40)), some (.inr (.inr q)), some (.inl (c : Int)), none] [] (SH, ρ, μ, cs) = some (some (.inl (XF (oN b n (μ q) c a))), (SH, ρ, μ', cs)) := by
  obtain ⟨μ', f1, f2, f3, f4⟩ := X_next (d := d) (cs := cs) hx h
  have hp := fun d => X_placeOf (ρ := ρ) (μ := μ') (cs := cs) (d := d) (q := q) (z := μ' 41 5) (sz := (c : Int)) hk hl (by omega) (by omega) c 0 (by omega)
  have ef : fnd (μ' q) 0 (μ' 41 5) c 0 = fnd (μ q) 0 (μ' 41 5) c 0 := fnd_c c 0 (fun j _ _ => f1 q j (by omega))
  rw [ef] at hp
  obtain ⟨k4, k6, k5, -⟩ := f3
  cases hh : oN b n (μ q) c a with
  | inl y =>
    rcases oN_inl hh with ⟨g1, rfl⟩ | ⟨g1, g2, rfl⟩
    · refine ⟨μ', fun q k h0 _ => f1 q k h0, k6, fun y z => (by cases z), ?_⟩
      simp (disch := omega) only [e45_0, e45_7, xk_0, xk_1, xk_40, xk_41, xk_42, xk_43, xk_44, xk_45, xk_46, xk_47, xk_48, xk_49, xk_50, xk_51, xk_52, xk_53, xk_54, xk_55, xk_56, xk_57, xk_58, xk_59, xk_60, xk_61, xk_62, xk_63, xk_64, xk_65, xk_66, xk_67, xk_68, xk_69, xk_70, xk_71, xk_72, xk_73, xk_74, xk_75, xk_76, xk_77, xk_78, xk_79, xk_80, xk_81, xk_82, xk_83, xk_84, xk_85, xk_86, xk_87, xk_88, xk_89, xk_90, xk_91, xk_92, xk_93, xk_94, xk_95, xk_96, xk_97, xk_98, xm_0_0 hx, xm_0_10 hx, xm_0_11 hx, xm_0_12 hx, xm_0_13 hx, xm_0_14 hx, xm_0_15 hx, xm_0_2 hx, xm_0_9 hx, xm_40_0 hx, xm_40_1 hx, xm_41_0 hx, xm_44_0 hx, xm_44_1 hx, xm_73_4 hx, xm_73_5 hx, xm_73_6 hx, xm_77_1 hx, xm_77_2 hx, xm_77_3 hx, xm_77_4 hx, xm_77_5 hx, xm_77_6 hx, xm_77_7 hx, xm_77_8 hx, xm_77_9 hx, xm_87_2 hx, xm_87_3 hx, xm_87_4 hx, xm_87_5 hx, xm_87_6 hx, xm_87_7 hx, xm_87_8 hx, ite_self, Bool.false_eq_true, eq_self, isk_t, i20_t, w20_t, l23_t, b21_t, b22_t, w_t, bif_t, bif_f, bif_d, if_pos, if_neg, if_true, if_false, not_true_eq_false, not_false_eq_true, Option.bind_some, Option.toList_some, Option.toList_none, List.cons_append, List.nil_append, Int.toNat_natCast, Int.reduceToNat, up_eq, up_p, up_k, sN,  f4, k4, g1 ]
      all_goals rfl
    · refine ⟨μ', fun q k h0 _ => f1 q k h0, k6, fun y z => (by cases z), ?_⟩
      rw [k5 (by omega)] at hp
      have k5' := k5 (by omega)
      generalize fnd (μ q) 0 (tok b n a).2.1 c 0 = F at *
      have hp : ∀ d, am_E d 58 2 [some (.inl ((tok b n a).2.1)), some (.inr (.inr q)), some (.inl (c : Int)), some (.inl 0)] [] (SH, ρ, μ', cs) = some (some (.inl F), (SH, ρ, μ', cs)) := hp
      simp (disch := omega) only [e45_0, e45_7, e45_33, e58_0, xk_0, xk_1, xk_40, xk_41, xk_42, xk_43, xk_44, xk_45, xk_46, xk_47, xk_48, xk_49, xk_50, xk_51, xk_52, xk_53, xk_54, xk_55, xk_56, xk_57, xk_58, xk_59, xk_60, xk_61, xk_62, xk_63, xk_64, xk_65, xk_66, xk_67, xk_68, xk_69, xk_70, xk_71, xk_72, xk_73, xk_74, xk_75, xk_76, xk_77, xk_78, xk_79, xk_80, xk_81, xk_82, xk_83, xk_84, xk_85, xk_86, xk_87, xk_88, xk_89, xk_90, xk_91, xk_92, xk_93, xk_94, xk_95, xk_96, xk_97, xk_98, xm_0_0 hx, xm_0_10 hx, xm_0_11 hx, xm_0_12 hx, xm_0_13 hx, xm_0_14 hx, xm_0_15 hx, xm_0_2 hx, xm_0_9 hx, xm_40_0 hx, xm_40_1 hx, xm_41_0 hx, xm_44_0 hx, xm_44_1 hx, xm_73_4 hx, xm_73_5 hx, xm_73_6 hx, xm_77_1 hx, xm_77_2 hx, xm_77_3 hx, xm_77_4 hx, xm_77_5 hx, xm_77_6 hx, xm_77_7 hx, xm_77_8 hx, xm_77_9 hx, xm_87_2 hx, xm_87_3 hx, xm_87_4 hx, xm_87_5 hx, xm_87_6 hx, xm_87_7 hx, xm_87_8 hx, ite_self, Bool.false_eq_true, eq_self, isk_t, i20_t, w20_t, l23_t, b21_t, b22_t, w_t, bif_t, bif_f, bif_d, if_pos, if_neg, if_true, if_false, not_true_eq_false, not_false_eq_true, Option.bind_some, Option.toList_some, Option.toList_none, List.cons_append, List.nil_append, Int.toNat_natCast, Int.reduceToNat, up_eq, up_p, up_k, sN,  f4, k4, g1, k5', hp ]
      all_goals rfl
  | inr y =>
    obtain ⟨g1, g2, rfl⟩ := oN_inr hh
    rw [k5 (by omega)] at hp
    have k5' := k5 (by omega)
    generalize fnd (μ q) 0 (tok b n a).2.1 c 0 = F at *
    have hp : ∀ d, am_E d 58 2 [some (.inl ((tok b n a).2.1)), some (.inr (.inr q)), some (.inl (c : Int)), some (.inl 0)] [] (SH, ρ, μ', cs) = some (some (.inl F), (SH, ρ, μ', cs)) := hp
    refine ⟨am_up μ' 40 5 F, fun q k h0 h1 => by rw [am_up_no h1]; exact f1 q k h0, xt_fr f2 rfl (fun i => up_p (by decide)) (fun i => up_p (by decide)) (up_p (by decide)) (up_p (by decide)), fun y z => (by cases z; exact ⟨up_eq, by rw [up_p (by decide)]; exact k6⟩), ?_⟩
    simp (disch := omega) only [e45_0, e45_7, e45_33, e58_0, xk_0, xk_1, xk_40, xk_41, xk_42, xk_43, xk_44, xk_45, xk_46, xk_47, xk_48, xk_49, xk_50, xk_51, xk_52, xk_53, xk_54, xk_55, xk_56, xk_57, xk_58, xk_59, xk_60, xk_61, xk_62, xk_63, xk_64, xk_65, xk_66, xk_67, xk_68, xk_69, xk_70, xk_71, xk_72, xk_73, xk_74, xk_75, xk_76, xk_77, xk_78, xk_79, xk_80, xk_81, xk_82, xk_83, xk_84, xk_85, xk_86, xk_87, xk_88, xk_89, xk_90, xk_91, xk_92, xk_93, xk_94, xk_95, xk_96, xk_97, xk_98, xm_0_0 hx, xm_0_10 hx, xm_0_11 hx, xm_0_12 hx, xm_0_13 hx, xm_0_14 hx, xm_0_15 hx, xm_0_2 hx, xm_0_9 hx, xm_40_0 hx, xm_40_1 hx, xm_41_0 hx, xm_44_0 hx, xm_44_1 hx, xm_73_4 hx, xm_73_5 hx, xm_73_6 hx, xm_77_1 hx, xm_77_2 hx, xm_77_3 hx, xm_77_4 hx, xm_77_5 hx, xm_77_6 hx, xm_77_7 hx, xm_77_8 hx, xm_77_9 hx, xm_87_2 hx, xm_87_3 hx, xm_87_4 hx, xm_87_5 hx, xm_87_6 hx, xm_87_7 hx, xm_87_8 hx, ite_self, Bool.false_eq_true, eq_self, isk_t, i20_t, w20_t, l23_t, b21_t, b22_t, w_t, bif_t, bif_f, bif_d, if_pos, if_neg, if_true, if_false, not_true_eq_false, not_false_eq_true, Option.bind_some, Option.toList_some, Option.toList_none, List.cons_append, List.nil_append, Int.toNat_natCast, Int.reduceToNat, up_eq, up_p, up_k, sN,  f4, k4, g1, k5', hp ]
    all_goals rfl
theorem X_nU (hx : XM ρ) (h : XTk ρ μ b n a) {lo hi : Int} (h0 : 0 ≤ lo) (h1 : hi < 100000) (h2 : lo ≤ hi) : ∃ μ', FT μ μ' ∧ XO ρ b n μ' (nU b n lo hi a) ∧ (∀ y, nU b n lo hi a = .inr y → μ' 41 5 = y.1) ∧ am_E (d + 3) 46 0 [some (.inr (.inr 40)), some (.inl lo), some (.inl hi)] [] (SH, ρ, μ, cs) = some (some (.inl (XF (nU b n lo hi a))), (SH, ρ, μ', cs)) := by
  obtain ⟨μ', f1, f2, f3, f4⟩ := X_next (d := d) (cs := cs) hx h
  obtain ⟨k4, k6, -, k5⟩ := f3
  refine ⟨μ', f1, ?_, ?_, ?_⟩
  · cases hh : nU b n lo hi a with
    | inl y => rcases nU_inl hh with ⟨_, rfl⟩ | ⟨_, _, rfl⟩ <;> exact k6
    | inr y => obtain ⟨_, _, rfl⟩ := nU_inr hh; exact f2
  · intro y hh
    obtain ⟨g1, g2, rfl⟩ := nU_inr hh
    have := k5 g1
    unfold NV at this
    show μ' 41 5 = (tok b n a).2.1
    omega
  · cases hh : nU b n lo hi a with
    | inl y =>
      rcases nU_inl hh with ⟨g1, rfl⟩ | ⟨g1, g2, rfl⟩
      · simp (disch := omega) only [e46_0, e46_7, xk_0, xk_1, xk_40, xk_41, xk_42, xk_43, xk_44, xk_45, xk_46, xk_47, xk_48, xk_49, xk_50, xk_51, xk_52, xk_53, xk_54, xk_55, xk_56, xk_57, xk_58, xk_59, xk_60, xk_61, xk_62, xk_63, xk_64, xk_65, xk_66, xk_67, xk_68, xk_69, xk_70, xk_71, xk_72, xk_73, xk_74, xk_75, xk_76, xk_77, xk_78, xk_79, xk_80, xk_81, xk_82, xk_83, xk_84, xk_85, xk_86, xk_87, xk_88, xk_89, xk_90, xk_91, xk_92, xk_93, xk_94, xk_95, xk_96, xk_97, xk_98, xm_0_0 hx, xm_0_10 hx, xm_0_11 hx, xm_0_12 hx, xm_0_13 hx, xm_0_14 hx, xm_0_15 hx, xm_0_2 hx, xm_0_9 hx, xm_40_0 hx, xm_40_1 hx, xm_41_0 hx, xm_44_0 hx, xm_44_1 hx, xm_73_4 hx, xm_73_5 hx, xm_73_6 hx, xm_77_1 hx, xm_77_2 hx, xm_77_3 hx, xm_77_4 hx, xm_77_5 hx, xm_77_6 hx, xm_77_7 hx, xm_77_8 hx, xm_77_9 hx, xm_87_2 hx, xm_87_3 hx, xm_87_4 hx, xm_87_5 hx, xm_87_6 hx, xm_87_7 hx, xm_87_8 hx, ite_self, Bool.false_eq_true, eq_self, isk_t, i20_t, w20_t, l23_t, b21_t, b22_t, w_t, bif_t, bif_f, bif_d, if_pos, if_neg, if_true, if_false, not_true_eq_false, not_false_eq_true, Option.bind_some, Option.toList_some, Option.toList_none, List.cons_append, List.nil_append, Int.toNat_natCast, Int.reduceToNat, up_eq, up_p, up_k, sN,  f4, k4, g1 ]
        all_goals rfl
      · have := k5 g1
        unfold NV at this
        by_cases c1 : μ' 41 5 < lo
        · simp (disch := omega) only [e46_0, e46_7, xk_0, xk_1, xk_40, xk_41, xk_42, xk_43, xk_44, xk_45, xk_46, xk_47, xk_48, xk_49, xk_50, xk_51, xk_52, xk_53, xk_54, xk_55, xk_56, xk_57, xk_58, xk_59, xk_60, xk_61, xk_62, xk_63, xk_64, xk_65, xk_66, xk_67, xk_68, xk_69, xk_70, xk_71, xk_72, xk_73, xk_74, xk_75, xk_76, xk_77, xk_78, xk_79, xk_80, xk_81, xk_82, xk_83, xk_84, xk_85, xk_86, xk_87, xk_88, xk_89, xk_90, xk_91, xk_92, xk_93, xk_94, xk_95, xk_96, xk_97, xk_98, xm_0_0 hx, xm_0_10 hx, xm_0_11 hx, xm_0_12 hx, xm_0_13 hx, xm_0_14 hx, xm_0_15 hx, xm_0_2 hx, xm_0_9 hx, xm_40_0 hx, xm_40_1 hx, xm_41_0 hx, xm_44_0 hx, xm_44_1 hx, xm_73_4 hx, xm_73_5 hx, xm_73_6 hx, xm_77_1 hx, xm_77_2 hx, xm_77_3 hx, xm_77_4 hx, xm_77_5 hx, xm_77_6 hx, xm_77_7 hx, xm_77_8 hx, xm_77_9 hx, xm_87_2 hx, xm_87_3 hx, xm_87_4 hx, xm_87_5 hx, xm_87_6 hx, xm_87_7 hx, xm_87_8 hx, ite_self, Bool.false_eq_true, eq_self, isk_t, i20_t, w20_t, l23_t, b21_t, b22_t, w_t, bif_t, bif_f, bif_d, if_pos, if_neg, if_true, if_false, not_true_eq_false, not_false_eq_true, Option.bind_some, Option.toList_some, Option.toList_none, List.cons_append, List.nil_append, Int.toNat_natCast, Int.reduceToNat, up_eq, up_p, up_k, sN,  f4, k4, g1 ]
          all_goals rfl
        · simp (disch := omega) only [e46_0, e46_7, xk_0, xk_1, xk_40, xk_41, xk_42, xk_43, xk_44, xk_45, xk_46, xk_47, xk_48, xk_49, xk_50, xk_51, xk_52, xk_53, xk_54, xk_55, xk_56, xk_57, xk_58, xk_59, xk_60, xk_61, xk_62, xk_63, xk_64, xk_65, xk_66, xk_67, xk_68, xk_69, xk_70, xk_71, xk_72, xk_73, xk_74, xk_75, xk_76, xk_77, xk_78, xk_79, xk_80, xk_81, xk_82, xk_83, xk_84, xk_85, xk_86, xk_87, xk_88, xk_89, xk_90, xk_91, xk_92, xk_93, xk_94, xk_95, xk_96, xk_97, xk_98, xm_0_0 hx, xm_0_10 hx, xm_0_11 hx, xm_0_12 hx, xm_0_13 hx, xm_0_14 hx, xm_0_15 hx, xm_0_2 hx, xm_0_9 hx, xm_40_0 hx, xm_40_1 hx, xm_41_0 hx, xm_44_0 hx, xm_44_1 hx, xm_73_4 hx, xm_73_5 hx, xm_73_6 hx, xm_77_1 hx, xm_77_2 hx, xm_77_3 hx, xm_77_4 hx, xm_77_5 hx, xm_77_6 hx, xm_77_7 hx, xm_77_8 hx, xm_77_9 hx, xm_87_2 hx, xm_87_3 hx, xm_87_4 hx, xm_87_5 hx, xm_87_6 hx, xm_87_7 hx, xm_87_8 hx, ite_self, Bool.false_eq_true, eq_self, isk_t, i20_t, w20_t, l23_t, b21_t, b22_t, w_t, bif_t, bif_f, bif_d, if_pos, if_neg, if_true, if_false, not_true_eq_false, not_false_eq_true, Option.bind_some, Option.toList_some, Option.toList_none, List.cons_append, List.nil_append, Int.toNat_natCast, Int.reduceToNat, up_eq, up_p, up_k, sN,  f4, k4, g1 ]
          all_goals rfl
    | inr y =>
      obtain ⟨g1, g2, rfl⟩ := nU_inr hh
      have := k5 g1
      unfold NV at this
      simp (disch := omega) only [e46_0, e46_7, xk_0, xk_1, xk_40, xk_41, xk_42, xk_43, xk_44, xk_45, xk_46, xk_47, xk_48, xk_49, xk_50, xk_51, xk_52, xk_53, xk_54, xk_55, xk_56, xk_57, xk_58, xk_59, xk_60, xk_61, xk_62, xk_63, xk_64, xk_65, xk_66, xk_67, xk_68, xk_69, xk_70, xk_71, xk_72, xk_73, xk_74, xk_75, xk_76, xk_77, xk_78, xk_79, xk_80, xk_81, xk_82, xk_83, xk_84, xk_85, xk_86, xk_87, xk_88, xk_89, xk_90, xk_91, xk_92, xk_93, xk_94, xk_95, xk_96, xk_97, xk_98, xm_0_0 hx, xm_0_10 hx, xm_0_11 hx, xm_0_12 hx, xm_0_13 hx, xm_0_14 hx, xm_0_15 hx, xm_0_2 hx, xm_0_9 hx, xm_40_0 hx, xm_40_1 hx, xm_41_0 hx, xm_44_0 hx, xm_44_1 hx, xm_73_4 hx, xm_73_5 hx, xm_73_6 hx, xm_77_1 hx, xm_77_2 hx, xm_77_3 hx, xm_77_4 hx, xm_77_5 hx, xm_77_6 hx, xm_77_7 hx, xm_77_8 hx, xm_77_9 hx, xm_87_2 hx, xm_87_3 hx, xm_87_4 hx, xm_87_5 hx, xm_87_6 hx, xm_87_7 hx, xm_87_8 hx, ite_self, Bool.false_eq_true, eq_self, isk_t, i20_t, w20_t, l23_t, b21_t, b22_t, w_t, bif_t, bif_f, bif_d, if_pos, if_neg, if_true, if_false, not_true_eq_false, not_false_eq_true, Option.bind_some, Option.toList_some, Option.toList_none, List.cons_append, List.nil_append, Int.toNat_natCast, Int.reduceToNat, up_eq, up_p, up_k, sN,  f4, k4, g1 ]
      all_goals rfl
theorem X_lE (hx : XM ρ) (h : XTk ρ μ b n a) : ∃ μ', FT μ μ' ∧ (∀ q, lE b n a = .inl q → μ' 41 6 = (q.2 : Int) ∧ q.1 = 1 ∧ am_E (d + 3) 47 0 [some (.inr (.inr 40))] [] (SH, ρ, μ, cs) = some (some (.inl 1), (SH, ρ, μ', cs))) ∧ ∀ a', lE b n a = .inr a' → XTk ρ μ' b n a' ∧ am_E (d + 3) 47 0 [some (.inr (.inr 40))] [] (SH, ρ, μ, cs) = some (some (.inl 0), (SH, ρ, μ', cs)) := by
  obtain ⟨μ', f1, f2, f3, f4⟩ := X_next (d := d) (cs := cs) hx h
  obtain ⟨k4, k6, -, k5⟩ := f3
  refine ⟨μ', f1, fun q hh => ?_, fun a' hh => ?_⟩
  · obtain ⟨g1, rfl⟩ := lE_inl hh
    refine ⟨k6, rfl, ?_⟩
    simp (disch := omega) only [e47_0, e47_7, xk_0, xk_1, xk_40, xk_41, xk_42, xk_43, xk_44, xk_45, xk_46, xk_47, xk_48, xk_49, xk_50, xk_51, xk_52, xk_53, xk_54, xk_55, xk_56, xk_57, xk_58, xk_59, xk_60, xk_61, xk_62, xk_63, xk_64, xk_65, xk_66, xk_67, xk_68, xk_69, xk_70, xk_71, xk_72, xk_73, xk_74, xk_75, xk_76, xk_77, xk_78, xk_79, xk_80, xk_81, xk_82, xk_83, xk_84, xk_85, xk_86, xk_87, xk_88, xk_89, xk_90, xk_91, xk_92, xk_93, xk_94, xk_95, xk_96, xk_97, xk_98, xm_0_0 hx, xm_0_10 hx, xm_0_11 hx, xm_0_12 hx, xm_0_13 hx, xm_0_14 hx, xm_0_15 hx, xm_0_2 hx, xm_0_9 hx, xm_40_0 hx, xm_40_1 hx, xm_41_0 hx, xm_44_0 hx, xm_44_1 hx, xm_73_4 hx, xm_73_5 hx, xm_73_6 hx, xm_77_1 hx, xm_77_2 hx, xm_77_3 hx, xm_77_4 hx, xm_77_5 hx, xm_77_6 hx, xm_77_7 hx, xm_77_8 hx, xm_77_9 hx, xm_87_2 hx, xm_87_3 hx, xm_87_4 hx, xm_87_5 hx, xm_87_6 hx, xm_87_7 hx, xm_87_8 hx, ite_self, Bool.false_eq_true, eq_self, isk_t, i20_t, w20_t, l23_t, b21_t, b22_t, w_t, bif_t, bif_f, bif_d, if_pos, if_neg, if_true, if_false, not_true_eq_false, not_false_eq_true, Option.bind_some, Option.toList_some, Option.toList_none, List.cons_append, List.nil_append, Int.toNat_natCast, Int.reduceToNat, up_eq, up_p, up_k, sN,  f4, k4, g1 ]
  · obtain ⟨g1, rfl⟩ := lE_inr hh
    refine ⟨f2, ?_⟩
    simp (disch := omega) only [e47_0, e47_7, xk_0, xk_1, xk_40, xk_41, xk_42, xk_43, xk_44, xk_45, xk_46, xk_47, xk_48, xk_49, xk_50, xk_51, xk_52, xk_53, xk_54, xk_55, xk_56, xk_57, xk_58, xk_59, xk_60, xk_61, xk_62, xk_63, xk_64, xk_65, xk_66, xk_67, xk_68, xk_69, xk_70, xk_71, xk_72, xk_73, xk_74, xk_75, xk_76, xk_77, xk_78, xk_79, xk_80, xk_81, xk_82, xk_83, xk_84, xk_85, xk_86, xk_87, xk_88, xk_89, xk_90, xk_91, xk_92, xk_93, xk_94, xk_95, xk_96, xk_97, xk_98, xm_0_0 hx, xm_0_10 hx, xm_0_11 hx, xm_0_12 hx, xm_0_13 hx, xm_0_14 hx, xm_0_15 hx, xm_0_2 hx, xm_0_9 hx, xm_40_0 hx, xm_40_1 hx, xm_41_0 hx, xm_44_0 hx, xm_44_1 hx, xm_73_4 hx, xm_73_5 hx, xm_73_6 hx, xm_77_1 hx, xm_77_2 hx, xm_77_3 hx, xm_77_4 hx, xm_77_5 hx, xm_77_6 hx, xm_77_7 hx, xm_77_8 hx, xm_77_9 hx, xm_87_2 hx, xm_87_3 hx, xm_87_4 hx, xm_87_5 hx, xm_87_6 hx, xm_87_7 hx, xm_87_8 hx, ite_self, Bool.false_eq_true, eq_self, isk_t, i20_t, w20_t, l23_t, b21_t, b22_t, w_t, bif_t, bif_f, bif_d, if_pos, if_neg, if_true, if_false, not_true_eq_false, not_false_eq_true, Option.bind_some, Option.toList_some, Option.toList_none, List.cons_append, List.nil_append, Int.toNat_natCast, Int.reduceToNat, up_eq, up_p, up_k, sN,  f4, k4, g1 ]
end XLN
