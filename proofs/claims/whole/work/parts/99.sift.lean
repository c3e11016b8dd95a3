/-! NOTES: which of them stand; the last day of them -/
/-- striking: from the last note down -/
def sft (o : Nat → Int) : Nat → (Nat → Bool) → Nat → Bool
  | 0, f => f
  | i + 1, f => sft o i (if f i = false ∧ o i ≠ -1 then (fun j => if (j : Int) = o i then true else f j) else f)
/-- the note j stands -/
def lvN (o : Nat → Int) (N : Nat) (j : Nat) : Bool := decide (j < N ∧ sft o N (fun _ => false) j = false ∧ o j = -1)
/-- the last day of those that stand -/
def ldy (L : Nat → Bool) (dy : Nat → Int) : Nat → Int
  | 0 => 0
  | k + 1 => if L k = true ∧ ldy L dy k < dy k then dy k else ldy L dy k
theorem ldy_e {L : Nat → Bool} {dy : Nat → Int} {N : Nat} (h : ∀ j, N ≤ j → L j = false) : ∀ e, ldy L dy (N + e) = ldy L dy N
  | 0 => rfl
  | e + 1 => by
    show (if L (N + e) = true ∧ ldy L dy (N + e) < dy (N + e) then dy (N + e) else ldy L dy (N + e)) = _
    rw [if_neg (by rw [h _ (by omega)]; simp), ldy_e h e]
theorem ldy_b {L : Nat → Bool} {dy : Nat → Int} {N : Nat} (h : ∀ j, L j = true → 0 ≤ dy j ∧ dy j ≤ 60) : ∀ n, 0 ≤ ldy L dy n ∧ ldy L dy n ≤ 60
  | 0 => by show (0 : Int) ≤ 0 ∧ (0 : Int) ≤ 60; omega
  | n + 1 => by
    have i := ldy_b (N := N) h n
    show 0 ≤ (if L n = true ∧ ldy L dy n < dy n then dy n else ldy L dy n) ∧ (if L n = true ∧ ldy L dy n < dy n then dy n else ldy L dy n) ≤ 60
    split
    · next g => exact h n g.1
    · exact i
theorem bw0 : am_bv (22, 24) 0 = 0 := by decide
theorem bw1 : am_bv (22, 24) 1 = 1 := by decide
section SF
variable {ρ : Nat → Nat → Nat} {μ : Nat → Nat → Int} {cs : Nat × Nat × Nat} {d : Nat} {N : Nat} {a c : Int} {o : Nat → Int}
/-- how many notes are known -/
abbrev KM (μ : Nat → Nat → Int) (N : Nat) : Prop := (if μ 99 59 = -1 then μ 99 58 else μ 99 59) = (N : Int)
theorem R_km (hρ : RM ρ) (h : KM μ N) : am_E d 244 0 [some (.inr (.inr 99))] [] (SH, ρ, μ, cs) = some (some (.inl (N : Int)), (SH, ρ, μ, cs)) := by
  unfold KM at h
  by_cases e : μ 99 59 = -1
  · rw [if_pos e] at h
    simp (disch := (first | omega | (simp (disch := omega) only [sr_up, wr_up_o]; omega))) only [e244_0, ks_99, ite_self, Bool.false_eq_true, eq_self, isk_t, i20_t, w20_t, l23_t, b21_t, b22_t, w_t, bif_t, bif_f, bif_d, if_pos, if_neg, if_true, if_false, not_true_eq_false, not_false_eq_true, Option.bind_some, Option.toList_some, Option.toList_none, List.cons_append, List.nil_append, Int.toNat_natCast, Int.reduceToNat, up_eq, up_p, up_k, sN,  e, h ]
  · rw [if_neg e] at h
    simp (disch := (first | omega | (simp (disch := omega) only [sr_up, wr_up_o]; omega))) only [e244_0, ks_99, ite_self, Bool.false_eq_true, eq_self, isk_t, i20_t, w20_t, l23_t, b21_t, b22_t, w_t, bif_t, bif_f, bif_d, if_pos, if_neg, if_true, if_false, not_true_eq_false, not_false_eq_true, Option.bind_some, Option.toList_some, Option.toList_none, List.cons_append, List.nil_append, Int.toNat_natCast, Int.reduceToNat, up_eq, up_p, up_k, sN,  h ]
theorem R_clear (hρ : RM ρ) {p : Int} (hN : N ≤ 24) : ∀ (j k : Nat) (μ : Nat → Nat → Int), KM μ N → k + j = N → ∃ μ1, (∀ q i, ¬ (q = 139 ∧ k ≤ i ∧ i < N) → μ1 q i = μ q i) ∧ (∀ i, k ≤ i → i < N → μ1 139 i = 0) ∧ am_E (d + 1) 247 4 [some (.inr (.inr 99)), some (.inl p), some (.inl 0), some (.inl (k : Int)), none] [] (SH, ρ, μ, cs) = am_E (d + 1) 247 32 [some (.inr (.inr 99)), some (.inl p), some (.inl 0), some (.inl ((N : Int) - 1)), none] [] (SH, ρ, μ1, cs) := by
  intro j
  induction j with
  | zero =>
    intro k μ hK hk
    have hk' : k = N := by omega
    subst hk'
    refine ⟨μ, fun _ _ _ => rfl, fun i h0 h1 => by omega, ?_⟩
    rw [e247_4]; simp (disch := (first | omega | (simp (disch := omega) only [sr_up, wr_up_o]; omega))) only [e247_9, e247_29, ks_139, ks_99, rm_isOut hρ, ite_self, Bool.false_eq_true, eq_self, isk_t, i20_t, w20_t, l23_t, b21_t, b22_t, w_t, bif_t, bif_f, bif_d, if_pos, if_neg, if_true, if_false, not_true_eq_false, not_false_eq_true, Option.bind_some, Option.toList_some, Option.toList_none, List.cons_append, List.nil_append, Int.toNat_natCast, Int.reduceToNat, up_eq, up_p, up_k, sN,  R_km hρ hK ]
  | succ j ih =>
    intro k μ hK hk
    have hK1 : KM (am_up μ 139 k 0) N := by unfold KM; rw [up_p (by omega), up_p (by omega)]; exact hK
    obtain ⟨μ1, f1, f2, f3⟩ := ih (k + 1) (am_up μ 139 k 0) hK1 (by omega)
    refine ⟨μ1, fun q i h => ?_, fun i h0 h1 => ?_, ?_⟩
    · rw [f1 q i (by omega), am_up_no (by omega)]
    · by_cases e : i = k
      · subst e; rw [f1 _ _ (by omega), up_eq]
      · exact f2 i (by omega) h1
    · have e1 : ((k + 1 : Nat) : Int) = (k : Int) + 1 := by omega
      rw [e1] at f3
      rw [← f3]
      rw [e247_4]; simp (disch := (first | omega | (simp (disch := omega) only [sr_up, wr_up_o]; omega))) only [e247_9, ks_139, ks_99, rm_isOut hρ, ite_self, Bool.false_eq_true, eq_self, isk_t, i20_t, w20_t, l23_t, b21_t, b22_t, w_t, bif_t, bif_f, bif_d, if_pos, if_neg, if_true, if_false, not_true_eq_false, not_false_eq_true, Option.bind_some, Option.toList_some, Option.toList_none, List.cons_append, List.nil_append, Int.toNat_natCast, Int.reduceToNat, up_eq, up_p, up_k, sN,  R_km hρ hK, bw0 ]
theorem R_strikes (hρ : RM ρ) {p x2 : Int} (hN : N ≤ 24) (ho : ∀ j : Nat, j < N → -1 ≤ o j ∧ o j < j) : ∀ (i : Nat) (f : Nat → Bool) (μ : Nat → Nat → Int), i ≤ N → (∀ j : Nat, j < N → μ 138 j = o j) → (∀ j, j < N → μ 139 j = if f j = true then 1 else 0) → ∃ μ1, (∀ q k, ¬ (q = 139 ∧ k < N) → μ1 q k = μ q k) ∧ (∀ j, j < N → μ1 139 j = if sft o i f j = true then 1 else 0) ∧ am_E (d + 1) 247 32 [some (.inr (.inr 99)), some (.inl p), some (.inl x2), some (.inl ((i : Int) - 1)), none] [] (SH, ρ, μ, cs) = am_E (d + 1) 247 75 [some (.inr (.inr 99)), some (.inl p), some (.inl x2), some (.inl 0), none] [] (SH, ρ, μ1, cs) := by
  intro i
  induction i with
  | zero =>
    intro f μ hi h8 h9
    refine ⟨μ, fun _ _ _ => rfl, h9, ?_⟩
    rw [e247_32]; simp (disch := (first | omega | (simp (disch := omega) only [sr_up, wr_up_o]; omega))) only [ks_138, ks_139, ks_99, rm_isOut hρ, rm_outs hρ, ite_self, Bool.false_eq_true, eq_self, isk_t, i20_t, w20_t, l23_t, b21_t, b22_t, w_t, bif_t, bif_f, bif_d, if_pos, if_neg, if_true, if_false, not_true_eq_false, not_false_eq_true, Option.bind_some, Option.toList_some, Option.toList_none, List.cons_append, List.nil_append, Int.toNat_natCast, Int.reduceToNat, up_eq, up_p, up_k, sN]
  | succ i ih =>
    intro f μ hi h8 h9
    have e1 : ((i + 1 : Nat) : Int) - 1 = (i : Int) := by omega
    have g8 := h8 i (by omega)
    have g9 := h9 i (by omega)
    have go := ho i (by omega)
    by_cases c : f i = false ∧ o i ≠ -1
    · rw [c.1, if_neg (by simp)] at g9
      obtain ⟨k, hk⟩ : ∃ k : Nat, o i = (k : Int) := ⟨(o i).toNat, by omega⟩
      obtain ⟨μ1, f1, f2, f3⟩ := ih (fun j => if (j : Int) = o i then true else f j) (am_up μ 139 k 1) (by omega) (fun j hj => by rw [up_p (by omega)]; exact h8 j hj) (fun j hj => by
        by_cases e : j = k
        · subst e; rw [up_eq]; simp only [hk, if_true]
        · rw [up_k e, h9 j hj]
          have : ¬ (j : Int) = o i := by omega
          simp only [this, if_false])
      refine ⟨μ1, fun q k' h => by rw [f1 q k' h, am_up_no (by omega)], fun j hj => ?_, ?_⟩
      · rw [f2 j hj]
        show _ = if sft o i (if f i = false ∧ o i ≠ -1 then (fun j => if (j : Int) = o i then true else f j) else f) j = true then 1 else 0
        rw [if_pos c]
      · rw [e1, ← f3]
        rw [hk] at g8
        rw [e247_32]; simp (disch := (first | omega | (simp (disch := omega) only [sr_up, wr_up_o]; omega))) only [ks_138, ks_139, ks_99, rm_isOut hρ, rm_outs hρ, ite_self, Bool.false_eq_true, eq_self, isk_t, i20_t, w20_t, l23_t, b21_t, b22_t, w_t, bif_t, bif_f, bif_d, if_pos, if_neg, if_true, if_false, not_true_eq_false, not_false_eq_true, Option.bind_some, Option.toList_some, Option.toList_none, List.cons_append, List.nil_append, Int.toNat_natCast, Int.reduceToNat, up_eq, up_p, up_k, sN,  g9, g8, bw1 ]
        all_goals rfl
    · obtain ⟨μ1, f1, f2, f3⟩ := ih f μ (by omega) h8 h9
      refine ⟨μ1, f1, fun j hj => ?_, ?_⟩
      · rw [f2 j hj]
        show _ = if sft o i (if f i = false ∧ o i ≠ -1 then (fun j => if (j : Int) = o i then true else f j) else f) j = true then 1 else 0
        rw [if_neg c]
      · rw [e1, ← f3]
        by_cases c1 : f i = true
        · rw [if_pos c1] at g9
          rw [e247_32]; simp (disch := (first | omega | (simp (disch := omega) only [sr_up, wr_up_o]; omega))) only [ks_138, ks_139, ks_99, rm_isOut hρ, rm_outs hρ, ite_self, Bool.false_eq_true, eq_self, isk_t, i20_t, w20_t, l23_t, b21_t, b22_t, w_t, bif_t, bif_f, bif_d, if_pos, if_neg, if_true, if_false, not_true_eq_false, not_false_eq_true, Option.bind_some, Option.toList_some, Option.toList_none, List.cons_append, List.nil_append, Int.toNat_natCast, Int.reduceToNat, up_eq, up_p, up_k, sN,  g9 ]
          all_goals rfl
        · have c2 : f i = false := by simpa using c1
          have c3 : o i = -1 := by
            by_cases c3 : o i = -1
            · exact c3
            · exact absurd ⟨c2, c3⟩ c
          rw [if_neg c1] at g9
          rw [c3] at g8
          rw [e247_32]; simp (disch := (first | omega | (simp (disch := omega) only [sr_up, wr_up_o]; omega))) only [ks_138, ks_139, ks_99, rm_isOut hρ, rm_outs hρ, ite_self, Bool.false_eq_true, eq_self, isk_t, i20_t, w20_t, l23_t, b21_t, b22_t, w_t, bif_t, bif_f, bif_d, if_pos, if_neg, if_true, if_false, not_true_eq_false, not_false_eq_true, Option.bind_some, Option.toList_some, Option.toList_none, List.cons_append, List.nil_append, Int.toNat_natCast, Int.reduceToNat, up_eq, up_p, up_k, sN,  g9, g8 ]
          all_goals rfl
theorem R_last (hρ : RM ρ) {p : Int} {dy : Nat → Int} {g : Nat → Bool} (hN : N ≤ 24) (hK : KM μ N) (h8 : ∀ j : Nat, j < N → μ 138 j = o j) (h9 : ∀ j, j < N → μ 139 j = if g j = true then 1 else 0) (h4 : ∀ j, j < N → μ 134 j = dy j) {L : Nat → Bool} (hL : ∀ j, j < N → L j = decide (g j = false ∧ o j = -1)) : ∀ (n k : Nat), k + n = N → am_E (d + 1) 247 75 [some (.inr (.inr 99)), some (.inl p), some (.inl (ldy L dy k)), some (.inl (k : Int)), none] [] (SH, ρ, μ, cs) = am_E (d + 1) 247 129 [some (.inr (.inr 99)), some (.inl p), some (.inl (ldy L dy N)), some (.inl 0), some (.inl 0)] [] (SH, ρ, am_up μ 99 51 p, cs) := by
  intro n
  induction n with
  | zero =>
    intro k hk
    have hk' : k = N := by omega
    subst hk'
    rw [e247_75]; simp (disch := (first | omega | (simp (disch := omega) only [sr_up, wr_up_o]; omega))) only [e247_80, ks_134, ks_138, ks_139, ks_99, rm_isOut hρ, rm_noteDays hρ, rm_outs hρ, ite_self, Bool.false_eq_true, eq_self, isk_t, i20_t, w20_t, l23_t, b21_t, b22_t, w_t, bif_t, bif_f, bif_d, if_pos, if_neg, if_true, if_false, not_true_eq_false, not_false_eq_true, Option.bind_some, Option.toList_some, Option.toList_none, List.cons_append, List.nil_append, Int.toNat_natCast, Int.reduceToNat, up_eq, up_p, up_k, sN,  R_km hρ hK ]
  | succ n ih =>
    intro k hk
    have g8 := h8 k (by omega)
    have g9 := h9 k (by omega)
    have g4 := h4 k (by omega)
    have gL := hL k (by omega)
    have e := ih (k + 1) (by omega)
    have e1 : ((k + 1 : Nat) : Int) = (k : Int) + 1 := by omega
    have e2 : ldy L dy (k + 1) = if L k = true ∧ ldy L dy k < dy k then dy k else ldy L dy k := rfl
    rw [e1, e2] at e
    rw [← e]
    clear e e2
    generalize ldy L dy k = z
    by_cases c1 : g k = true
    · rw [if_pos c1] at g9
      have c2 : L k = false := by rw [gL, c1]; rfl
      rw [if_neg (by rw [c2]; simp)]
      rw [e247_75]; simp (disch := (first | omega | (simp (disch := omega) only [sr_up, wr_up_o]; omega))) only [e247_80, ks_134, ks_138, ks_139, ks_99, rm_isOut hρ, rm_noteDays hρ, rm_outs hρ, ite_self, Bool.false_eq_true, eq_self, isk_t, i20_t, w20_t, l23_t, b21_t, b22_t, w_t, bif_t, bif_f, bif_d, if_pos, if_neg, if_true, if_false, not_true_eq_false, not_false_eq_true, Option.bind_some, Option.toList_some, Option.toList_none, List.cons_append, List.nil_append, Int.toNat_natCast, Int.reduceToNat, up_eq, up_p, up_k, sN,  R_km hρ hK, g9 ]
    · have c2 : g k = false := by simpa using c1
      rw [if_neg c1] at g9
      by_cases c3 : o k = -1
      · have c4 : L k = true := by rw [gL, c2, c3]; rfl
        have c5 : (if L k = true ∧ z < dy k then dy k else z) = am_imax z (dy k) := by
          unfold am_imax
          by_cases c6 : z < dy k
          · rw [if_pos ⟨c4, c6⟩, if_pos c6]
          · rw [if_neg (fun g => c6 g.2), if_neg c6]
        rw [c5]
        rw [c3] at g8
        rw [e247_75]; simp (disch := (first | omega | (simp (disch := omega) only [sr_up, wr_up_o]; omega))) only [e247_80, ks_134, ks_138, ks_139, ks_99, rm_isOut hρ, rm_noteDays hρ, rm_outs hρ, ite_self, Bool.false_eq_true, eq_self, isk_t, i20_t, w20_t, l23_t, b21_t, b22_t, w_t, bif_t, bif_f, bif_d, if_pos, if_neg, if_true, if_false, not_true_eq_false, not_false_eq_true, Option.bind_some, Option.toList_some, Option.toList_none, List.cons_append, List.nil_append, Int.toNat_natCast, Int.reduceToNat, up_eq, up_p, up_k, sN,  R_km hρ hK, g9, g8, g4 ]
      · have c4 : L k = false := by rw [gL]; simp [c3]
        rw [if_neg (by rw [c4]; simp)]
        rw [e247_75]; simp (disch := (first | omega | (simp (disch := omega) only [sr_up, wr_up_o]; omega))) only [e247_80, ks_134, ks_138, ks_139, ks_99, rm_isOut hρ, rm_noteDays hρ, rm_outs hρ, ite_self, Bool.false_eq_true, eq_self, isk_t, i20_t, w20_t, l23_t, b21_t, b22_t, w_t, bif_t, bif_f, bif_d, if_pos, if_neg, if_true, if_false, not_true_eq_false, not_false_eq_true, Option.bind_some, Option.toList_some, Option.toList_none, List.cons_append, List.nil_append, Int.toNat_natCast, Int.reduceToNat, up_eq, up_p, up_k, sN,  R_km hρ hK, g9, g8 ]
theorem X_kc (hx : XM ρ) (h : KM μ N) (h0 : μ 87 0 = μ 99 58) (h1 : μ 87 1 = μ 99 59) (hm : -1 ≤ μ 99 59) : am_E d 51 0 [some (.inr (.inr 87))] [] (SH, ρ, μ, cs) = some (some (.inl (N : Int)), (SH, ρ, μ, cs)) := by
  unfold KM at h
  by_cases e : μ 99 59 = -1
  · rw [if_pos e] at h
    simp (disch := omega) only [e51_0, xk_0, xk_1, xk_40, xk_41, xk_42, xk_43, xk_44, xk_45, xk_46, xk_47, xk_48, xk_49, xk_50, xk_51, xk_52, xk_53, xk_54, xk_55, xk_56, xk_57, xk_58, xk_59, xk_60, xk_61, xk_62, xk_63, xk_64, xk_65, xk_66, xk_67, xk_68, xk_69, xk_70, xk_71, xk_72, xk_73, xk_74, xk_75, xk_76, xk_77, xk_78, xk_79, xk_80, xk_81, xk_82, xk_83, xk_84, xk_85, xk_86, xk_87, xk_88, xk_89, xk_90, xk_91, xk_92, xk_93, xk_94, xk_95, xk_96, xk_97, xk_98, xm_0_0 hx, xm_0_10 hx, xm_0_11 hx, xm_0_12 hx, xm_0_13 hx, xm_0_14 hx, xm_0_15 hx, xm_0_2 hx, xm_0_9 hx, xm_40_0 hx, xm_40_1 hx, xm_41_0 hx, xm_44_0 hx, xm_44_1 hx, xm_73_4 hx, xm_73_5 hx, xm_73_6 hx, xm_77_1 hx, xm_77_2 hx, xm_77_3 hx, xm_77_4 hx, xm_77_5 hx, xm_77_6 hx, xm_77_7 hx, xm_77_8 hx, xm_77_9 hx, xm_87_2 hx, xm_87_3 hx, xm_87_4 hx, xm_87_5 hx, xm_87_6 hx, xm_87_7 hx, xm_87_8 hx, ite_self, Bool.false_eq_true, eq_self, isk_t, i20_t, w20_t, l23_t, b21_t, b22_t, w_t, bif_t, bif_f, bif_d, if_pos, if_neg, if_true, if_false, not_true_eq_false, not_false_eq_true, Option.bind_some, Option.toList_some, Option.toList_none, List.cons_append, List.nil_append, Int.toNat_natCast, Int.reduceToNat, up_eq, up_p, up_k, sN,  h1, h0, e, h ]
  · rw [if_neg e] at h
    simp (disch := omega) only [e51_0, xk_0, xk_1, xk_40, xk_41, xk_42, xk_43, xk_44, xk_45, xk_46, xk_47, xk_48, xk_49, xk_50, xk_51, xk_52, xk_53, xk_54, xk_55, xk_56, xk_57, xk_58, xk_59, xk_60, xk_61, xk_62, xk_63, xk_64, xk_65, xk_66, xk_67, xk_68, xk_69, xk_70, xk_71, xk_72, xk_73, xk_74, xk_75, xk_76, xk_77, xk_78, xk_79, xk_80, xk_81, xk_82, xk_83, xk_84, xk_85, xk_86, xk_87, xk_88, xk_89, xk_90, xk_91, xk_92, xk_93, xk_94, xk_95, xk_96, xk_97, xk_98, xm_0_0 hx, xm_0_10 hx, xm_0_11 hx, xm_0_12 hx, xm_0_13 hx, xm_0_14 hx, xm_0_15 hx, xm_0_2 hx, xm_0_9 hx, xm_40_0 hx, xm_40_1 hx, xm_41_0 hx, xm_44_0 hx, xm_44_1 hx, xm_73_4 hx, xm_73_5 hx, xm_73_6 hx, xm_77_1 hx, xm_77_2 hx, xm_77_3 hx, xm_77_4 hx, xm_77_5 hx, xm_77_6 hx, xm_77_7 hx, xm_77_8 hx, xm_77_9 hx, xm_87_2 hx, xm_87_3 hx, xm_87_4 hx, xm_87_5 hx, xm_87_6 hx, xm_87_7 hx, xm_87_8 hx, ite_self, Bool.false_eq_true, eq_self, isk_t, i20_t, w20_t, l23_t, b21_t, b22_t, w_t, bif_t, bif_f, bif_d, if_pos, if_neg, if_true, if_false, not_true_eq_false, not_false_eq_true, Option.bind_some, Option.toList_some, Option.toList_none, List.cons_append, List.nil_append, Int.toNat_natCast, Int.reduceToNat, up_eq, up_p, up_k, sN,  h1, h ]
theorem X_sift1 (hx : XM ρ) (hN : N ≤ 24) : ∀ (j k : Nat) (μ : Nat → Nat → Int), k + j = 24 → ∃ μ1, (∀ q i, ¬ (q = 94 ∧ k ≤ i ∧ i < 24) → μ1 q i = μ q i) ∧ (∀ i, k ≤ i → i < 24 → μ1 94 i = if i < N then 1 else 0) ∧ am_E (d + 1) 52 7 [some (.inr (.inr 87)), some (.inl (N : Int)), some (.inl (k : Int))] [] (SH, ρ, μ, cs) = am_E (d + 1) 52 38 [some (.inr (.inr 87)), some (.inl (N : Int)), some (.inl 23)] [] (SH, ρ, μ1, cs) := by
  intro j
  induction j with
  | zero =>
    intro k μ hk
    have hk' : k = 24 := by omega
    subst hk'
    refine ⟨μ, fun _ _ _ => rfl, fun i h0 h1 => by omega, ?_⟩
    rw [e52_7]; simp (disch := omega) only [xk_0, xk_1, xk_40, xk_41, xk_42, xk_43, xk_44, xk_45, xk_46, xk_47, xk_48, xk_49, xk_50, xk_51, xk_52, xk_53, xk_54, xk_55, xk_56, xk_57, xk_58, xk_59, xk_60, xk_61, xk_62, xk_63, xk_64, xk_65, xk_66, xk_67, xk_68, xk_69, xk_70, xk_71, xk_72, xk_73, xk_74, xk_75, xk_76, xk_77, xk_78, xk_79, xk_80, xk_81, xk_82, xk_83, xk_84, xk_85, xk_86, xk_87, xk_88, xk_89, xk_90, xk_91, xk_92, xk_93, xk_94, xk_95, xk_96, xk_97, xk_98, xm_0_0 hx, xm_0_10 hx, xm_0_11 hx, xm_0_12 hx, xm_0_13 hx, xm_0_14 hx, xm_0_15 hx, xm_0_2 hx, xm_0_9 hx, xm_40_0 hx, xm_40_1 hx, xm_41_0 hx, xm_44_0 hx, xm_44_1 hx, xm_73_4 hx, xm_73_5 hx, xm_73_6 hx, xm_77_1 hx, xm_77_2 hx, xm_77_3 hx, xm_77_4 hx, xm_77_5 hx, xm_77_6 hx, xm_77_7 hx, xm_77_8 hx, xm_77_9 hx, xm_87_2 hx, xm_87_3 hx, xm_87_4 hx, xm_87_5 hx, xm_87_6 hx, xm_87_7 hx, xm_87_8 hx, ite_self, Bool.false_eq_true, eq_self, isk_t, i20_t, w20_t, l23_t, b21_t, b22_t, w_t, bif_t, bif_f, bif_d, if_pos, if_neg, if_true, if_false, not_true_eq_false, not_false_eq_true, Option.bind_some, Option.toList_some, Option.toList_none, List.cons_append, List.nil_append, Int.toNat_natCast, Int.reduceToNat, up_eq, up_p, up_k, sN]
  | succ j ih =>
    intro k μ hk
    obtain ⟨μ1, f1, f2, f3⟩ := ih (k + 1) (am_up μ 94 k (if k < N then 1 else 0)) (by omega)
    refine ⟨μ1, fun q i h => ?_, fun i h0 h1 => ?_, ?_⟩
    · rw [f1 q i (by omega), am_up_no (by omega)]
    · by_cases e : i = k
      · subst e; rw [f1 _ _ (by omega), up_eq]
      · exact f2 i (by omega) h1
    · have e1 : ((k + 1 : Nat) : Int) = (k : Int) + 1 := by omega
      rw [e1] at f3
      rw [← f3]
      by_cases c : k < N
      · rw [if_pos c]
        rw [e52_7]; simp (disch := omega) only [xk_0, xk_1, xk_40, xk_41, xk_42, xk_43, xk_44, xk_45, xk_46, xk_47, xk_48, xk_49, xk_50, xk_51, xk_52, xk_53, xk_54, xk_55, xk_56, xk_57, xk_58, xk_59, xk_60, xk_61, xk_62, xk_63, xk_64, xk_65, xk_66, xk_67, xk_68, xk_69, xk_70, xk_71, xk_72, xk_73, xk_74, xk_75, xk_76, xk_77, xk_78, xk_79, xk_80, xk_81, xk_82, xk_83, xk_84, xk_85, xk_86, xk_87, xk_88, xk_89, xk_90, xk_91, xk_92, xk_93, xk_94, xk_95, xk_96, xk_97, xk_98, xm_0_0 hx, xm_0_10 hx, xm_0_11 hx, xm_0_12 hx, xm_0_13 hx, xm_0_14 hx, xm_0_15 hx, xm_0_2 hx, xm_0_9 hx, xm_40_0 hx, xm_40_1 hx, xm_41_0 hx, xm_44_0 hx, xm_44_1 hx, xm_73_4 hx, xm_73_5 hx, xm_73_6 hx, xm_77_1 hx, xm_77_2 hx, xm_77_3 hx, xm_77_4 hx, xm_77_5 hx, xm_77_6 hx, xm_77_7 hx, xm_77_8 hx, xm_77_9 hx, xm_87_2 hx, xm_87_3 hx, xm_87_4 hx, xm_87_5 hx, xm_87_6 hx, xm_87_7 hx, xm_87_8 hx, ite_self, Bool.false_eq_true, eq_self, isk_t, i20_t, w20_t, l23_t, b21_t, b22_t, w_t, bif_t, bif_f, bif_d, if_pos, if_neg, if_true, if_false, not_true_eq_false, not_false_eq_true, Option.bind_some, Option.toList_some, Option.toList_none, List.cons_append, List.nil_append, Int.toNat_natCast, Int.reduceToNat, up_eq, up_p, up_k, sN,  bw1 ]
      · rw [if_neg c]
        rw [e52_7]; simp (disch := omega) only [xk_0, xk_1, xk_40, xk_41, xk_42, xk_43, xk_44, xk_45, xk_46, xk_47, xk_48, xk_49, xk_50, xk_51, xk_52, xk_53, xk_54, xk_55, xk_56, xk_57, xk_58, xk_59, xk_60, xk_61, xk_62, xk_63, xk_64, xk_65, xk_66, xk_67, xk_68, xk_69, xk_70, xk_71, xk_72, xk_73, xk_74, xk_75, xk_76, xk_77, xk_78, xk_79, xk_80, xk_81, xk_82, xk_83, xk_84, xk_85, xk_86, xk_87, xk_88, xk_89, xk_90, xk_91, xk_92, xk_93, xk_94, xk_95, xk_96, xk_97, xk_98, xm_0_0 hx, xm_0_10 hx, xm_0_11 hx, xm_0_12 hx, xm_0_13 hx, xm_0_14 hx, xm_0_15 hx, xm_0_2 hx, xm_0_9 hx, xm_40_0 hx, xm_40_1 hx, xm_41_0 hx, xm_44_0 hx, xm_44_1 hx, xm_73_4 hx, xm_73_5 hx, xm_73_6 hx, xm_77_1 hx, xm_77_2 hx, xm_77_3 hx, xm_77_4 hx, xm_77_5 hx, xm_77_6 hx, xm_77_7 hx, xm_77_8 hx, xm_77_9 hx, xm_87_2 hx, xm_87_3 hx, xm_87_4 hx, xm_87_5 hx, xm_87_6 hx, xm_87_7 hx, xm_87_8 hx, ite_self, Bool.false_eq_true, eq_self, isk_t, i20_t, w20_t, l23_t, b21_t, b22_t, w_t, bif_t, bif_f, bif_d, if_pos, if_neg, if_true, if_false, not_true_eq_false, not_false_eq_true, Option.bind_some, Option.toList_some, Option.toList_none, List.cons_append, List.nil_append, Int.toNat_natCast, Int.reduceToNat, up_eq, up_p, up_k, sN,  bw0 ]
theorem X_sift2 (hx : XM ρ) (hN : N ≤ 24) (h : ∀ j, N ≤ j → j < 24 → μ 94 j = 0) : ∀ j : Nat, N + j ≤ 24 → am_E (d + 1) 52 38 [some (.inr (.inr 87)), some (.inl (N : Int)), some (.inl (((N + j : Nat) : Int) - 1))] [] (SH, ρ, μ, cs) = am_E (d + 1) 52 38 [some (.inr (.inr 87)), some (.inl (N : Int)), some (.inl ((N : Int) - 1))] [] (SH, ρ, μ, cs) := by
  intro j
  induction j with
  | zero => intro _; rfl
  | succ j ih =>
    intro hj
    rw [← ih (by omega)]
    have g := h (N + j) (by omega) (by omega)
    rw [show ((N + (j + 1) : Nat) : Int) - 1 = ((N + j : Nat) : Int) by omega]
    have hm : N + j < 24 := by omega
    generalize N + j = m at g hm ⊢
    rw [e52_38]; simp (disch := omega) only [xk_0, xk_1, xk_40, xk_41, xk_42, xk_43, xk_44, xk_45, xk_46, xk_47, xk_48, xk_49, xk_50, xk_51, xk_52, xk_53, xk_54, xk_55, xk_56, xk_57, xk_58, xk_59, xk_60, xk_61, xk_62, xk_63, xk_64, xk_65, xk_66, xk_67, xk_68, xk_69, xk_70, xk_71, xk_72, xk_73, xk_74, xk_75, xk_76, xk_77, xk_78, xk_79, xk_80, xk_81, xk_82, xk_83, xk_84, xk_85, xk_86, xk_87, xk_88, xk_89, xk_90, xk_91, xk_92, xk_93, xk_94, xk_95, xk_96, xk_97, xk_98, xm_0_0 hx, xm_0_10 hx, xm_0_11 hx, xm_0_12 hx, xm_0_13 hx, xm_0_14 hx, xm_0_15 hx, xm_0_2 hx, xm_0_9 hx, xm_40_0 hx, xm_40_1 hx, xm_41_0 hx, xm_44_0 hx, xm_44_1 hx, xm_73_4 hx, xm_73_5 hx, xm_73_6 hx, xm_77_1 hx, xm_77_2 hx, xm_77_3 hx, xm_77_4 hx, xm_77_5 hx, xm_77_6 hx, xm_77_7 hx, xm_77_8 hx, xm_77_9 hx, xm_87_2 hx, xm_87_3 hx, xm_87_4 hx, xm_87_5 hx, xm_87_6 hx, xm_87_7 hx, xm_87_8 hx, ite_self, Bool.false_eq_true, eq_self, isk_t, i20_t, w20_t, l23_t, b21_t, b22_t, w_t, bif_t, bif_f, bif_d, if_pos, if_neg, if_true, if_false, not_true_eq_false, not_false_eq_true, Option.bind_some, Option.toList_some, Option.toList_none, List.cons_append, List.nil_append, Int.toNat_natCast, Int.reduceToNat, up_eq, up_p, up_k, sN,  g ]
    all_goals rfl
theorem X_sift3 (hx : XM ρ) (hN : N ≤ 24) (ho : ∀ j : Nat, j < N → -1 ≤ o j ∧ o j < j) : ∀ (i : Nat) (f : Nat → Bool) (μ : Nat → Nat → Int), i ≤ N → (∀ j : Nat, j < N → μ 93 j = o j) → (∀ j, j < 24 → μ 94 j = if j < N ∧ f j = false ∧ (j < i ∨ o j = -1) then 1 else 0) → ∃ μ1, (∀ q k, ¬ (q = 94) → μ1 q k = μ q k) ∧ (∀ j, j < 24 → μ1 94 j = if j < N ∧ sft o i f j = false ∧ o j = -1 then 1 else 0) ∧ am_E (d + 1) 52 38 [some (.inr (.inr 87)), some (.inl (N : Int)), some (.inl ((i : Int) - 1))] [] (SH, ρ, μ, cs) = some (none, (SH, ρ, μ1, cs)) := by
  intro i
  induction i with
  | zero =>
    intro f μ hi h8 h9
    refine ⟨μ, fun _ _ _ => rfl, fun j hj => ?_, ?_⟩
    · rw [h9 j hj]
      show _ = if j < N ∧ f j = false ∧ o j = -1 then 1 else 0
      by_cases e : j < N ∧ f j = false ∧ o j = -1
      · rw [if_pos e, if_pos ⟨e.1, e.2.1, Or.inr e.2.2⟩]
      · rw [if_neg e, if_neg (fun g => e ⟨g.1, g.2.1, by have := g.2.2; omega⟩)]
    · rw [e52_38]; simp (disch := omega) only [xk_0, xk_1, xk_40, xk_41, xk_42, xk_43, xk_44, xk_45, xk_46, xk_47, xk_48, xk_49, xk_50, xk_51, xk_52, xk_53, xk_54, xk_55, xk_56, xk_57, xk_58, xk_59, xk_60, xk_61, xk_62, xk_63, xk_64, xk_65, xk_66, xk_67, xk_68, xk_69, xk_70, xk_71, xk_72, xk_73, xk_74, xk_75, xk_76, xk_77, xk_78, xk_79, xk_80, xk_81, xk_82, xk_83, xk_84, xk_85, xk_86, xk_87, xk_88, xk_89, xk_90, xk_91, xk_92, xk_93, xk_94, xk_95, xk_96, xk_97, xk_98, xm_0_0 hx, xm_0_10 hx, xm_0_11 hx, xm_0_12 hx, xm_0_13 hx, xm_0_14 hx, xm_0_15 hx, xm_0_2 hx, xm_0_9 hx, xm_40_0 hx, xm_40_1 hx, xm_41_0 hx, xm_44_0 hx, xm_44_1 hx, xm_73_4 hx, xm_73_5 hx, xm_73_6 hx, xm_77_1 hx, xm_77_2 hx, xm_77_3 hx, xm_77_4 hx, xm_77_5 hx, xm_77_6 hx, xm_77_7 hx, xm_77_8 hx, xm_77_9 hx, xm_87_2 hx, xm_87_3 hx, xm_87_4 hx, xm_87_5 hx, xm_87_6 hx, xm_87_7 hx, xm_87_8 hx, ite_self, Bool.false_eq_true, eq_self, isk_t, i20_t, w20_t, l23_t, b21_t, b22_t, w_t, bif_t, bif_f, bif_d, if_pos, if_neg, if_true, if_false, not_true_eq_false, not_false_eq_true, Option.bind_some, Option.toList_some, Option.toList_none, List.cons_append, List.nil_append, Int.toNat_natCast, Int.reduceToNat, up_eq, up_p, up_k, sN]
  | succ i ih =>
    intro f μ hi h8 h9
    have e1 : ((i + 1 : Nat) : Int) - 1 = (i : Int) := by omega
    have g8 := h8 i (by omega)
    have g9 := h9 i (by omega)
    have go := ho i (by omega)
    by_cases c : f i = false ∧ o i ≠ -1
    · rw [if_pos ⟨by omega, c.1, Or.inl (by omega)⟩] at g9
      obtain ⟨k, hk⟩ : ∃ k : Nat, o i = (k : Int) := ⟨(o i).toNat, by omega⟩
      obtain ⟨μ1, f1, f2, f3⟩ := ih (fun j => if (j : Int) = o i then true else f j) (am_up (am_up μ 94 k 0) 94 i 0) (by omega) (fun j hj => by rw [up_p (by omega), up_p (by omega)]; exact h8 j hj) (fun j hj => by
        by_cases e : j = i
        · subst e
          rw [up_eq, if_neg (by omega)]
        · rw [up_k e]
          by_cases e2 : j = k
          · subst e2; rw [up_eq]; simp only [hk, if_true]; simp
          · rw [up_k e2, h9 j hj]
            have : ¬ (j : Int) = o i := by omega
            simp only [this, if_false]
            by_cases e3 : j < N ∧ f j = false ∧ (j < i + 1 ∨ o j = -1)
            · rw [if_pos e3, if_pos ⟨e3.1, e3.2.1, by omega⟩]
            · rw [if_neg e3, if_neg (fun g => e3 ⟨g.1, g.2.1, by omega⟩)])
      refine ⟨μ1, fun q k' h => by rw [f1 q k' h, am_up_no (by omega), am_up_no (by omega)], fun j hj => ?_, ?_⟩
      · rw [f2 j hj]
        show _ = if j < N ∧ sft o i (if f i = false ∧ o i ≠ -1 then (fun j => if (j : Int) = o i then true else f j) else f) j = false ∧ o j = -1 then 1 else 0
        rw [if_pos c]
      · rw [e1, ← f3]
        rw [hk] at g8
        have e3 : (i : Int) + -1 = (i : Int) - 1 := rfl
        rw [e52_38]; simp (disch := omega) only [xk_0, xk_1, xk_40, xk_41, xk_42, xk_43, xk_44, xk_45, xk_46, xk_47, xk_48, xk_49, xk_50, xk_51, xk_52, xk_53, xk_54, xk_55, xk_56, xk_57, xk_58, xk_59, xk_60, xk_61, xk_62, xk_63, xk_64, xk_65, xk_66, xk_67, xk_68, xk_69, xk_70, xk_71, xk_72, xk_73, xk_74, xk_75, xk_76, xk_77, xk_78, xk_79, xk_80, xk_81, xk_82, xk_83, xk_84, xk_85, xk_86, xk_87, xk_88, xk_89, xk_90, xk_91, xk_92, xk_93, xk_94, xk_95, xk_96, xk_97, xk_98, xm_0_0 hx, xm_0_10 hx, xm_0_11 hx, xm_0_12 hx, xm_0_13 hx, xm_0_14 hx, xm_0_15 hx, xm_0_2 hx, xm_0_9 hx, xm_40_0 hx, xm_40_1 hx, xm_41_0 hx, xm_44_0 hx, xm_44_1 hx, xm_73_4 hx, xm_73_5 hx, xm_73_6 hx, xm_77_1 hx, xm_77_2 hx, xm_77_3 hx, xm_77_4 hx, xm_77_5 hx, xm_77_6 hx, xm_77_7 hx, xm_77_8 hx, xm_77_9 hx, xm_87_2 hx, xm_87_3 hx, xm_87_4 hx, xm_87_5 hx, xm_87_6 hx, xm_87_7 hx, xm_87_8 hx, ite_self, Bool.false_eq_true, eq_self, isk_t, i20_t, w20_t, l23_t, b21_t, b22_t, w_t, bif_t, bif_f, bif_d, if_pos, if_neg, if_true, if_false, not_true_eq_false, not_false_eq_true, Option.bind_some, Option.toList_some, Option.toList_none, List.cons_append, List.nil_append, Int.toNat_natCast, Int.reduceToNat, up_eq, up_p, up_k, sN,  g9, g8, bw0, e3 ]
    · obtain ⟨μ1, f1, f2, f3⟩ := ih f μ (by omega) h8 (fun j hj => by
        rw [h9 j hj]
        by_cases e3 : j < N ∧ f j = false ∧ (j < i + 1 ∨ o j = -1)
        · rw [if_pos e3, if_pos ⟨e3.1, e3.2.1, by
            by_cases e4 : j = i
            · subst e4
              exact Or.inr (Classical.not_not.mp (fun g => c ⟨e3.2.1, g⟩))
            · omega⟩]
        · rw [if_neg e3, if_neg (fun g => e3 ⟨g.1, g.2.1, by omega⟩)])
      refine ⟨μ1, f1, fun j hj => ?_, ?_⟩
      · rw [f2 j hj]
        show _ = if j < N ∧ sft o i (if f i = false ∧ o i ≠ -1 then (fun j => if (j : Int) = o i then true else f j) else f) j = false ∧ o j = -1 then 1 else 0
        rw [if_neg c]
      · rw [e1, ← f3]
        have e3 : (i : Int) + -1 = (i : Int) - 1 := rfl
        by_cases c1 : f i = true
        · rw [if_neg (by rw [c1]; simp)] at g9
          rw [e52_38]; simp (disch := omega) only [xk_0, xk_1, xk_40, xk_41, xk_42, xk_43, xk_44, xk_45, xk_46, xk_47, xk_48, xk_49, xk_50, xk_51, xk_52, xk_53, xk_54, xk_55, xk_56, xk_57, xk_58, xk_59, xk_60, xk_61, xk_62, xk_63, xk_64, xk_65, xk_66, xk_67, xk_68, xk_69, xk_70, xk_71, xk_72, xk_73, xk_74, xk_75, xk_76, xk_77, xk_78, xk_79, xk_80, xk_81, xk_82, xk_83, xk_84, xk_85, xk_86, xk_87, xk_88, xk_89, xk_90, xk_91, xk_92, xk_93, xk_94, xk_95, xk_96, xk_97, xk_98, xm_0_0 hx, xm_0_10 hx, xm_0_11 hx, xm_0_12 hx, xm_0_13 hx, xm_0_14 hx, xm_0_15 hx, xm_0_2 hx, xm_0_9 hx, xm_40_0 hx, xm_40_1 hx, xm_41_0 hx, xm_44_0 hx, xm_44_1 hx, xm_73_4 hx, xm_73_5 hx, xm_73_6 hx, xm_77_1 hx, xm_77_2 hx, xm_77_3 hx, xm_77_4 hx, xm_77_5 hx, xm_77_6 hx, xm_77_7 hx, xm_77_8 hx, xm_77_9 hx, xm_87_2 hx, xm_87_3 hx, xm_87_4 hx, xm_87_5 hx, xm_87_6 hx, xm_87_7 hx, xm_87_8 hx, ite_self, Bool.false_eq_true, eq_self, isk_t, i20_t, w20_t, l23_t, b21_t, b22_t, w_t, bif_t, bif_f, bif_d, if_pos, if_neg, if_true, if_false, not_true_eq_false, not_false_eq_true, Option.bind_some, Option.toList_some, Option.toList_none, List.cons_append, List.nil_append, Int.toNat_natCast, Int.reduceToNat, up_eq, up_p, up_k, sN,  g9, e3 ]
        · have c2 : f i = false := by simpa using c1
          have c3 : o i = -1 := Classical.not_not.mp (fun g => c ⟨c2, g⟩)
          rw [if_pos ⟨by omega, c2, by omega⟩] at g9
          rw [c3] at g8
          rw [e52_38]; simp (disch := omega) only [xk_0, xk_1, xk_40, xk_41, xk_42, xk_43, xk_44, xk_45, xk_46, xk_47, xk_48, xk_49, xk_50, xk_51, xk_52, xk_53, xk_54, xk_55, xk_56, xk_57, xk_58, xk_59, xk_60, xk_61, xk_62, xk_63, xk_64, xk_65, xk_66, xk_67, xk_68, xk_69, xk_70, xk_71, xk_72, xk_73, xk_74, xk_75, xk_76, xk_77, xk_78, xk_79, xk_80, xk_81, xk_82, xk_83, xk_84, xk_85, xk_86, xk_87, xk_88, xk_89, xk_90, xk_91, xk_92, xk_93, xk_94, xk_95, xk_96, xk_97, xk_98, xm_0_0 hx, xm_0_10 hx, xm_0_11 hx, xm_0_12 hx, xm_0_13 hx, xm_0_14 hx, xm_0_15 hx, xm_0_2 hx, xm_0_9 hx, xm_40_0 hx, xm_40_1 hx, xm_41_0 hx, xm_44_0 hx, xm_44_1 hx, xm_73_4 hx, xm_73_5 hx, xm_73_6 hx, xm_77_1 hx, xm_77_2 hx, xm_77_3 hx, xm_77_4 hx, xm_77_5 hx, xm_77_6 hx, xm_77_7 hx, xm_77_8 hx, xm_77_9 hx, xm_87_2 hx, xm_87_3 hx, xm_87_4 hx, xm_87_5 hx, xm_87_6 hx, xm_87_7 hx, xm_87_8 hx, ite_self, Bool.false_eq_true, eq_self, isk_t, i20_t, w20_t, l23_t, b21_t, b22_t, w_t, bif_t, bif_f, bif_d, if_pos, if_neg, if_true, if_false, not_true_eq_false, not_false_eq_true, Option.bind_some, Option.toList_some, Option.toList_none, List.cons_append, List.nil_append, Int.toNat_natCast, Int.reduceToNat, up_eq, up_p, up_k, sN,  g9, g8, e3 ]
theorem X_sift (hx : XM ρ) (hN : N ≤ 24) (ho : ∀ j : Nat, j < N → -1 ≤ o j ∧ o j < j) (hK : KM μ N) (h0 : μ 87 0 = μ 99 58) (h1 : μ 87 1 = μ 99 59) (hm : -1 ≤ μ 99 59) (h8 : ∀ j : Nat, j < N → μ 93 j = o j) : ∃ μ1, (∀ q k, ¬ (q = 94) → μ1 q k = μ q k) ∧ (∀ j, j < 24 → μ1 94 j = if lvN o N j = true then 1 else 0) ∧ am_E (d + 1) 52 0 [some (.inr (.inr 87)), none, none] [] (SH, ρ, μ, cs) = some (none, (SH, ρ, μ1, cs)) := by
  obtain ⟨μ1, f1, f2, f3⟩ := X_sift1 (cs := cs) (d := d) (ρ := ρ) hx hN 24 0 μ (by omega)
  have f4 := X_sift2 (cs := cs) (d := d) (ρ := ρ) (μ := μ1) hx hN (fun j g0 g1 => by rw [f2 j (by omega) g1, if_neg (by omega)]) (24 - N) (by omega)
  obtain ⟨μ2, k1, k2, k3⟩ := X_sift3 (cs := cs) (d := d) (ρ := ρ) hx hN ho N (fun _ => false) μ1 (Nat.le_refl N) (fun j hj => by rw [f1 _ _ (by omega)]; exact h8 j hj) (fun j hj => by
    rw [f2 j (by omega) hj]
    by_cases e : j < N
    · rw [if_pos e, if_pos ⟨e, rfl, Or.inl e⟩]
    · rw [if_neg e, if_neg (fun g => e g.1)])
  refine ⟨μ2, fun q k h => by rw [k1 q k h, f1 q k (by omega)], fun j hj => ?_, ?_⟩
  · rw [k2 j hj]
    unfold lvN
    by_cases e : j < N ∧ sft o N (fun _ => false) j = false ∧ o j = -1
    · rw [if_pos e, if_pos (decide_eq_true e)]
    · rw [if_neg e, if_neg (by rw [decide_eq_false e]; simp)]
  · rw [show ((N + (24 - N) : Nat) : Int) - 1 = 23 by omega] at f4
    rw [e52_0]; simp (disch := omega) only [e52_4, xk_0, xk_1, xk_40, xk_41, xk_42, xk_43, xk_44, xk_45, xk_46, xk_47, xk_48, xk_49, xk_50, xk_51, xk_52, xk_53, xk_54, xk_55, xk_56, xk_57, xk_58, xk_59, xk_60, xk_61, xk_62, xk_63, xk_64, xk_65, xk_66, xk_67, xk_68, xk_69, xk_70, xk_71, xk_72, xk_73, xk_74, xk_75, xk_76, xk_77, xk_78, xk_79, xk_80, xk_81, xk_82, xk_83, xk_84, xk_85, xk_86, xk_87, xk_88, xk_89, xk_90, xk_91, xk_92, xk_93, xk_94, xk_95, xk_96, xk_97, xk_98, xm_0_0 hx, xm_0_10 hx, xm_0_11 hx, xm_0_12 hx, xm_0_13 hx, xm_0_14 hx, xm_0_15 hx, xm_0_2 hx, xm_0_9 hx, xm_40_0 hx, xm_40_1 hx, xm_41_0 hx, xm_44_0 hx, xm_44_1 hx, xm_73_4 hx, xm_73_5 hx, xm_73_6 hx, xm_77_1 hx, xm_77_2 hx, xm_77_3 hx, xm_77_4 hx, xm_77_5 hx, xm_77_6 hx, xm_77_7 hx, xm_77_8 hx, xm_77_9 hx, xm_87_2 hx, xm_87_3 hx, xm_87_4 hx, xm_87_5 hx, xm_87_6 hx, xm_87_7 hx, xm_87_8 hx, ite_self, Bool.false_eq_true, eq_self, isk_t, i20_t, w20_t, l23_t, b21_t, b22_t, w_t, bif_t, bif_f, bif_d, if_pos, if_neg, if_true, if_false, not_true_eq_false, not_false_eq_true, Option.bind_some, Option.toList_some, Option.toList_none, List.cons_append, List.nil_append, Int.toNat_natCast, Int.reduceToNat, up_eq, up_p, up_k, sN,  X_kc hx hK h0 h1 hm ]
    exact f3.trans (f4.trans k3)
theorem X_last (hx : XM ρ) {dy : Nat → Int} {L : Nat → Bool} {a : Nat} (ha : a ≤ 24) (h0 : μ 87 0 = (a : Int)) (h9 : ∀ j, j < 24 → μ 94 j = if L j = true then 1 else 0) (h4 : ∀ j, j < 24 → L j = true → μ 88 j = dy j) : ∀ (n k : Nat), k + n = a → am_E d 53 4 [some (.inr (.inr 87)), some (.inl (ldy L dy k)), some (.inl (k : Int))] [] (SH, ρ, μ, cs) = some (some (.inl (ldy L dy a)), (SH, ρ, μ, cs)) := by
  intro n
  induction n with
  | zero =>
    intro k hk
    have hk' : k = a := by omega
    subst hk'
    rw [e53_4]; simp (disch := omega) only [xk_0, xk_1, xk_40, xk_41, xk_42, xk_43, xk_44, xk_45, xk_46, xk_47, xk_48, xk_49, xk_50, xk_51, xk_52, xk_53, xk_54, xk_55, xk_56, xk_57, xk_58, xk_59, xk_60, xk_61, xk_62, xk_63, xk_64, xk_65, xk_66, xk_67, xk_68, xk_69, xk_70, xk_71, xk_72, xk_73, xk_74, xk_75, xk_76, xk_77, xk_78, xk_79, xk_80, xk_81, xk_82, xk_83, xk_84, xk_85, xk_86, xk_87, xk_88, xk_89, xk_90, xk_91, xk_92, xk_93, xk_94, xk_95, xk_96, xk_97, xk_98, xm_0_0 hx, xm_0_10 hx, xm_0_11 hx, xm_0_12 hx, xm_0_13 hx, xm_0_14 hx, xm_0_15 hx, xm_0_2 hx, xm_0_9 hx, xm_40_0 hx, xm_40_1 hx, xm_41_0 hx, xm_44_0 hx, xm_44_1 hx, xm_73_4 hx, xm_73_5 hx, xm_73_6 hx, xm_77_1 hx, xm_77_2 hx, xm_77_3 hx, xm_77_4 hx, xm_77_5 hx, xm_77_6 hx, xm_77_7 hx, xm_77_8 hx, xm_77_9 hx, xm_87_2 hx, xm_87_3 hx, xm_87_4 hx, xm_87_5 hx, xm_87_6 hx, xm_87_7 hx, xm_87_8 hx, ite_self, Bool.false_eq_true, eq_self, isk_t, i20_t, w20_t, l23_t, b21_t, b22_t, w_t, bif_t, bif_f, bif_d, if_pos, if_neg, if_true, if_false, not_true_eq_false, not_false_eq_true, Option.bind_some, Option.toList_some, Option.toList_none, List.cons_append, List.nil_append, Int.toNat_natCast, Int.reduceToNat, up_eq, up_p, up_k, sN,  h0 ]
  | succ n ih =>
    intro k hk
    have g9 := h9 k (by omega)
    have g4 := h4 k (by omega)
    have e := ih (k + 1) (by omega)
    have e1 : ((k + 1 : Nat) : Int) = (k : Int) + 1 := by omega
    have e2 : ldy L dy (k + 1) = if L k = true ∧ ldy L dy k < dy k then dy k else ldy L dy k := rfl
    rw [e1, e2] at e
    rw [← e]
    clear e e2
    generalize ldy L dy k = z
    by_cases c1 : L k = true
    · rw [if_pos c1] at g9
      have g4 := g4 c1
      by_cases c2 : z < dy k
      · rw [if_pos ⟨c1, c2⟩]
        rw [e53_4]; simp (disch := omega) only [xk_0, xk_1, xk_40, xk_41, xk_42, xk_43, xk_44, xk_45, xk_46, xk_47, xk_48, xk_49, xk_50, xk_51, xk_52, xk_53, xk_54, xk_55, xk_56, xk_57, xk_58, xk_59, xk_60, xk_61, xk_62, xk_63, xk_64, xk_65, xk_66, xk_67, xk_68, xk_69, xk_70, xk_71, xk_72, xk_73, xk_74, xk_75, xk_76, xk_77, xk_78, xk_79, xk_80, xk_81, xk_82, xk_83, xk_84, xk_85, xk_86, xk_87, xk_88, xk_89, xk_90, xk_91, xk_92, xk_93, xk_94, xk_95, xk_96, xk_97, xk_98, xm_0_0 hx, xm_0_10 hx, xm_0_11 hx, xm_0_12 hx, xm_0_13 hx, xm_0_14 hx, xm_0_15 hx, xm_0_2 hx, xm_0_9 hx, xm_40_0 hx, xm_40_1 hx, xm_41_0 hx, xm_44_0 hx, xm_44_1 hx, xm_73_4 hx, xm_73_5 hx, xm_73_6 hx, xm_77_1 hx, xm_77_2 hx, xm_77_3 hx, xm_77_4 hx, xm_77_5 hx, xm_77_6 hx, xm_77_7 hx, xm_77_8 hx, xm_77_9 hx, xm_87_2 hx, xm_87_3 hx, xm_87_4 hx, xm_87_5 hx, xm_87_6 hx, xm_87_7 hx, xm_87_8 hx, ite_self, Bool.false_eq_true, eq_self, isk_t, i20_t, w20_t, l23_t, b21_t, b22_t, w_t, bif_t, bif_f, bif_d, if_pos, if_neg, if_true, if_false, not_true_eq_false, not_false_eq_true, Option.bind_some, Option.toList_some, Option.toList_none, List.cons_append, List.nil_append, Int.toNat_natCast, Int.reduceToNat, up_eq, up_p, up_k, sN,  h0, g9, g4 ]
      · rw [if_neg (fun g => c2 g.2)]
        rw [e53_4]; simp (disch := omega) only [xk_0, xk_1, xk_40, xk_41, xk_42, xk_43, xk_44, xk_45, xk_46, xk_47, xk_48, xk_49, xk_50, xk_51, xk_52, xk_53, xk_54, xk_55, xk_56, xk_57, xk_58, xk_59, xk_60, xk_61, xk_62, xk_63, xk_64, xk_65, xk_66, xk_67, xk_68, xk_69, xk_70, xk_71, xk_72, xk_73, xk_74, xk_75, xk_76, xk_77, xk_78, xk_79, xk_80, xk_81, xk_82, xk_83, xk_84, xk_85, xk_86, xk_87, xk_88, xk_89, xk_90, xk_91, xk_92, xk_93, xk_94, xk_95, xk_96, xk_97, xk_98, xm_0_0 hx, xm_0_10 hx, xm_0_11 hx, xm_0_12 hx, xm_0_13 hx, xm_0_14 hx, xm_0_15 hx, xm_0_2 hx, xm_0_9 hx, xm_40_0 hx, xm_40_1 hx, xm_41_0 hx, xm_44_0 hx, xm_44_1 hx, xm_73_4 hx, xm_73_5 hx, xm_73_6 hx, xm_77_1 hx, xm_77_2 hx, xm_77_3 hx, xm_77_4 hx, xm_77_5 hx, xm_77_6 hx, xm_77_7 hx, xm_77_8 hx, xm_77_9 hx, xm_87_2 hx, xm_87_3 hx, xm_87_4 hx, xm_87_5 hx, xm_87_6 hx, xm_87_7 hx, xm_87_8 hx, ite_self, Bool.false_eq_true, eq_self, isk_t, i20_t, w20_t, l23_t, b21_t, b22_t, w_t, bif_t, bif_f, bif_d, if_pos, if_neg, if_true, if_false, not_true_eq_false, not_false_eq_true, Option.bind_some, Option.toList_some, Option.toList_none, List.cons_append, List.nil_append, Int.toNat_natCast, Int.reduceToNat, up_eq, up_p, up_k, sN,  h0, g9, g4 ]
    · rw [if_neg c1] at g9
      rw [if_neg (fun g => c1 g.1)]
      rw [e53_4]; simp (disch := omega) only [xk_0, xk_1, xk_40, xk_41, xk_42, xk_43, xk_44, xk_45, xk_46, xk_47, xk_48, xk_49, xk_50, xk_51, xk_52, xk_53, xk_54, xk_55, xk_56, xk_57, xk_58, xk_59, xk_60, xk_61, xk_62, xk_63, xk_64, xk_65, xk_66, xk_67, xk_68, xk_69, xk_70, xk_71, xk_72, xk_73, xk_74, xk_75, xk_76, xk_77, xk_78, xk_79, xk_80, xk_81, xk_82, xk_83, xk_84, xk_85, xk_86, xk_87, xk_88, xk_89, xk_90, xk_91, xk_92, xk_93, xk_94, xk_95, xk_96, xk_97, xk_98, xm_0_0 hx, xm_0_10 hx, xm_0_11 hx, xm_0_12 hx, xm_0_13 hx, xm_0_14 hx, xm_0_15 hx, xm_0_2 hx, xm_0_9 hx, xm_40_0 hx, xm_40_1 hx, xm_41_0 hx, xm_44_0 hx, xm_44_1 hx, xm_73_4 hx, xm_73_5 hx, xm_73_6 hx, xm_77_1 hx, xm_77_2 hx, xm_77_3 hx, xm_77_4 hx, xm_77_5 hx, xm_77_6 hx, xm_77_7 hx, xm_77_8 hx, xm_77_9 hx, xm_87_2 hx, xm_87_3 hx, xm_87_4 hx, xm_87_5 hx, xm_87_6 hx, xm_87_7 hx, xm_87_8 hx, ite_self, Bool.false_eq_true, eq_self, isk_t, i20_t, w20_t, l23_t, b21_t, b22_t, w_t, bif_t, bif_f, bif_d, if_pos, if_neg, if_true, if_false, not_true_eq_false, not_false_eq_true, Option.bind_some, Option.toList_some, Option.toList_none, List.cons_append, List.nil_append, Int.toNat_natCast, Int.reduceToNat, up_eq, up_p, up_k, sN,  h0, g9 ]
end SF
