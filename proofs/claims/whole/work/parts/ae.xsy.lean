/-! TEXT: the class's law reader -/
def WS (f : Nat → Int) : List Int → Prop
  | [] => True
  | k :: r => f r.length = k ∧ WS f r
theorem ws_c {f g : Nat → Int} : ∀ st : List Int, (∀ i, i < st.length → g i = f i) → WS f st → WS g st
  | [], _, _ => trivial
  | k :: r, h, hw => ⟨(h r.length (by simp)).trans hw.1, ws_c r (fun i hi => h i (by simp; omega)) hw.2⟩
def OS (f g : Nat → Int) (B : Nat) (o : List (Int × Int)) : Prop := ∀ j, j < o.length → f (B + j) = (o.getD j (0, 0)).1 ∧ g (B + j) = (o.getD j (0, 0)).2
def FL (c B : Nat) (μ μ' : Nat → Nat → Int) : Prop := ∀ q k, ¬ (q = 44 ∨ q = 45 ∨ (q = c + 14 ∧ k < 2) ∨ (q = c + 15 ∧ B ≤ k) ∨ (q = c + 16 ∧ B ≤ k)) → μ' q k = μ q k
def LM (μ : Nat → Nat → Int) (c B : Nat) (s : SS) : Prop := μ 44 2 = (s.1.length : Int) ∧ μ 44 3 = (s.2.1 : Int) ∧ WS (μ 45) s.1 ∧ μ (c + 14) 0 = s.2.2.1 ∧ μ (c + 14) 1 = ((B + s.2.2.2.length : Nat) : Int) ∧ OS (μ (c + 15)) (μ (c + 16)) B s.2.2.2
section XSY
variable {ρ : Nat → Nat → Nat} {μ : Nat → Nat → Int} {cs : Nat × Nat × Nat} {d n a c B : Nat} {b : Nat → Int} {s : SS}
theorem fl_rf : FL c B μ μ := fun _ _ _ => rfl
theorem fl_tr {x y z : Nat → Nat → Int} (h1 : FL c B x y) (h2 : FL c B y z) : FL c B x z := fun q k h => (h2 q k h).trans (h1 q k h)
theorem fl_up {μ μ' : Nat → Nat → Int} {q k : Nat} {v : Int} (h1 : FL c B μ μ') (h : q = 44 ∨ q = 45 ∨ (q = c + 14 ∧ k < 2) ∨ (q = c + 15 ∧ B ≤ k) ∨ (q = c + 16 ∧ B ≤ k)) : FL c B μ (am_up μ' q k v) := fun q' k' h' => by
  rw [am_up_no (fun e => h' (by obtain ⟨rfl, rfl⟩ := e; exact h))]
  exact h1 q' k' h'
theorem lm_ext {μ' : Nat → Nat → Int} (h : LM μ c B s) (hf : ∀ q k, q = 44 ∨ q = 45 ∨ (c + 14 ≤ q ∧ q ≤ c + 16) → μ' q k = μ q k) : LM μ' c B s := by
  obtain ⟨a1, a2, a3, a4, a5, a6⟩ := h
  refine ⟨(hf _ _ (by omega)).trans a1, (hf _ _ (by omega)).trans a2, ws_c _ (fun i _ => hf _ _ (by omega)) a3, (hf _ _ (by omega)).trans a4, (hf _ _ (by omega)).trans a5, fun j hj => ?_⟩
  rw [hf _ _ (by omega), hf _ _ (by omega)]
  exact a6 j hj
theorem X_rank {k : Int} : am_E d 29 0 [some (.inl k)] [] (SH, ρ, μ, cs) = some (some (.inl (rnk k)), (SH, ρ, μ, cs)) := by
  rw [e29_0]
  by_cases h : k < 20 ∨ 37 < k
  · rw [e29_1_d _ _ _ _ _ _ _ h]
    unfold rnk
    simp (disch := omega) only [if_neg]
  · have : k = 20 ∨ k = 21 ∨ k = 22 ∨ k = 23 ∨ k = 24 ∨ k = 25 ∨ k = 26 ∨ k = 27 ∨ k = 28 ∨ k = 29 ∨ k = 30 ∨ k = 31 ∨ k = 32 ∨ k = 33 ∨ k = 34 ∨ k = 35 ∨ k = 36 ∨ k = 37 := by omega
    rcases this with rfl | rfl | rfl | rfl | rfl | rfl | rfl | rfl | rfl | rfl | rfl | rfl | rfl | rfl | rfl | rfl | rfl | rfl
    · exact e29_1_c20 ..
    · exact e29_1_c21 ..
    · exact e29_1_c22 ..
    · exact e29_1_c23 ..
    · exact e29_1_c24 ..
    · exact e29_1_c25 ..
    · exact e29_1_c26 ..
    · exact e29_1_c27 ..
    · exact e29_1_c28 ..
    · exact e29_1_c29 ..
    · exact e29_1_c30 ..
    · exact e29_1_c31 ..
    · exact e29_1_c32 ..
    · exact e29_1_c33 ..
    · exact e29_1_c34 ..
    · exact e29_1_c35 ..
    · exact e29_1_c36 ..
    · exact e29_1_c37 ..
theorem X_place (hx : XM ρ) (hb : c = 2 ∨ c = 21) {P : Nat} {k v : Int} (h1 : μ (c + 14) 1 = (P : Int)) (hP : P < 64) : am_E d 33 0 [some (.inr (.inr (c + 14))), some (.inl k), some (.inl v)] [] (SH, ρ, μ, cs) = some (none, (SH, ρ, am_up (am_up (am_up μ (c + 15) P k) (c + 16) P v) (c + 14) 1 ((P : Int) + 1), cs)) := by
  simp (disch := omega) only [e33_0, xk_0, xk_1, xk_40, xk_41, xk_42, xk_43, xk_44, xk_45, xk_46, xk_47, xk_48, xk_49, xk_50, xk_51, xk_52, xk_53, xk_54, xk_55, xk_56, xk_57, xk_58, xk_59, xk_60, xk_61, xk_62, xk_63, xk_64, xk_65, xk_66, xk_67, xk_68, xk_69, xk_70, xk_71, xk_72, xk_73, xk_74, xk_75, xk_76, xk_77, xk_78, xk_79, xk_80, xk_81, xk_82, xk_83, xk_84, xk_85, xk_86, xk_87, xk_88, xk_89, xk_90, xk_91, xk_92, xk_93, xk_94, xk_95, xk_96, xk_97, xk_98, xk_st0 hb, xk_st1 hb, xk_st10 hb, xk_st11 hb, xk_st12 hb, xk_st13 hb, xk_st14 hb, xk_st15 hb, xk_st16 hb, xk_st17 hb, xk_st18 hb, xk_st2 hb, xk_st3 hb, xk_st4 hb, xk_st5 hb, xk_st6 hb, xk_st7 hb, xk_st8 hb, xk_st9 hb, xm_0_0 hx, xm_0_10 hx, xm_0_11 hx, xm_0_12 hx, xm_0_13 hx, xm_0_14 hx, xm_0_15 hx, xm_0_2 hx, xm_0_9 hx, xm_40_0 hx, xm_40_1 hx, xm_41_0 hx, xm_44_0 hx, xm_44_1 hx, xm_73_4 hx, xm_73_5 hx, xm_73_6 hx, xm_77_1 hx, xm_77_2 hx, xm_77_3 hx, xm_77_4 hx, xm_77_5 hx, xm_77_6 hx, xm_77_7 hx, xm_77_8 hx, xm_77_9 hx, xm_87_2 hx, xm_87_3 hx, xm_87_4 hx, xm_87_5 hx, xm_87_6 hx, xm_87_7 hx, xm_87_8 hx, xm_lw2 hx hb, xm_lw3 hx hb, xm_lw4 hx hb, xm_lw5 hx hb, xm_st1 hx hb, xm_st10 hx hb, xm_st11 hx hb, xm_st13 hx hb, xm_st14 hx hb, xm_st15 hx hb, xm_st16 hx hb, xm_st17 hx hb, xm_st2 hx hb, xm_st4 hx hb, xm_st5 hx hb, xm_st6 hx hb, xm_st7 hx hb, xm_st9 hx hb, ite_self, Bool.false_eq_true, eq_self, isk_t, i20_t, w20_t, l23_t, b21_t, b22_t, w_t, bif_t, bif_f, bif_d, if_pos, if_neg, if_true, if_false, not_true_eq_false, not_false_eq_true, Option.bind_some, Option.toList_some, Option.toList_none, List.cons_append, List.nil_append, Int.toNat_natCast, Int.reduceToNat, up_eq, up_p, up_k, sN,  h1 ]
theorem lm_place {k v : Int} (h : LM μ c B s) : LM (am_up (am_up (am_up μ (c + 15) (B + s.2.2.2.length) k) (c + 16) (B + s.2.2.2.length) v) (c + 14) 1 (((B + s.2.2.2.length : Nat) : Int) + 1)) c B (s.1, s.2.1, s.2.2.1, s.2.2.2 ++ [(k, v)]) ∨ c + 14 = 45 ∨ c + 15 = 45 ∨ c + 16 = 45 ∨ c + 14 = 44 ∨ c + 15 = 44 ∨ c + 16 = 44 := by
  by_cases q : c + 14 = 45 ∨ c + 15 = 45 ∨ c + 16 = 45 ∨ c + 14 = 44 ∨ c + 15 = 44 ∨ c + 16 = 44
  · exact Or.inr q
  refine Or.inl ?_
  obtain ⟨a1, a2, a3, a4, a5, a6⟩ := h
  refine ⟨?_, ?_, ws_c _ (fun i _ => ?_) a3, ?_, ?_, fun j hj => ?_⟩
  · simp (disch := omega) only [up_p]; exact a1
  · simp (disch := omega) only [up_p]; exact a2
  · simp (disch := omega) only [up_p]
  · simp (disch := omega) only [up_p, up_k]; exact a4
  · rw [up_eq]
    show ((B + s.2.2.2.length : Nat) : Int) + 1 = ((B + (s.2.2.2 ++ [(k, v)]).length : Nat) : Int)
    rw [List.length_append]
    show ((B + s.2.2.2.length : Nat) : Int) + 1 = ((B + (s.2.2.2.length + 1) : Nat) : Int)
    omega
  · have hj : j < (s.2.2.2 ++ [(k, v)]).length := hj
    rw [List.length_append] at hj
    have hj : j < s.2.2.2.length + 1 := hj
    show _ = ((s.2.2.2 ++ [(k, v)]).getD j (0, 0)).1 ∧ _ = ((s.2.2.2 ++ [(k, v)]).getD j (0, 0)).2
    by_cases e : j = s.2.2.2.length
    · subst e
      have e2 : (s.2.2.2 ++ [(k, v)]).getD s.2.2.2.length (0, 0) = (k, v) := by simp [List.getD]
      rw [e2]
      constructor
      · rw [up_p (by omega), up_p (by omega), up_eq]
      · rw [up_p (by omega), up_eq]
    · have e2 : (s.2.2.2 ++ [(k, v)]).getD j (0, 0) = s.2.2.2.getD j (0, 0) := by
        simp only [List.getD]
        rw [List.getElem?_append_left (by omega)]
      rw [e2]
      have g := a6 j (by omega)
      constructor
      · rw [up_p (by omega), up_p (by omega), up_k (by omega)]; exact g.1
      · rw [up_p (by omega), up_k (by omega)]
        simp (disch := omega) only [up_p]
        exact g.2
theorem lm_pl {k v : Int} (hb : c = 2 ∨ c = 21) (h : LM μ c B s) : LM (am_up (am_up (am_up μ (c + 15) (B + s.2.2.2.length) k) (c + 16) (B + s.2.2.2.length) v) (c + 14) 1 (((B + s.2.2.2.length : Nat) : Int) + 1)) c B (s.1, s.2.1, s.2.2.1, s.2.2.2 ++ [(k, v)]) := by
  rcases lm_place (k := k) (v := v) h with g | g
  · exact g
  · omega
theorem lm_kn (hb : c = 2 ∨ c = 21) {x : Int} (h : LM μ c B s) : LM (am_up μ (c + 14) 0 x) c B (s.1, s.2.1, x, s.2.2.2) := by
  obtain ⟨a1, a2, a3, a4, a5, a6⟩ := h
  refine ⟨?_, ?_, ws_c _ (fun i _ => ?_) a3, up_eq, ?_, fun j hj => ?_⟩
  · rw [up_p (by omega)]; exact a1
  · rw [up_p (by omega)]; exact a2
  · rw [up_p (by omega)]
  · rw [up_k (by omega)]; exact a5
  · rw [up_p (by omega), up_p (by omega)]; exact a6 j hj
theorem X_push (hx : XM ρ) {L : Nat} {k : Int} (h2 : μ 44 2 = (L : Int)) (hL : L < 72) : am_E d 26 0 [some (.inr (.inr 44)), some (.inl k)] [] (SH, ρ, μ, cs) = some (none, (SH, ρ, am_up (am_up μ 45 L k) 44 2 ((L : Int) + 1), cs)) := by
  have hlk : am_lnk (20, 72) = true := rfl
  rw [e26_0]
  simp only [bif_d]
  simp (disch := omega) only [xm_0_0 hx, xm_0_2 hx, xm_0_9 hx, xm_0_10 hx, xm_0_11 hx, xm_0_12 hx, xm_0_13 hx, xm_0_14 hx, xm_0_15 hx, xm_40_0 hx, xm_40_1 hx, xm_41_0 hx, xm_44_0 hx, xm_44_1 hx, xm_73_4 hx, xm_73_5 hx, xm_73_6 hx, xm_77_1 hx, xm_77_2 hx, xm_77_3 hx, xm_77_4 hx, xm_77_5 hx, xm_77_6 hx, xm_77_7 hx, xm_77_8 hx, xm_77_9 hx, xm_87_2 hx, xm_87_3 hx, xm_87_4 hx, xm_87_5 hx, xm_87_6 hx, xm_87_7 hx, xm_87_8 hx, xk_0, xk_1, xk_40, xk_41, xk_42, xk_43, xk_44, xk_45, xk_46, xk_47, xk_48, xk_49, xk_50, xk_51, xk_52, xk_53, xk_54, xk_55, xk_56, xk_57, xk_58, xk_59, xk_60, xk_61, xk_62, xk_63, xk_64, xk_65, xk_66, xk_67, xk_68, xk_69, xk_70, xk_71, xk_72, xk_73, xk_74, xk_75, xk_76, xk_77, xk_78, xk_79, xk_80, xk_81, xk_82, xk_83, xk_84, xk_85, xk_86, xk_87, xk_88, xk_89, xk_90, xk_91, xk_92, xk_93, xk_94, xk_95, xk_96, xk_97, xk_98, ite_self, Bool.false_eq_true, eq_self, isk_t, i20_t, w20_t, l23_t, b21_t, b22_t, w_t, bif_t, bif_f, bif_d, if_pos, if_neg, if_true, if_false, not_true_eq_false, not_false_eq_true, Option.bind_some, Option.toList_some, Option.toList_none, List.cons_append, List.nil_append, Int.toNat_natCast, Int.reduceToNat, up_eq, up_p, up_k, sN,  h2, hlk ]
  all_goals first | rfl | (rw [if_neg (by omega)])
theorem lm_push (hb : c = 2 ∨ c = 21) {k : Int} (h : LM μ c B s) : LM (am_up (am_up μ 45 s.1.length k) 44 2 ((s.1.length : Int) + 1)) c B (k :: s.1, s.2.1, s.2.2.1, s.2.2.2) := by
  obtain ⟨a1, a2, a3, a4, a5, a6⟩ := h
  refine ⟨?_, ?_, ⟨?_, ws_c _ (fun i hi => ?_) a3⟩, ?_, ?_, fun j hj => ?_⟩
  · rw [up_eq]; show _ = ((s.1.length + 1 : Nat) : Int); omega
  · rw [up_k (by omega), up_p (by omega)]; exact a2
  · rw [up_p (by omega), up_eq]
  · rw [up_p (by omega), up_k (by omega)]
  · rw [up_p (by omega), up_p (by omega)]; exact a4
  · rw [up_p (by omega), up_p (by omega)]; exact a5
  · rw [up_p (by omega), up_p (by omega), up_p (by omega), up_p (by omega)]; exact a6 j hj
theorem X_lastW (hx : XM ρ) (h : LM μ c B s) (hL : s.1.length ≤ 72) : am_E d 27 0 [some (.inr (.inr 44))] [] (SH, ρ, μ, cs) = some (some (.inl (topS s.1)), (SH, ρ, μ, cs)) := by
  obtain ⟨a1, a2, a3, a4, a5, a6⟩ := h
  obtain ⟨st, op, kn, o⟩ := s
  cases st with
  | nil =>
    have a1 : μ 44 2 = 0 := a1
    simp (disch := omega) only [e27_0, xk_0, xk_1, xk_40, xk_41, xk_42, xk_43, xk_44, xk_45, xk_46, xk_47, xk_48, xk_49, xk_50, xk_51, xk_52, xk_53, xk_54, xk_55, xk_56, xk_57, xk_58, xk_59, xk_60, xk_61, xk_62, xk_63, xk_64, xk_65, xk_66, xk_67, xk_68, xk_69, xk_70, xk_71, xk_72, xk_73, xk_74, xk_75, xk_76, xk_77, xk_78, xk_79, xk_80, xk_81, xk_82, xk_83, xk_84, xk_85, xk_86, xk_87, xk_88, xk_89, xk_90, xk_91, xk_92, xk_93, xk_94, xk_95, xk_96, xk_97, xk_98, xm_0_0 hx, xm_0_10 hx, xm_0_11 hx, xm_0_12 hx, xm_0_13 hx, xm_0_14 hx, xm_0_15 hx, xm_0_2 hx, xm_0_9 hx, xm_40_0 hx, xm_40_1 hx, xm_41_0 hx, xm_44_0 hx, xm_44_1 hx, xm_73_4 hx, xm_73_5 hx, xm_73_6 hx, xm_77_1 hx, xm_77_2 hx, xm_77_3 hx, xm_77_4 hx, xm_77_5 hx, xm_77_6 hx, xm_77_7 hx, xm_77_8 hx, xm_77_9 hx, xm_87_2 hx, xm_87_3 hx, xm_87_4 hx, xm_87_5 hx, xm_87_6 hx, xm_87_7 hx, xm_87_8 hx, ite_self, Bool.false_eq_true, eq_self, isk_t, i20_t, w20_t, l23_t, b21_t, b22_t, w_t, bif_t, bif_f, bif_d, if_pos, if_neg, if_true, if_false, not_true_eq_false, not_false_eq_true, Option.bind_some, Option.toList_some, Option.toList_none, List.cons_append, List.nil_append, Int.toNat_natCast, Int.reduceToNat, up_eq, up_p, up_k, sN,  a1 ]
    all_goals rfl
  | cons k r =>
    have a1 : μ 44 2 = ((r.length + 1 : Nat) : Int) := a1
    have a3 : μ 45 r.length = k := a3.1
    have hL : r.length + 1 ≤ 72 := hL
    have et : (((r.length + 1 : Nat) : Int) - 1).toNat = r.length := by omega
    simp (disch := omega) only [e27_0, xk_0, xk_1, xk_40, xk_41, xk_42, xk_43, xk_44, xk_45, xk_46, xk_47, xk_48, xk_49, xk_50, xk_51, xk_52, xk_53, xk_54, xk_55, xk_56, xk_57, xk_58, xk_59, xk_60, xk_61, xk_62, xk_63, xk_64, xk_65, xk_66, xk_67, xk_68, xk_69, xk_70, xk_71, xk_72, xk_73, xk_74, xk_75, xk_76, xk_77, xk_78, xk_79, xk_80, xk_81, xk_82, xk_83, xk_84, xk_85, xk_86, xk_87, xk_88, xk_89, xk_90, xk_91, xk_92, xk_93, xk_94, xk_95, xk_96, xk_97, xk_98, xm_0_0 hx, xm_0_10 hx, xm_0_11 hx, xm_0_12 hx, xm_0_13 hx, xm_0_14 hx, xm_0_15 hx, xm_0_2 hx, xm_0_9 hx, xm_40_0 hx, xm_40_1 hx, xm_41_0 hx, xm_44_0 hx, xm_44_1 hx, xm_73_4 hx, xm_73_5 hx, xm_73_6 hx, xm_77_1 hx, xm_77_2 hx, xm_77_3 hx, xm_77_4 hx, xm_77_5 hx, xm_77_6 hx, xm_77_7 hx, xm_77_8 hx, xm_77_9 hx, xm_87_2 hx, xm_87_3 hx, xm_87_4 hx, xm_87_5 hx, xm_87_6 hx, xm_87_7 hx, xm_87_8 hx, ite_self, Bool.false_eq_true, eq_self, isk_t, i20_t, w20_t, l23_t, b21_t, b22_t, w_t, bif_t, bif_f, bif_d, if_pos, if_neg, if_true, if_false, not_true_eq_false, not_false_eq_true, Option.bind_some, Option.toList_some, Option.toList_none, List.cons_append, List.nil_append, Int.toNat_natCast, Int.reduceToNat, up_eq, up_p, up_k, sN,  a1, et, a3 ]
    all_goals rfl
theorem X_settle (hx : XM ρ) (hb : c = 2 ∨ c = 21) (hL : ρ 44 4 = c + 14) {l : Int} (hl : 1 ≤ l) : ∀ (st : List Int) (op : Nat) (kn : Int) (o : List (Int × Int)) {μ : Nat → Nat → Int}, LM μ c B (st, op, kn, o) → st.length ≤ 72 → B + o.length + nop st ≤ 64 → ∃ μ', FL c B μ μ' ∧ LM μ' c B ((stl l st o).1, op, kn, (stl l st o).2) ∧ am_E (d + 2) 28 0 [some (.inr (.inr 44)), some (.inl l)] [] (SH, ρ, μ, cs) = some (none, (SH, ρ, μ', cs)) := by
  intro st op kn
  induction st with
  | nil =>
    intro o μ h _ _
    have a1 : μ 44 2 = 0 := h.1
    refine ⟨μ, fl_rf, h, ?_⟩
    rw [e28_0]; simp (disch := omega) only [xk_0, xk_1, xk_40, xk_41, xk_42, xk_43, xk_44, xk_45, xk_46, xk_47, xk_48, xk_49, xk_50, xk_51, xk_52, xk_53, xk_54, xk_55, xk_56, xk_57, xk_58, xk_59, xk_60, xk_61, xk_62, xk_63, xk_64, xk_65, xk_66, xk_67, xk_68, xk_69, xk_70, xk_71, xk_72, xk_73, xk_74, xk_75, xk_76, xk_77, xk_78, xk_79, xk_80, xk_81, xk_82, xk_83, xk_84, xk_85, xk_86, xk_87, xk_88, xk_89, xk_90, xk_91, xk_92, xk_93, xk_94, xk_95, xk_96, xk_97, xk_98, xk_st0 hb, xk_st1 hb, xk_st10 hb, xk_st11 hb, xk_st12 hb, xk_st13 hb, xk_st14 hb, xk_st15 hb, xk_st16 hb, xk_st17 hb, xk_st18 hb, xk_st2 hb, xk_st3 hb, xk_st4 hb, xk_st5 hb, xk_st6 hb, xk_st7 hb, xk_st8 hb, xk_st9 hb, xm_0_0 hx, xm_0_10 hx, xm_0_11 hx, xm_0_12 hx, xm_0_13 hx, xm_0_14 hx, xm_0_15 hx, xm_0_2 hx, xm_0_9 hx, xm_40_0 hx, xm_40_1 hx, xm_41_0 hx, xm_44_0 hx, xm_44_1 hx, xm_73_4 hx, xm_73_5 hx, xm_73_6 hx, xm_77_1 hx, xm_77_2 hx, xm_77_3 hx, xm_77_4 hx, xm_77_5 hx, xm_77_6 hx, xm_77_7 hx, xm_77_8 hx, xm_77_9 hx, xm_87_2 hx, xm_87_3 hx, xm_87_4 hx, xm_87_5 hx, xm_87_6 hx, xm_87_7 hx, xm_87_8 hx, xm_lw2 hx hb, xm_lw3 hx hb, xm_lw4 hx hb, xm_lw5 hx hb, xm_st1 hx hb, xm_st10 hx hb, xm_st11 hx hb, xm_st13 hx hb, xm_st14 hx hb, xm_st15 hx hb, xm_st16 hx hb, xm_st17 hx hb, xm_st2 hx hb, xm_st4 hx hb, xm_st5 hx hb, xm_st6 hx hb, xm_st7 hx hb, xm_st9 hx hb, ite_self, Bool.false_eq_true, eq_self, isk_t, i20_t, w20_t, l23_t, b21_t, b22_t, w_t, bif_t, bif_f, bif_d, if_pos, if_neg, if_true, if_false, not_true_eq_false, not_false_eq_true, Option.bind_some, Option.toList_some, Option.toList_none, List.cons_append, List.nil_append, Int.toNat_natCast, Int.reduceToNat, up_eq, up_p, up_k, sN,  a1 ]
  | cons k r ih =>
    intro o μ h hlen hN
    have a1 : μ 44 2 = ((r.length + 1 : Nat) : Int) := h.1
    have a3 : μ 45 r.length = k := h.2.2.1.1
    have hlen : r.length + 1 ≤ 72 := hlen
    have et : (((r.length + 1 : Nat) : Int) - 1).toNat = r.length := by omega
    have hr := fun (μ : Nat → Nat → Int) (d : Nat) => X_rank (ρ := ρ) (μ := μ) (cs := cs) (d := d) (k := k)
    have es : stl l (k :: r) o = if rnk k < l then (k :: r, o) else stl l r (o ++ [(k, 0)]) := rfl
    rw [es]
    by_cases q : rnk k < l
    · rw [if_pos q]
      refine ⟨μ, fl_rf, h, ?_⟩
      rw [e28_0]; simp (disch := omega) only [e28_21, xk_0, xk_1, xk_40, xk_41, xk_42, xk_43, xk_44, xk_45, xk_46, xk_47, xk_48, xk_49, xk_50, xk_51, xk_52, xk_53, xk_54, xk_55, xk_56, xk_57, xk_58, xk_59, xk_60, xk_61, xk_62, xk_63, xk_64, xk_65, xk_66, xk_67, xk_68, xk_69, xk_70, xk_71, xk_72, xk_73, xk_74, xk_75, xk_76, xk_77, xk_78, xk_79, xk_80, xk_81, xk_82, xk_83, xk_84, xk_85, xk_86, xk_87, xk_88, xk_89, xk_90, xk_91, xk_92, xk_93, xk_94, xk_95, xk_96, xk_97, xk_98, xk_st0 hb, xk_st1 hb, xk_st10 hb, xk_st11 hb, xk_st12 hb, xk_st13 hb, xk_st14 hb, xk_st15 hb, xk_st16 hb, xk_st17 hb, xk_st18 hb, xk_st2 hb, xk_st3 hb, xk_st4 hb, xk_st5 hb, xk_st6 hb, xk_st7 hb, xk_st8 hb, xk_st9 hb, xm_0_0 hx, xm_0_10 hx, xm_0_11 hx, xm_0_12 hx, xm_0_13 hx, xm_0_14 hx, xm_0_15 hx, xm_0_2 hx, xm_0_9 hx, xm_40_0 hx, xm_40_1 hx, xm_41_0 hx, xm_44_0 hx, xm_44_1 hx, xm_73_4 hx, xm_73_5 hx, xm_73_6 hx, xm_77_1 hx, xm_77_2 hx, xm_77_3 hx, xm_77_4 hx, xm_77_5 hx, xm_77_6 hx, xm_77_7 hx, xm_77_8 hx, xm_77_9 hx, xm_87_2 hx, xm_87_3 hx, xm_87_4 hx, xm_87_5 hx, xm_87_6 hx, xm_87_7 hx, xm_87_8 hx, xm_lw2 hx hb, xm_lw3 hx hb, xm_lw4 hx hb, xm_lw5 hx hb, xm_st1 hx hb, xm_st10 hx hb, xm_st11 hx hb, xm_st13 hx hb, xm_st14 hx hb, xm_st15 hx hb, xm_st16 hx hb, xm_st17 hx hb, xm_st2 hx hb, xm_st4 hx hb, xm_st5 hx hb, xm_st6 hx hb, xm_st7 hx hb, xm_st9 hx hb, ite_self, Bool.false_eq_true, eq_self, isk_t, i20_t, w20_t, l23_t, b21_t, b22_t, w_t, bif_t, bif_f, bif_d, if_pos, if_neg, if_true, if_false, not_true_eq_false, not_false_eq_true, Option.bind_some, Option.toList_some, Option.toList_none, List.cons_append, List.nil_append, Int.toNat_natCast, Int.reduceToNat, up_eq, up_p, up_k, sN,  a1, et, a3, hr ]
    · rw [if_neg q]
      have hk : k ≠ 25 := by
        intro e
        rw [e, rnk_25] at q
        omega
      have hN' : B + o.length + (nop r + (if k = 25 then 0 else 1)) ≤ 64 := hN
      rw [if_neg hk] at hN'
      have h2 : LM (am_up μ 44 2 (((r.length + 1 : Nat) : Int) - 1)) c B (r, op, kn, o) := by
        obtain ⟨a1, a2, a3, a4, a5, a6⟩ := h
        refine ⟨?_, ?_, ws_c _ (fun i hi => ?_) a3.2, ?_, ?_, fun j hj => ?_⟩
        · rw [up_eq]; show _ = (r.length : Int); omega
        · rw [up_k (by omega)]; exact a2
        · rw [up_p (by omega)]
        · rw [up_p (by omega)]; exact a4
        · rw [up_p (by omega)]; exact a5
        · rw [up_p (by omega), up_p (by omega)]; exact a6 j hj
      have h3 := lm_pl (k := k) (v := 0) hb h2
      have hpl := fun d => X_place (ρ := ρ) (cs := cs) (d := d) (k := k) (v := 0) hx hb h2.2.2.2.2.1 (by show B + o.length < 64; omega)
      obtain ⟨μ', g1, g2, g3⟩ := ih (o ++ [(k, 0)]) h3 (by omega) (by rw [List.length_append]; show B + (o.length + 1) + nop r ≤ 64; omega)
      refine ⟨μ', fl_tr (fl_up (fl_up (fl_up (fl_up fl_rf (by omega)) (by simp)) (by simp)) (by simp)) g1, g2, ?_⟩
      have ek : (am_up μ 44 2 (((r.length + 1 : Nat) : Int) - 1)) 45 r.length = k := by rw [up_p (by omega)]; exact a3
      simp only [] at hpl g3
      generalize B + o.length = P at *
      rw [e28_0]; simp (disch := omega) only [e28_21, e28_52, xk_0, xk_1, xk_40, xk_41, xk_42, xk_43, xk_44, xk_45, xk_46, xk_47, xk_48, xk_49, xk_50, xk_51, xk_52, xk_53, xk_54, xk_55, xk_56, xk_57, xk_58, xk_59, xk_60, xk_61, xk_62, xk_63, xk_64, xk_65, xk_66, xk_67, xk_68, xk_69, xk_70, xk_71, xk_72, xk_73, xk_74, xk_75, xk_76, xk_77, xk_78, xk_79, xk_80, xk_81, xk_82, xk_83, xk_84, xk_85, xk_86, xk_87, xk_88, xk_89, xk_90, xk_91, xk_92, xk_93, xk_94, xk_95, xk_96, xk_97, xk_98, xk_st0 hb, xk_st1 hb, xk_st10 hb, xk_st11 hb, xk_st12 hb, xk_st13 hb, xk_st14 hb, xk_st15 hb, xk_st16 hb, xk_st17 hb, xk_st18 hb, xk_st2 hb, xk_st3 hb, xk_st4 hb, xk_st5 hb, xk_st6 hb, xk_st7 hb, xk_st8 hb, xk_st9 hb, xm_0_0 hx, xm_0_10 hx, xm_0_11 hx, xm_0_12 hx, xm_0_13 hx, xm_0_14 hx, xm_0_15 hx, xm_0_2 hx, xm_0_9 hx, xm_40_0 hx, xm_40_1 hx, xm_41_0 hx, xm_44_0 hx, xm_44_1 hx, xm_73_4 hx, xm_73_5 hx, xm_73_6 hx, xm_77_1 hx, xm_77_2 hx, xm_77_3 hx, xm_77_4 hx, xm_77_5 hx, xm_77_6 hx, xm_77_7 hx, xm_77_8 hx, xm_77_9 hx, xm_87_2 hx, xm_87_3 hx, xm_87_4 hx, xm_87_5 hx, xm_87_6 hx, xm_87_7 hx, xm_87_8 hx, xm_lw2 hx hb, xm_lw3 hx hb, xm_lw4 hx hb, xm_lw5 hx hb, xm_st1 hx hb, xm_st10 hx hb, xm_st11 hx hb, xm_st13 hx hb, xm_st14 hx hb, xm_st15 hx hb, xm_st16 hx hb, xm_st17 hx hb, xm_st2 hx hb, xm_st4 hx hb, xm_st5 hx hb, xm_st6 hx hb, xm_st7 hx hb, xm_st9 hx hb, ite_self, Bool.false_eq_true, eq_self, isk_t, i20_t, w20_t, l23_t, b21_t, b22_t, w_t, bif_t, bif_f, bif_d, if_pos, if_neg, if_true, if_false, not_true_eq_false, not_false_eq_true, Option.bind_some, Option.toList_some, Option.toList_none, List.cons_append, List.nil_append, Int.toNat_natCast, Int.reduceToNat, up_eq, up_p, up_k, sN,  a1, et, a3, ek, hr, hL, hpl ]
      exact g3
end XSY
