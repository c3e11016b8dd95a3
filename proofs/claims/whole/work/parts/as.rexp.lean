/-! TEXT: the reference's expressions: knots, the words' and signs' tests -/
section REX
variable {ρ : Nat → Nat → Nat} {g : Nat → Nat → Int} {μ : Nat → Nat → Int} {cs : Nat × Nat × Nat} {d n a B op : Nat} {b : Nat → Int} {kn : Int} {o : List (Int × Int)}
def OR2 (g μ : Nat → Nat → Int) (B : Nat) (o : List (Int × Int)) : Prop := (∀ j, j < o.length → μ 117 (64 + (B + j)) = mk1 (o.getD j (0, 0)) ∧ μ 118 (64 + (B + j)) = mk2 (o.getD j (0, 0))) ∧ ∀ k, 64 + (B + o.length) ≤ k → μ 117 k = g 117 k ∧ μ 118 k = g 118 k
theorem or2_fr {g μ μ' : Nat → Nat → Int} {B : Nat} {o : List (Int × Int)} (h : OR2 g μ B o) (h1 : ∀ k, μ' 117 k = μ 117 k) (h2 : ∀ k, μ' 118 k = μ 118 k) : OR2 g μ' B o := ⟨fun j hj => by rw [h1, h2]; exact h.1 j hj, fun k hk => by rw [h1, h2]; exact h.2 k hk⟩
def RE (g μ : Nat → Nat → Int) (B op : Nat) (kn : Int) (o : List (Int × Int)) : Prop := μ 99 32 = (op : Int) ∧ μ 99 33 = kn ∧ μ 101 19 = ((B + o.length : Nat) : Int) ∧ OR2 g μ B o
def FE (B : Nat) (μ μ' : Nat → Nat → Int) : Prop := ∀ q k, ¬ ((q = 99 ∧ ((24 ≤ k ∧ k ≤ 29) ∨ k = 32 ∨ k = 33)) ∨ (q = 101 ∧ k = 19) ∨ (q = 117 ∧ 64 + B ≤ k) ∨ (q = 118 ∧ 64 + B ≤ k)) → μ' q k = μ q k
theorem fe_rf : FE B μ μ := fun _ _ _ => rfl
theorem fe_tr {x y z : Nat → Nat → Int} (h1 : FE B x y) (h2 : FE B y z) : FE B x z := fun q k h => (h2 q k h).trans (h1 q k h)
theorem fe_fw {x y : Nat → Nat → Int} (h : FW x y) : FE B x y := fun q k hq => h q k (by omega)
theorem fe_up {μ μ' : Nat → Nat → Int} {q k : Nat} {v : Int} (h1 : FE B μ μ') (h : (q = 99 ∧ ((24 ≤ k ∧ k ≤ 29) ∨ k = 32 ∨ k = 33)) ∨ (q = 101 ∧ k = 19) ∨ (q = 117 ∧ 64 + B ≤ k) ∨ (q = 118 ∧ 64 + B ≤ k)) : FE B μ (am_up μ' q k v) := fun q' k' h' => by
  rw [am_up_no (fun e => h' (by obtain ⟨rfl, rfl⟩ := e; exact h))]
  exact h1 q' k' h'
theorem re_fw {μ' : Nat → Nat → Int} (h : RE g μ B op kn o) (hf : FW μ μ') : RE g μ' B op kn o := by
  obtain ⟨h1, h2, h3, h4⟩ := h
  refine ⟨by rw [hf _ _ (by omega)]; exact h1, by rw [hf _ _ (by omega)]; exact h2, by rw [hf _ _ (by omega)]; exact h3, or2_fr h4 (fun k => hf _ _ (by omega)) (fun k => hf _ _ (by omega))⟩
/-- a word or a sign at hand -/
theorem R_isW (h : RH μ b n a) {w k : Int} (hw : ∀ x, 0 ≤ x → x ≤ 22 → (rmp x = w ↔ x = k)) (hk : 0 ≤ k ∧ k ≤ 22) : am_E d 150 0 [some (.inr (.inr 99)), some (.inl w)] [] (SH, ρ, μ, cs) = some (some (.inl (if (tok b n a).1 = k then 1 else 0)), (SH, ρ, μ, cs)) := by
  obtain ⟨hT, hK, h0⟩ := h
  have hs := rk_sort hK (tok_nn b n a) (tok_39 b n a)
  have h00 := tok_nn b n a
  by_cases c : μ 99 26 = 0
  · have c2 : (tok b n a).1 ≤ 22 := by omega
    have v := (hK.2.1 c2).2
    have hx := hw (tok b n a).1 h00 c2
    by_cases c3 : (tok b n a).1 = k
    · have v2 := hx.mpr c3
      rw [if_pos c3]
      simp (disch := (first | omega | (simp (disch := omega) only [sr_up, wr_up_o]; omega))) only [e150_0, ks_99, ite_self, Bool.false_eq_true, eq_self, isk_t, i20_t, w20_t, l23_t, b21_t, b22_t, w_t, bif_t, bif_f, bif_d, if_pos, if_neg, if_true, if_false, not_true_eq_false, not_false_eq_true, Option.bind_some, Option.toList_some, Option.toList_none, List.cons_append, List.nil_append, Int.toNat_natCast, Int.reduceToNat, up_eq, up_p, up_k, sN,  h0, c, v, v2 ]
    · have v2 : ¬ rmp (tok b n a).1 = w := fun e => c3 (hx.mp e)
      rw [if_neg c3]
      simp (disch := (first | omega | (simp (disch := omega) only [sr_up, wr_up_o]; omega))) only [e150_0, ks_99, ite_self, Bool.false_eq_true, eq_self, isk_t, i20_t, w20_t, l23_t, b21_t, b22_t, w_t, bif_t, bif_f, bif_d, if_pos, if_neg, if_true, if_false, not_true_eq_false, not_false_eq_true, Option.bind_some, Option.toList_some, Option.toList_none, List.cons_append, List.nil_append, Int.toNat_natCast, Int.reduceToNat, up_eq, up_p, up_k, sN,  h0, c, v, v2 ]
  · rw [if_neg (by omega)]
    simp (disch := (first | omega | (simp (disch := omega) only [sr_up, wr_up_o]; omega))) only [e150_0, ks_99, ite_self, Bool.false_eq_true, eq_self, isk_t, i20_t, w20_t, l23_t, b21_t, b22_t, w_t, bif_t, bif_f, bif_d, if_pos, if_neg, if_true, if_false, not_true_eq_false, not_false_eq_true, Option.bind_some, Option.toList_some, Option.toList_none, List.cons_append, List.nil_append, Int.toNat_natCast, Int.reduceToNat, up_eq, up_p, up_k, sN,  h0, c ]
theorem R_isWF (h : μ 99 28 ≠ 0) {w : Int} : am_E d 150 0 [some (.inr (.inr 99)), some (.inl w)] [] (SH, ρ, μ, cs) = some (some (.inl 0), (SH, ρ, μ, cs)) := by
  simp (disch := (first | omega | (simp (disch := omega) only [sr_up, wr_up_o]; omega))) only [e150_0, ks_99, ite_self, Bool.false_eq_true, eq_self, isk_t, i20_t, w20_t, l23_t, b21_t, b22_t, w_t, bif_t, bif_f, bif_d, if_pos, if_neg, if_true, if_false, not_true_eq_false, not_false_eq_true, Option.bind_some, Option.toList_some, Option.toList_none, List.cons_append, List.nil_append, Int.toNat_natCast, Int.reduceToNat, up_eq, up_p, up_k, sN,  h ]
theorem R_isS (h : RH μ b n a) {w k : Int} (hw : ∀ x, 25 ≤ x → x ≤ 37 → (schr x = w ↔ x = k)) (hk : 25 ≤ k ∧ k ≤ 37) : am_E d 151 0 [some (.inr (.inr 99)), some (.inl w)] [] (SH, ρ, μ, cs) = some (some (.inl (if (tok b n a).1 = k then 1 else 0)), (SH, ρ, μ, cs)) := by
  obtain ⟨hT, hK, h0⟩ := h
  have hs := rk_sort hK (tok_nn b n a) (tok_39 b n a)
  by_cases c : μ 99 26 = 3
  · have c2 : 25 ≤ (tok b n a).1 ∧ (tok b n a).1 ≤ 37 := by omega
    have v := (hK.2.2.2.2.1 c2.1 c2.2).2
    have hx := hw (tok b n a).1 c2.1 c2.2
    by_cases c3 : (tok b n a).1 = k
    · have v2 := hx.mpr c3
      rw [if_pos c3]
      simp (disch := (first | omega | (simp (disch := omega) only [sr_up, wr_up_o]; omega))) only [e151_0, ks_99, ite_self, Bool.false_eq_true, eq_self, isk_t, i20_t, w20_t, l23_t, b21_t, b22_t, w_t, bif_t, bif_f, bif_d, if_pos, if_neg, if_true, if_false, not_true_eq_false, not_false_eq_true, Option.bind_some, Option.toList_some, Option.toList_none, List.cons_append, List.nil_append, Int.toNat_natCast, Int.reduceToNat, up_eq, up_p, up_k, sN,  h0, c, v, v2 ]
    · have v2 : ¬ schr (tok b n a).1 = w := fun e => c3 (hx.mp e)
      rw [if_neg c3]
      simp (disch := (first | omega | (simp (disch := omega) only [sr_up, wr_up_o]; omega))) only [e151_0, ks_99, ite_self, Bool.false_eq_true, eq_self, isk_t, i20_t, w20_t, l23_t, b21_t, b22_t, w_t, bif_t, bif_f, bif_d, if_pos, if_neg, if_true, if_false, not_true_eq_false, not_false_eq_true, Option.bind_some, Option.toList_some, Option.toList_none, List.cons_append, List.nil_append, Int.toNat_natCast, Int.reduceToNat, up_eq, up_p, up_k, sN,  h0, c, v, v2 ]
  · rw [if_neg (by omega)]
    simp (disch := (first | omega | (simp (disch := omega) only [sr_up, wr_up_o]; omega))) only [e151_0, ks_99, ite_self, Bool.false_eq_true, eq_self, isk_t, i20_t, w20_t, l23_t, b21_t, b22_t, w_t, bif_t, bif_f, bif_d, if_pos, if_neg, if_true, if_false, not_true_eq_false, not_false_eq_true, Option.bind_some, Option.toList_some, Option.toList_none, List.cons_append, List.nil_append, Int.toNat_natCast, Int.reduceToNat, up_eq, up_p, up_k, sN,  h0, c ]
theorem R_isSF (h : μ 99 28 ≠ 0) {w : Int} : am_E d 151 0 [some (.inr (.inr 99)), some (.inl w)] [] (SH, ρ, μ, cs) = some (some (.inl 0), (SH, ρ, μ, cs)) := by
  simp (disch := (first | omega | (simp (disch := omega) only [sr_up, wr_up_o]; omega))) only [e151_0, ks_99, ite_self, Bool.false_eq_true, eq_self, isk_t, i20_t, w20_t, l23_t, b21_t, b22_t, w_t, bif_t, bif_f, bif_d, if_pos, if_neg, if_true, if_false, not_true_eq_false, not_false_eq_true, Option.bind_some, Option.toList_some, Option.toList_none, List.cons_append, List.nil_append, Int.toNat_natCast, Int.reduceToNat, up_eq, up_p, up_k, sN,  h ]
theorem R_knot (h : RH μ b n a) (hE : RE g μ B op kn o) (hk0 : 0 ≤ kn) (hk : kn ≤ 64) : ∃ μ', FE B μ μ' ∧ (64 ≤ kn → RF μ' (2, (tok b n a).2.2.1)) ∧ (¬ 64 ≤ kn → RH μ' b n a ∧ RE g μ' B op (kn + 1) o ∧ μ' 99 27 = μ 99 27) ∧ am_E (d + 1) 167 0 [some (.inr (.inr 99))] [] (SH, ρ, μ, cs) = some (none, (SH, ρ, μ', cs)) := by
  obtain ⟨hT, hK, h0⟩ := id h
  obtain ⟨h1, h2, h3, h4⟩ := id hE
  by_cases c : 64 ≤ kn
  · have e : kn = 64 := by omega
    have hw := fun d => R_wr (ρ := ρ) (cs := cs) (d := d) (f := 2) h0
    refine ⟨am_up (am_up μ 99 28 2) 99 29 (μ 99 25), fe_up (fe_up fe_rf (by omega)) (by omega), fun _ => rf_wr hK (by decide), fun z => absurd c z, ?_⟩
    rw [e] at h2
    simp (disch := (first | omega | (simp (disch := omega) only [sr_up, wr_up_o]; omega))) only [e167_0, e167_22, ks_99, ite_self, Bool.false_eq_true, eq_self, isk_t, i20_t, w20_t, l23_t, b21_t, b22_t, w_t, bif_t, bif_f, bif_d, if_pos, if_neg, if_true, if_false, not_true_eq_false, not_false_eq_true, Option.bind_some, Option.toList_some, Option.toList_none, List.cons_append, List.nil_append, Int.toNat_natCast, Int.reduceToNat, up_eq, up_p, up_k, sN,  h0, h2, hw ]
  · refine ⟨am_up μ 99 33 (kn + 1), fe_up fe_rf (by omega), fun z => absurd z c, fun _ => ⟨rh_up h (by omega), ⟨by rw [up_k (by omega)]; exact h1, up_eq, by rw [up_p (by omega)]; exact h3, or2_fr h4 (fun k => up_p (by omega)) (fun k => up_p (by omega))⟩, up_k (by omega)⟩, ?_⟩
    have e : ¬ kn = 64 := by omega
    simp (disch := (first | omega | (simp (disch := omega) only [sr_up, wr_up_o]; omega))) only [e167_0, ks_99, ite_self, Bool.false_eq_true, eq_self, isk_t, i20_t, w20_t, l23_t, b21_t, b22_t, w_t, bif_t, bif_f, bif_d, if_pos, if_neg, if_true, if_false, not_true_eq_false, not_false_eq_true, Option.bind_some, Option.toList_some, Option.toList_none, List.cons_append, List.nil_append, Int.toNat_natCast, Int.reduceToNat, up_eq, up_p, up_k, sN,  h0, h2, e ]
theorem R_knotF (h : μ 99 28 ≠ 0) : am_E (d + 1) 167 0 [some (.inr (.inr 99))] [] (SH, ρ, μ, cs) = some (none, (SH, ρ, μ, cs)) := by
  simp (disch := (first | omega | (simp (disch := omega) only [sr_up, wr_up_o]; omega))) only [e167_0, ks_99, ite_self, Bool.false_eq_true, eq_self, isk_t, i20_t, w20_t, l23_t, b21_t, b22_t, w_t, bif_t, bif_f, bif_d, if_pos, if_neg, if_true, if_false, not_true_eq_false, not_false_eq_true, Option.bind_some, Option.toList_some, Option.toList_none, List.cons_append, List.nil_append, Int.toNat_natCast, Int.reduceToNat, up_eq, up_p, up_k, sN,  h ]
theorem R_putsF (hρ : RM ρ) (h : μ 99 28 ≠ 0) {x y : Int} : am_E (d + 1) 166 0 [some (.inr (.inr 99)), some (.inl x), some (.inl y)] [] (SH, ρ, μ, cs) = some (none, (SH, ρ, μ, cs)) := by
  simp (disch := (first | omega | (simp (disch := omega) only [sr_up, wr_up_o]; omega))) only [e166_0, ks_117, ks_99, rm_knotSort hρ, ite_self, Bool.false_eq_true, eq_self, isk_t, i20_t, w20_t, l23_t, b21_t, b22_t, w_t, bif_t, bif_f, bif_d, if_pos, if_neg, if_true, if_false, not_true_eq_false, not_false_eq_true, Option.bind_some, Option.toList_some, Option.toList_none, List.cons_append, List.nil_append, Int.toNat_natCast, Int.reduceToNat, up_eq, up_p, up_k, sN,  h ]
theorem R_puts (hρ : RM ρ) (h : RH μ b n a) (hE : RE g μ B op kn o) (hP : B + o.length < 64) {k v x y : Int} (hx : x = mk1 (k, v)) (hy : y = mk2 (k, v)) : ∃ μ', FE B μ μ' ∧ RH μ' b n a ∧ RE g μ' B op kn (o ++ [(k, v)]) ∧ am_E (d + 1) 166 0 [some (.inr (.inr 99)), some (.inl x), some (.inl y)] [] (SH, ρ, μ, cs) = some (none, (SH, ρ, μ', cs)) := by
  obtain ⟨h1, h2, h3, h4⟩ := id hE
  have h0 := h.2.2
  generalize hPe : B + o.length = P at *
  have e1 : ((64 : Int) + (P : Int)).toNat = 64 + P := by omega
  refine ⟨am_up (am_up (am_up μ 117 (64 + P) x) 118 (64 + P) y) 101 19 ((P : Int) + 1), fe_up (fe_up (fe_up fe_rf (by omega)) (by omega)) (by omega), rh_up (rh_up (rh_up h (by omega)) (by omega)) (by omega), ⟨?_, ?_, ?_, fun j hj => ?_, fun k hk => ?_⟩, ?_⟩
  · simp (disch := omega) only [up_p]; exact h1
  · simp (disch := omega) only [up_p]; exact h2
  · rw [up_eq, List.length_append]
    show (P : Int) + 1 = ((B + (o.length + 1) : Nat) : Int)
    omega
  · rw [List.length_append] at hj
    have hj : j < o.length + 1 := hj
    by_cases e : j = o.length
    · subst e
      have e2 : (o ++ [(k, v)]).getD o.length (0, 0) = (k, v) := by simp [List.getD]
      rw [e2, hPe]
      constructor
      · rw [up_p (by omega), up_p (by omega), up_eq]; exact hx
      · rw [up_p (by omega), up_eq]; exact hy
    · have e2 : (o ++ [(k, v)]).getD j (0, 0) = o.getD j (0, 0) := by
        simp only [List.getD]
        rw [List.getElem?_append_left (by omega)]
      rw [e2]
      have gg := h4.1 j (by omega)
      constructor
      · rw [up_p (by omega), up_p (by omega), up_k (by omega)]; exact gg.1
      · rw [up_p (by omega), up_k (by omega)]
        simp (disch := omega) only [up_p]
        exact gg.2
  · rw [List.length_append] at hk
    have hk : 64 + (B + (o.length + 1)) ≤ k := hk
    have gg := h4.2 k (by omega)
    constructor
    · rw [up_p (by omega), up_p (by omega), up_k (by omega)]; exact gg.1
    · rw [up_p (by omega), up_k (by omega), up_p (by omega)]; exact gg.2
  · simp (disch := (first | omega | (simp (disch := omega) only [sr_up, wr_up_o]; omega))) only [e166_0, e166_20, e166_35, e166_47, e166_52, e156_0, e157_0, ks_101, ks_117, ks_118, ks_99, rm_knotSort hρ, rm_knotValue hρ, rm_number hρ, ite_self, Bool.false_eq_true, eq_self, isk_t, i20_t, w20_t, l23_t, b21_t, b22_t, w_t, bif_t, bif_f, bif_d, if_pos, if_neg, if_true, if_false, not_true_eq_false, not_false_eq_true, Option.bind_some, Option.toList_some, Option.toList_none, List.cons_append, List.nil_append, Int.toNat_natCast, Int.reduceToNat, up_eq, up_p, up_k, sN,  Int.reduceAdd, h0, h3, e1, ks_117, ks_118 ]
end REX
