/-! ASK: the reference -/
def wcnt (B : Nat) (A : Nat → Int) (v : Nat) : Nat → Int
  | 0 => 0
  | k + 1 => if B.testBit k = true ∧ A k = A v then wcnt B A v k + 1 else wcnt B A v k
def wst (B : Nat) (A : Nat → Int) : Nat → Int
  | 0 => 0
  | v + 1 => if B.testBit v = true then am_imax (wst B A v) (wcnt B A v 10) else wst B A v
def bst (w : Nat → Int) : Nat → Nat
  | 0 => 0
  | m + 1 => if w (m + 1) < w (bst w m) then m + 1 else bst w m
theorem wcnt_b {B : Nat} {A : Nat → Int} {v : Nat} : ∀ n : Nat, 0 ≤ wcnt B A v n ∧ wcnt B A v n ≤ n
  | 0 => by show (0 : Int) ≤ 0 ∧ (0 : Int) ≤ 0; omega
  | n + 1 => by
    have i := wcnt_b (B := B) (A := A) (v := v) n
    show 0 ≤ (if B.testBit n = true ∧ A n = A v then wcnt B A v n + 1 else wcnt B A v n) ∧ (if B.testBit n = true ∧ A n = A v then wcnt B A v n + 1 else wcnt B A v n) ≤ ((n + 1 : Nat) : Int)
    split <;> omega
theorem wst_b {B : Nat} {A : Nat → Int} : ∀ n : Nat, 0 ≤ wst B A n ∧ wst B A n ≤ 10
  | 0 => by show (0 : Int) ≤ 0 ∧ (0 : Int) ≤ 10; omega
  | n + 1 => by
    have i := wst_b (B := B) (A := A) n
    have j := wcnt_b (B := B) (A := A) (v := n) 10
    show 0 ≤ (if B.testBit n = true then am_imax (wst B A n) (wcnt B A n 10) else wst B A n) ∧ (if B.testBit n = true then am_imax (wst B A n) (wcnt B A n 10) else wst B A n) ≤ 10
    unfold am_imax
    split
    · split <;> omega
    · omega
theorem bst_b {w : Nat → Int} : ∀ m, bst w m ≤ m
  | 0 => Nat.le_refl 0
  | m + 1 => by
    have i := bst_b (w := w) m
    show (if w (m + 1) < w (bst w m) then m + 1 else bst w m) ≤ m + 1
    split <;> omega
theorem b_bit {B k : Nat} (hB : B < 1024) (hk : k < 10) : am_and (am_shr (B : Int) (k : Int)) 1 = if B.testBit k = true then 1 else 0 := nb_bit (by omega) (by omega)
/-- the hats after twenty days -/
def ansF (S : MS) (p t : Int) (v m : Nat) : Int := daysW S (cB S p v) 20 (startW S) 5 (m : Int) t
def askW (S : MS) (p t : Int) (B m : Nat) : Int := wst B (fun v => ansF S p t v m) 10
def askV (S : MS) (p t q : Int) (B : Nat) : Int := if q = 0 then ((bst (askW S p t B) (men S - 1) : Nat) : Int) else askW S p t B (bst (askW S p t B) (men S - 1))
section AK
variable {ρ : Nat → Nat → Nat} {μ : Nat → Nat → Int} {cs : Nat × Nat × Nat} {d b w u : Nat} {S : MS} {W V : MW} {C : MC} {B m : Nat} {A : Nat → Int}
theorem R_worst1 (hρ : RM ρ) (hB : B < 1024) (hm : m < 7) (hA : ∀ v : Nat, v < 10 → μ 140 (7 * v + m) = A v) {x3 : Int} {v : Nat} (hv : v < 10) : ∀ n k : Nat, k + n = 10 → am_E (d + 1) 249 18 [some (.inr (.inr 99)), some (.inl (B : Int)), some (.inl (m : Int)), some (.inl x3), some (.inl (v : Int)), some (.inl (wcnt B A v k)), some (.inl (k : Int))] [] (SH, ρ, μ, cs) = am_E (d + 1) 249 18 [some (.inr (.inr 99)), some (.inl (B : Int)), some (.inl (m : Int)), some (.inl x3), some (.inl (v : Int)), some (.inl (wcnt B A v 10)), some (.inl 10)] [] (SH, ρ, μ, cs) := by
  intro n
  induction n with
  | zero => intro k hk; have hk' : k = 10 := by omega
            subst hk'; rfl
  | succ n ih =>
    intro k hk
    rw [← ih (k + 1) (by omega)]
    have e1 : ((k + 1 : Nat) : Int) = (k : Int) + 1 := by omega
    have e2 : wcnt B A v (k + 1) = if B.testBit k = true ∧ A k = A v then wcnt B A v k + 1 else wcnt B A v k := rfl
    have e3 := wcnt_b (B := B) (A := A) (v := v) k
    have e4 := b_bit (k := k) hB (by omega)
    have e5 : (7 * (k : Int) + (m : Int)).toNat = 7 * k + m := by omega
    have e6 : (7 * (v : Int) + (m : Int)).toNat = 7 * v + m := by omega
    have a1 := hA k (by omega)
    have a2 := hA v hv
    rw [e1, e2]
    generalize wcnt B A v k = z at e3 ⊢
    by_cases c : B.testBit k = true
    · rw [if_pos c] at e4
      by_cases c2 : A k = A v
      · rw [if_pos ⟨c, c2⟩]
        rw [e249_18]; simp (disch := (first | omega | (simp (disch := omega) only [sr_up, wr_up_o]; omega))) only [ks_140, ks_99, rm_wouldHave hρ, ite_self, Bool.false_eq_true, eq_self, isk_t, i20_t, w20_t, l23_t, b21_t, b22_t, w_t, bif_t, bif_f, bif_d, if_pos, if_neg, if_true, if_false, not_true_eq_false, not_false_eq_true, Option.bind_some, Option.toList_some, Option.toList_none, List.cons_append, List.nil_append, Int.toNat_natCast, Int.reduceToNat, up_eq, up_p, up_k, sN,  e4, e5, e6, a1, a2, c2 ]
      · rw [if_neg (fun g => c2 g.2)]
        rw [e249_18]; simp (disch := (first | omega | (simp (disch := omega) only [sr_up, wr_up_o]; omega))) only [ks_140, ks_99, rm_wouldHave hρ, ite_self, Bool.false_eq_true, eq_self, isk_t, i20_t, w20_t, l23_t, b21_t, b22_t, w_t, bif_t, bif_f, bif_d, if_pos, if_neg, if_true, if_false, not_true_eq_false, not_false_eq_true, Option.bind_some, Option.toList_some, Option.toList_none, List.cons_append, List.nil_append, Int.toNat_natCast, Int.reduceToNat, up_eq, up_p, up_k, sN,  e4, e5, e6, a1, a2, c2, Int.add_zero ]
    · rw [if_neg c] at e4
      rw [if_neg (fun g => c g.1)]
      rw [e249_18]; simp (disch := (first | omega | (simp (disch := omega) only [sr_up, wr_up_o]; omega))) only [ks_140, ks_99, rm_wouldHave hρ, ite_self, Bool.false_eq_true, eq_self, isk_t, i20_t, w20_t, l23_t, b21_t, b22_t, w_t, bif_t, bif_f, bif_d, if_pos, if_neg, if_true, if_false, not_true_eq_false, not_false_eq_true, Option.bind_some, Option.toList_some, Option.toList_none, List.cons_append, List.nil_append, Int.toNat_natCast, Int.reduceToNat, up_eq, up_p, up_k, sN,  e4, Int.add_zero ]
theorem R_worst2 (hρ : RM ρ) (hB : B < 1024) (hm : m < 7) (hA : ∀ v : Nat, v < 10 → μ 140 (7 * v + m) = A v) : ∀ n v : Nat, v + n = 10 → am_E (d + 1) 249 5 [some (.inr (.inr 99)), some (.inl (B : Int)), some (.inl (m : Int)), some (.inl (wst B A v)), some (.inl (v : Int)), none, none] [] (SH, ρ, μ, cs) = some (some (.inl (wst B A 10)), (SH, ρ, μ, cs)) := by
  intro n
  induction n with
  | zero =>
    intro v hv
    have hv' : v = 10 := by omega
    subst hv'
    rw [e249_5]; simp (disch := (first | omega | (simp (disch := omega) only [sr_up, wr_up_o]; omega))) only [ks_99, ite_self, Bool.false_eq_true, eq_self, isk_t, i20_t, w20_t, l23_t, b21_t, b22_t, w_t, bif_t, bif_f, bif_d, if_pos, if_neg, if_true, if_false, not_true_eq_false, not_false_eq_true, Option.bind_some, Option.toList_some, Option.toList_none, List.cons_append, List.nil_append, Int.toNat_natCast, Int.reduceToNat, up_eq, up_p, up_k, sN]
  | succ n ih =>
    intro v hv
    have j := ih (v + 1) (by omega)
    have e1 : ((v + 1 : Nat) : Int) = (v : Int) + 1 := by omega
    have e2 : wst B A (v + 1) = if B.testBit v = true then am_imax (wst B A v) (wcnt B A v 10) else wst B A v := rfl
    have e4 := b_bit (k := v) hB (by omega)
    have e7 := R_worst1 (ρ := ρ) (cs := cs) (d := d) (x3 := wst B A v) hρ hB hm hA (v := v) (by omega) 10 0 (by omega)
    have e8 : am_E (d + 1) 249 5 [some (.inr (.inr 99)), some (.inl (B : Int)), some (.inl (m : Int)), some (.inl (wst B A v)), some (.inl (v : Int)), none, none] [] (SH, ρ, μ, cs) = am_E (d + 1) 249 18 [some (.inr (.inr 99)), some (.inl (B : Int)), some (.inl (m : Int)), some (.inl (wst B A v)), some (.inl (v : Int)), some (.inl 0), some (.inl 0)] [] (SH, ρ, μ, cs) := by
      rw [e249_5]; simp (disch := (first | omega | (simp (disch := omega) only [sr_up, wr_up_o]; omega))) only [ks_99, ite_self, Bool.false_eq_true, eq_self, isk_t, i20_t, w20_t, l23_t, b21_t, b22_t, w_t, bif_t, bif_f, bif_d, if_pos, if_neg, if_true, if_false, not_true_eq_false, not_false_eq_true, Option.bind_some, Option.toList_some, Option.toList_none, List.cons_append, List.nil_append, Int.toNat_natCast, Int.reduceToNat, up_eq, up_p, up_k, sN]
    rw [e8]
    refine Eq.trans e7 ?_
    rw [e1, e2] at j
    clear e7 e8
    by_cases c : B.testBit v = true
    · rw [if_pos c] at e4 j
      rw [e249_18]; simp (disch := (first | omega | (simp (disch := omega) only [sr_up, wr_up_o]; omega))) only [ks_140, ks_99, rm_wouldHave hρ, ite_self, Bool.false_eq_true, eq_self, isk_t, i20_t, w20_t, l23_t, b21_t, b22_t, w_t, bif_t, bif_f, bif_d, if_pos, if_neg, if_true, if_false, not_true_eq_false, not_false_eq_true, Option.bind_some, Option.toList_some, Option.toList_none, List.cons_append, List.nil_append, Int.toNat_natCast, Int.reduceToNat, up_eq, up_p, up_k, sN,  e4 ]
      exact am_E_le (am_lq_of _ _ (by simp [am_leb])) j
    · rw [if_neg c] at e4 j
      rw [e249_18]; simp (disch := (first | omega | (simp (disch := omega) only [sr_up, wr_up_o]; omega))) only [ks_140, ks_99, rm_wouldHave hρ, ite_self, Bool.false_eq_true, eq_self, isk_t, i20_t, w20_t, l23_t, b21_t, b22_t, w_t, bif_t, bif_f, bif_d, if_pos, if_neg, if_true, if_false, not_true_eq_false, not_false_eq_true, Option.bind_some, Option.toList_some, Option.toList_none, List.cons_append, List.nil_append, Int.toNat_natCast, Int.reduceToNat, up_eq, up_p, up_k, sN,  e4 ]
      exact am_E_le (am_lq_of _ _ (by simp [am_leb])) j
theorem R_worst (hρ : RM ρ) (hB : B < 1024) (hm : m < 7) (hA : ∀ v : Nat, v < 10 → μ 140 (7 * v + m) = A v) : am_E (d + 1) 249 0 [some (.inr (.inr 99)), some (.inl (B : Int)), some (.inl (m : Int)), none, none, none, none] [] (SH, ρ, μ, cs) = some (some (.inl (wst B A 10)), (SH, ρ, μ, cs)) := by
  rw [e249_0]
  exact R_worst2 hρ hB hm hA 10 0 (by omega)
theorem R_row (hρ : RM ρ) (hS : SI S) {p t x3 x4 : Int} {v : Nat} (hv : v < 10) (t0 : 0 ≤ t) (t1 : t < 6) : ∀ (n m : Nat) (μ : Nat → Nat → Int), m + n = men S → SR μ = S → WR μ 1 = V → ∃ μ1, (∀ q k, ¬ (q = 140 ∧ 7 * v + m ≤ k ∧ k < 7 * v + men S) → μ1 q k = μ q k) ∧ (∀ i, m ≤ i → i < men S → μ1 140 (7 * v + i) = V 5 (i : Int) t) ∧ ∀ res, am_E (d + 10) 250 47 [some (.inr (.inr 99)), some (.inl p), some (.inl t), some (.inl x3), some (.inl x4), some (.inl ((v : Int) + 1)), none] [] (SH, ρ, μ1, cs) = some res → am_E (d + 10) 250 74 [some (.inr (.inr 99)), some (.inl p), some (.inl t), some (.inl x3), some (.inl x4), some (.inl (v : Int)), some (.inl (m : Int))] [] (SH, ρ, μ, cs) = some res := by
  have s0 := hS.1
  have hm0 : ((men S : Nat) : Int) = S 0 0 := by unfold men; omega
  intro n
  induction n with
  | zero =>
    intro m μ hm h1 hV
    have hn : μ 101 0 = (m : Int) := by rw [show μ 101 0 = SR μ 0 0 from rfl, h1]; omega
    refine ⟨μ, fun _ _ _ => rfl, fun i h0 h1 => by omega, fun res hr => ?_⟩
    rw [e250_74]; simp (disch := (first | omega | (simp (disch := omega) only [sr_up, wr_up_o]; omega))) only [ks_101, ks_125, ks_140, ks_99, rm_hatsOf hρ, rm_number hρ, rm_wouldHave hρ, ite_self, Bool.false_eq_true, eq_self, isk_t, i20_t, w20_t, l23_t, b21_t, b22_t, w_t, bif_t, bif_f, bif_d, if_pos, if_neg, if_true, if_false, not_true_eq_false, not_false_eq_true, Option.bind_some, Option.toList_some, Option.toList_none, List.cons_append, List.nil_append, Int.toNat_natCast, Int.reduceToNat, up_eq, up_p, up_k, sN,  hn ]
    exact am_E_le (am_lq_of _ _ (by simp [am_leb])) hr
  | succ n ih =>
    intro m μ hm h1 hV
    have hn : μ 101 0 = S 0 0 := by rw [show μ 101 0 = SR μ 0 0 from rfl, h1]
    obtain ⟨μ1, f1, f2, f3⟩ := ih (m + 1) (am_up μ 140 (7 * v + m) (V 5 (m : Int) t)) (by omega) (by rw [sr_up (by omega)]; exact h1) (by rw [wr_up_o (by omega)]; exact hV)
    refine ⟨μ1, fun q k h => by rw [f1 q k (by omega), am_up_no (by omega)], fun i h0 h1 => ?_, fun res hr => ?_⟩
    · by_cases e : i = m
      · subst e; rw [f1 _ _ (by omega), up_eq]
      · exact f2 i (by omega) h1
    · rw [← f3 res hr]
      have e1 : ((m + 1 : Nat) : Int) = (m : Int) + 1 := by omega
      have e5 : (7 * (v : Int) + (m : Int)).toNat = 7 * v + m := by omega
      have e6 : μ 125 (42 * 1 + 6 * (m : Int) + t).toNat = V 5 (m : Int) t := by
        rw [← hV, ← wr_hats μ 1 t0 t1 (by omega) (by omega)]
        all_goals rfl
      rw [e1]
      rw [e250_74]; simp (disch := (first | omega | (simp (disch := omega) only [sr_up, wr_up_o]; omega))) only [e250_108, ks_101, ks_125, ks_140, ks_99, rm_hatsOf hρ, rm_number hρ, rm_wouldHave hρ, ite_self, Bool.false_eq_true, eq_self, isk_t, i20_t, w20_t, l23_t, b21_t, b22_t, w_t, bif_t, bif_f, bif_d, if_pos, if_neg, if_true, if_false, not_true_eq_false, not_false_eq_true, Option.bind_some, Option.toList_some, Option.toList_none, List.cons_append, List.nil_append, Int.toNat_natCast, Int.reduceToNat, up_eq, up_p, up_k, sN,  hn, e187_0, e5, e6 ]
      all_goals rfl
theorem R_ask_loop (hρ : RM ρ) (hS : SI S) {p t x3 x4 : Int} (t0 : 0 ≤ t) (t1 : t < 6) : ∀ (n v : Nat) (μ : Nat → Nat → Int), v + n = 10 → SR μ = S → μ 99 49 = 0 → μ 99 53 = 0 → μ 99 51 = p → ∃ μ1, (∀ q k, ¬ FrT 1 q k → ¬ FrS q k → ¬ (q = 99 ∧ (k = 51 ∨ k = 52)) → ¬ (q = 140 ∧ 7 * v ≤ k) → μ1 q k = μ q k) ∧ μ1 99 51 = -1 ∧ (∀ v' i : Nat, v ≤ v' → v' < 10 → i < men S → μ1 140 (7 * v' + i) = ansF S p t v' i) ∧ ∀ res, am_E (d + 10) 250 127 [some (.inr (.inr 99)), some (.inl p), some (.inl t), some (.inl x3), some (.inl x4), some (.inl 10), none] [] (SH, ρ, μ1, cs) = some res → am_E (d + 10) 250 47 [some (.inr (.inr 99)), some (.inl p), some (.inl t), some (.inl x3), some (.inl x4), some (.inl (v : Int)), none] [] (SH, ρ, μ, cs) = some res := by
  have s0 := hS.1
  have hm7 : men S ≤ 7 := by unfold men; omega
  intro n
  induction n with
  | zero =>
    intro v μ hv h1 h49 h53 h51
    have hv' : v = 10 := by omega
    subst hv'
    refine ⟨am_up μ 99 51 (-1), fun q k _ _ h _ => am_up_no (by omega), up_eq .., fun v' i g0 g1 => by omega, fun res hr => ?_⟩
    rw [← hr]
    rw [e250_47]; simp (disch := (first | omega | (simp (disch := omega) only [sr_up, wr_up_o]; omega))) only [ks_99, ite_self, Bool.false_eq_true, eq_self, isk_t, i20_t, w20_t, l23_t, b21_t, b22_t, w_t, bif_t, bif_f, bif_d, if_pos, if_neg, if_true, if_false, not_true_eq_false, not_false_eq_true, Option.bind_some, Option.toList_some, Option.toList_none, List.cons_append, List.nil_append, Int.toNat_natCast, Int.reduceToNat, up_eq, up_p, up_k, sN]
    all_goals rfl
  | succ n ih =>
    intro v μ hv h1 h49 h53 h51
    have hfr : ∀ q k, ¬ (q = 99 ∧ k = 52) → am_up μ 99 52 (v : Int) q k = μ q k := fun q k h => am_up_no h
    have h1' : SR (am_up μ 99 52 (v : Int)) = S := by rw [sr_up (by omega)]; exact h1
    obtain ⟨μ2, g1, g2, g3⟩ := R_starts (ρ := ρ) (cs := cs) (d := d + 9) (s := 1) hρ (by omega) (by omega) h1'
    have hci : CI S (cB S p (v : Int)) := cB_ci hS (fun p p0 p1 => gc_ci hS (cG_gc S) p p0 p1) (by omega) (by omega)
    obtain ⟨μ3, k1, k2, k3⟩ := R_goesOn (ρ := ρ) (cs := cs) (d := d + 1) (n := 20) (D := 0) hρ hS hci (fun _ => rfl) (by omega) (wi_start hS) (by omega) ((frw_SR g1).trans h1') ((frw_CR g1 0).trans (CR_cB h1' (by rw [hfr _ _ (by omega)]; exact h49) (by rw [hfr _ _ (by omega)]; exact h53) (by rw [hfr _ _ (by omega)]; exact h51) (up_eq ..))) g2 (by rw [g1 99 53 (by omega) (by omega), hfr _ _ (by omega), h53]; omega) (by rw [g1 99 53 (by omega) (by omega), hfr _ _ (by omega), h53]; omega)
    have hfr3 : ∀ q k, ¬ FrT 1 q k → ¬ FrS q k → ¬ (q = 99 ∧ k = 52) → μ3 q k = μ q k := fun q k a1 a2 a3 => by rw [k1 q k a1 a2, g1 q k a1 a2, hfr q k a3]
    have hS3 : SR μ3 = S := (frw_SR k1).trans ((frw_SR g1).trans h1')
    obtain ⟨μ4, f1, f2, f3⟩ := R_row (ρ := ρ) (cs := cs) (d := d) (p := p) (x3 := x3) (x4 := x4) (v := v) hρ hS (by omega) t0 t1 (men S) 0 μ3 (by omega) hS3 k2
    have hfr4 : ∀ q k, ¬ FrT 1 q k → ¬ FrS q k → ¬ (q = 99 ∧ k = 52) → ¬ (q = 140 ∧ 7 * v ≤ k ∧ k < 7 * v + men S) → μ4 q k = μ q k := fun q k a1 a2 a3 a4 => by rw [f1 q k (by omega), hfr3 q k a1 a2 a3]
    have hS4 : SR μ4 = S := by rw [← hS3]; exact sr_ext (fun q k g0 g1 => f1 q k (by omega))
    obtain ⟨μ5, j1, j2, j3, j4⟩ := ih (v + 1) μ4 (by omega) hS4 (by rw [hfr4 _ _ (by omega) (by omega) (by omega) (by omega)]; exact h49) (by rw [hfr4 _ _ (by omega) (by omega) (by omega) (by omega)]; exact h53) (by rw [hfr4 _ _ (by omega) (by omega) (by omega) (by omega)]; exact h51)
    refine ⟨μ5, fun q k a1 a2 a3 a4 => by rw [j1 q k a1 a2 a3 (by omega), hfr4 q k a1 a2 (by omega) (by omega)], j2, fun v' i b0 b1 b2 => ?_, fun res hr => ?_⟩
    · by_cases e : v' = v
      · subst e
        rw [j1 _ _ (by omega) (by omega) (by omega) (by omega), f2 i (by omega) b2]
        all_goals rfl
      · exact j3 v' i (by omega) b1 b2
    · have e1 : ((v + 1 : Nat) : Int) = (v : Int) + 1 := by omega
      have q1 := j4 res hr
      rw [e1] at q1
      have q2 := f3 res q1
      have e20 : ((20 : Nat) : Int) = 20 := rfl
      rw [e20] at k3
      have e0 : ((0 : Nat) : Int) = 0 := rfl
      rw [e0] at q2
      rw [← q2]
      clear q1 q2 f3 j4 ih hr
      rw [e250_47]; simp (disch := (first | omega | (simp (disch := omega) only [sr_up, wr_up_o]; omega))) only [e250_65, e250_71, ks_99, ite_self, Bool.false_eq_true, eq_self, isk_t, i20_t, w20_t, l23_t, b21_t, b22_t, w_t, bif_t, bif_f, bif_d, if_pos, if_neg, if_true, if_false, not_true_eq_false, not_false_eq_true, Option.bind_some, Option.toList_some, Option.toList_none, List.cons_append, List.nil_append, Int.toNat_natCast, Int.reduceToNat, up_eq, up_p, up_k, sN,  g3, k3 ]
theorem R_best (hρ : RM ρ) (hS : SI S) (hB : B < 1024) {p t x3 : Int} (h1 : SR μ = S) (hA : ∀ v i : Nat, v < 10 → i < men S → μ 140 (7 * v + i) = ansF S p t v i) (hm1 : 1 ≤ men S) : ∀ (n m : Nat), m + n = men S → 1 ≤ m → am_E (d + 10) 250 133 [some (.inr (.inr 99)), some (.inl p), some (.inl t), some (.inl x3), some (.inl (B : Int)), some (.inl ((bst (askW S p t B) (m - 1) : Nat) : Int)), some (.inl (m : Int))] [] (SH, ρ, μ, cs) = some (some (.inl (askV S p t x3 B)), (SH, ρ, μ, cs)) := by
  have s0 := hS.1
  have hm0 : ((men S : Nat) : Int) = S 0 0 := by unfold men; omega
  have hm7 : men S ≤ 7 := by unfold men; omega
  have hn : μ 101 0 = ((men S : Nat) : Int) := by rw [show μ 101 0 = SR μ 0 0 from rfl, h1]; omega
  have hW : ∀ i : Nat, i < men S → am_E (d + 9) 249 0 [some (.inr (.inr 99)), some (.inl (B : Int)), some (.inl (i : Int)), none, none, none, none] [] (SH, ρ, μ, cs) = some (some (.inl (askW S p t B i)), (SH, ρ, μ, cs)) := fun i hi => R_worst (d := d + 8) hρ hB (by omega) (fun v hv => hA v i hv hi)
  intro n
  induction n with
  | zero =>
    intro m hm m1
    have hm' : m = men S := by omega
    subst hm'
    unfold askV
    have hb := bst_b (w := askW S p t B) (men S - 1)
    have e := hW (bst (askW S p t B) (men S - 1)) (by omega)
    generalize bst (askW S p t B) (men S - 1) = z at e ⊢
    by_cases c : x3 = 0
    · rw [if_pos c]
      rw [e250_133]; simp (disch := (first | omega | (simp (disch := omega) only [sr_up, wr_up_o]; omega))) only [e250_190, ks_101, ks_99, rm_number hρ, ite_self, Bool.false_eq_true, eq_self, isk_t, i20_t, w20_t, l23_t, b21_t, b22_t, w_t, bif_t, bif_f, bif_d, if_pos, if_neg, if_true, if_false, not_true_eq_false, not_false_eq_true, Option.bind_some, Option.toList_some, Option.toList_none, List.cons_append, List.nil_append, Int.toNat_natCast, Int.reduceToNat, up_eq, up_p, up_k, sN,  hn, c ]
    · rw [if_neg c]
      rw [e250_133]; simp (disch := (first | omega | (simp (disch := omega) only [sr_up, wr_up_o]; omega))) only [e250_190, ks_101, ks_99, rm_number hρ, ite_self, Bool.false_eq_true, eq_self, isk_t, i20_t, w20_t, l23_t, b21_t, b22_t, w_t, bif_t, bif_f, bif_d, if_pos, if_neg, if_true, if_false, not_true_eq_false, not_false_eq_true, Option.bind_some, Option.toList_some, Option.toList_none, List.cons_append, List.nil_append, Int.toNat_natCast, Int.reduceToNat, up_eq, up_p, up_k, sN,  hn, c, e ]
  | succ n ih =>
    intro m hm m1
    rw [← ih (m + 1) (by omega) (by omega)]
    obtain ⟨k, rfl⟩ : ∃ k, m = k + 1 := ⟨m - 1, by omega⟩
    have hb := bst_b (w := askW S p t B) k
    have e := hW (bst (askW S p t B) k) (by omega)
    have e' := hW (k + 1) (by omega)
    have e1 : ((k + 1 + 1 : Nat) : Int) = ((k + 1 : Nat) : Int) + 1 := by omega
    have e2 : bst (askW S p t B) (k + 1) = if askW S p t B (k + 1) < askW S p t B (bst (askW S p t B) k) then k + 1 else bst (askW S p t B) k := rfl
    rw [show k + 1 + 1 - 1 = k + 1 by omega, show k + 1 - 1 = k by omega, e1, e2]
    clear e2 ih
    generalize bst (askW S p t B) k = z at e ⊢
    generalize askW S p t B (k + 1) = y1 at e' ⊢
    generalize askW S p t B z = y0 at e ⊢
    have hk8 : k + 1 < men S := by omega
    generalize k + 1 = m at e' hk8 ⊢
    by_cases c : y1 < y0
    · rw [if_pos c]
      rw [e250_133]; simp (disch := (first | omega | (simp (disch := omega) only [sr_up, wr_up_o]; omega))) only [e250_152, e250_160, ks_101, ks_99, rm_number hρ, ite_self, Bool.false_eq_true, eq_self, isk_t, i20_t, w20_t, l23_t, b21_t, b22_t, w_t, bif_t, bif_f, bif_d, if_pos, if_neg, if_true, if_false, not_true_eq_false, not_false_eq_true, Option.bind_some, Option.toList_some, Option.toList_none, List.cons_append, List.nil_append, Int.toNat_natCast, Int.reduceToNat, up_eq, up_p, up_k, sN,  hn, e, e' ]
    · rw [if_neg c]
      rw [e250_133]; simp (disch := (first | omega | (simp (disch := omega) only [sr_up, wr_up_o]; omega))) only [e250_152, e250_160, ks_101, ks_99, rm_number hρ, ite_self, Bool.false_eq_true, eq_self, isk_t, i20_t, w20_t, l23_t, b21_t, b22_t, w_t, bif_t, bif_f, bif_d, if_pos, if_neg, if_true, if_false, not_true_eq_false, not_false_eq_true, Option.bind_some, Option.toList_some, Option.toList_none, List.cons_append, List.nil_append, Int.toNat_natCast, Int.reduceToNat, up_eq, up_p, up_k, sN,  hn, e, e' ]
end AK
