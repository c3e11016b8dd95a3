/-! THE REFERENCE: a law worked out -/
def FrK (μ μ' : Nat → Nat → Int) : Prop := ∀ q k, q ≠ 120 → ¬ (q = 99 ∧ k = 36) → μ' q k = μ q k
theorem frk_rf (μ : Nat → Nat → Int) : FrK μ μ := fun _ _ _ _ => rfl
theorem frk_tr {a b c : Nat → Nat → Int} (h1 : FrK a b) (h2 : FrK b c) : FrK a c := fun q k h h' => (h2 q k h h').trans (h1 q k h h')
theorem frk_up {μ μ' : Nat → Nat → Int} {q k : Nat} {v : Int} (h1 : FrK μ μ') (h : q = 120 ∨ (q = 99 ∧ k = 36)) : FrK μ (am_up μ' q k v) := fun q' k' ha hb => by
  rw [am_up_no (fun e => by
    rw [e.1] at ha
    rw [e.1, e.2] at hb
    exact h.elim ha hb)]
  exact h1 q' k' ha hb
theorem frk_n {μ μ' : Nat → Nat → Int} (h : FrK μ μ') : FrN μ μ' := fun q k hh => h q k (by omega) (by omega)
theorem frk_SR {μ μ' : Nat → Nat → Int} (h : FrK μ μ') : SR μ' = SR μ := frn_SR (frk_n h)
theorem stk_c {μ μ' : Nat → Nat → Int} : ∀ {n : Nat}, (∀ i, i < n → μ' 120 i = μ 120 i) → stk μ' n = stk μ n
  | 0, _ => rfl
  | n + 1, h => by
    show μ' 120 n :: stk μ' n = μ 120 n :: stk μ n
    rw [h n (by omega), stk_c (fun i hi => h i (by omega))]
theorem opK_N {y : Int} {r : List Int} : opK 260 (y :: r) = some ((if y = 0 then 1 else 0) :: r) := rfl
theorem opK_2 {s x y : Int} {r : List Int} (h : s ≠ 260) : opK s (y :: x :: r) = (opB (op2 s x y)).map (fun v => v :: r) := by
  show (if s = 260 then some ((if y = 0 then 1 else 0) :: x :: r) else (opB (op2 s x y)).map (fun v => v :: r)) = _
  rw [if_neg h]
section REF
variable {ρ : Nat → Nat → Nat} {cs : Nat × Nat × Nat} {d : Nat} {sh : List (Nat × Nat)}
theorem j_none {μ : Nat → Nat → Int} {n : Int} : joinR ρ μ cs n none = some (some (.inl 0), (SH, ρ, μ, cs)) := rfl
theorem R_goes_loop (hρ : RM ρ) {S : MS} {f : Int → Int} {r : Int} (hr0 : 0 ≤ r) (hr : r < 3) (hf : ∀ i, 0 ≤ i → i < 7 → -1000000000000 ≤ f i ∧ f i ≤ 1000000000000) : ∀ (j : Nat) (k : Int) (m : Nat) (μ : Nat → Nat → Int), SR μ = S → (∀ i : Int, 0 ≤ i → i < 7 → μ 119 i.toNat = f i) → μ 99 36 = (m : Int) → m + j ≤ 64 → k + j = S 15 r → 0 ≤ k → k + j ≤ 64 → wfK S j k m → (∀ i : Nat, (i : Int) < m → -1000000000000 ≤ μ 120 i ∧ μ 120 i ≤ 1000000000000) →
    ∃ μ', FrK μ μ' ∧ am_E (d + 2) 180 12 [some (.inr (.inr 99)), some (.inl r), some (.inl k)] [] (SH, ρ, μ, cs) = some (some (.inl (if (evK S f j k (stk μ m)).isSome = true then 1 else 0)), (SH, ρ, μ', cs)) ∧ (∀ st, evK S f j k (stk μ m) = some st → st = [μ' 120 0]) := by
  intro j
  induction j with
  | zero =>
    intro k m μ hS hn h36 hm hk hk0 hk64 hw hb
    have e1 : μ 116 r.toNat = S 15 r := by rw [← hS]; rfl
    refine ⟨μ, frk_rf μ, ?_, ?_⟩
    · rw [e180_12]; simp (disch := (first | omega | (simp (disch := omega) only [sr_up, wr_up_o]; omega))) only [ks_116, ks_117, ks_118, ks_119, ks_120, ks_99, rm_knotSort hρ, rm_knotValue hρ, rm_names hρ, rm_sumTo hρ, rm_worked hρ, isk_t, i20_t, w20_t, l23_t, b21_t, b22_t, w_t, bif_t, bif_f, bif_d, if_pos, if_neg, if_true, if_false, not_true_eq_false, not_false_eq_true, Option.bind_some, Option.toList_some, Option.toList_none, List.cons_append, List.nil_append, Int.toNat_natCast, Int.reduceToNat, up_eq, up_p, up_k, sN,  e1 ]
      rfl
    · intro st hst
      have hm1 : m = 1 := hw
      subst hm1
      have : some (stk μ 1) = some st := hst
      cases this
      rfl
  | succ j ih =>
    intro k m μ hS hn h36 hm hk hk0 hk64 hw hb
    have e1 : μ 116 r.toNat = S 15 r := by rw [← hS]; rfl
    have e2 : μ 117 k.toNat = S 16 k := by rw [← hS]; rfl
    have e3 : μ 118 k.toNat = S 17 k := by rw [← hS]; rfl
    rcases hw with ⟨c1, c2, c3, c4⟩ | ⟨c1, c2, c3, c4⟩ | ⟨c1, c4⟩
    · obtain ⟨m, rfl⟩ : ∃ n, m = n + 1 := ⟨m - 1, by omega⟩
      have hwk := R_worksN (d := d) (cs := cs) hρ h36 (by omega) (by omega)
      have i1 : ((((m + 1 : Nat) : Int) - 1).toNat) = m := by omega
      rw [i1] at hwk
      generalize hv : (if μ 120 m = 0 then (1 : Int) else 0) = v at hwk
      have hvb : 0 ≤ v ∧ v ≤ 1 := by rw [← hv]; split <;> omega
      have es : stk (am_up μ 120 m v) (m + 1) = v :: stk μ m := by
        show am_up μ 120 m v 120 m :: stk (am_up μ 120 m v) m = _
        rw [up_eq, stk_c (fun i hi => up_k (by omega))]
      have ev : evK S f (j + 1) k (stk μ (m + 1)) = evK S f j (k + 1) (v :: stk μ m) := by
        show (if S 16 k = 2 then (opK (S 17 k) (μ 120 m :: stk μ m)).bind _ else _) = _
        rw [if_pos c1, c2, opK_N, hv]
        rfl
      obtain ⟨μ', h1, h2, h3⟩ := ih (k + 1) (m + 1) (am_up μ 120 m v) (by rw [sr_up (by omega)]; exact hS) (fun i h0 h1 => by rw [up_p (by omega)]; exact hn i h0 h1) (by rw [up_p (by omega)]; exact h36) (by omega) (by omega) (by omega) (by omega) c4 (fun i hi => by
        by_cases q : i = m
        · subst q; rw [up_eq]; omega
        · rw [up_k q]; exact hb i (by omega))
      rw [es] at h2 h3
      rw [ev]
      refine ⟨μ', frk_tr (frk_up (frk_rf μ) (Or.inl rfl)) h1, ?_, h3⟩
      rw [e180_12]; simp (disch := (first | omega | (simp (disch := omega) only [sr_up, wr_up_o]; omega))) only [ks_116, ks_117, ks_118, ks_119, ks_120, ks_99, rm_knotSort hρ, rm_knotValue hρ, rm_names hρ, rm_sumTo hρ, rm_worked hρ, isk_t, i20_t, w20_t, l23_t, b21_t, b22_t, w_t, bif_t, bif_f, bif_d, if_pos, if_neg, if_true, if_false, not_true_eq_false, not_false_eq_true, Option.bind_some, Option.toList_some, Option.toList_none, List.cons_append, List.nil_append, Int.toNat_natCast, Int.reduceToNat, up_eq, up_p, up_k, sN,  e1, e2, e3, c1, c2, hwk ]
      simp (disch := (first | omega | (simp (disch := omega) only [sr_up, wr_up_o]; omega))) only [e180_42, ks_99, isk_t, i20_t, w20_t, l23_t, b21_t, b22_t, w_t, bif_t, bif_f, bif_d, if_pos, if_neg, if_true, if_false, not_true_eq_false, not_false_eq_true, Option.bind_some, Option.toList_some, Option.toList_none, List.cons_append, List.nil_append, Int.toNat_natCast, Int.reduceToNat, up_eq, up_p, up_k, sN]
      exact h2
    · obtain ⟨m, rfl⟩ : ∃ n, m = n + 2 := ⟨m - 2, by omega⟩
      have hwk := R_works2 (d := d) (cs := cs) (s := S 17 k) hρ h36 (by omega) (by omega) c2 hb
      have i1 : ((((m + 2 : Nat) : Int) - 1).toNat) = m + 1 := by omega
      have i2 : ((((m + 2 : Nat) : Int) - 2).toNat) = m := by omega
      rw [i1, i2] at hwk
      have ev : evK S f (j + 1) k (stk μ (m + 2)) = ((opB (op2 (S 17 k) (μ 120 m) (μ 120 (m + 1)))).map (fun v => v :: stk μ m)).bind (fun st => evK S f j (k + 1) st) := by
        show (if S 16 k = 2 then (opK (S 17 k) (μ 120 (m + 1) :: μ 120 m :: stk μ m)).bind _ else _) = _
        rw [if_pos c1, opK_2 c2]
      rw [ev]
      cases ho : op2 (S 17 k) (μ 120 m) (μ 120 (m + 1)) with
      | none =>
        rw [ho, j_none] at hwk
        refine ⟨am_up μ 99 36 (((m + 2 : Nat) : Int) - 1), frk_up (frk_rf μ) (Or.inr ⟨rfl, rfl⟩), ?_, fun st h => by cases h⟩
        rw [e180_12]; simp (disch := (first | omega | (simp (disch := omega) only [sr_up, wr_up_o]; omega))) only [ks_116, ks_117, ks_118, ks_119, ks_120, ks_99, rm_knotSort hρ, rm_knotValue hρ, rm_names hρ, rm_sumTo hρ, rm_worked hρ, isk_t, i20_t, w20_t, l23_t, b21_t, b22_t, w_t, bif_t, bif_f, bif_d, if_pos, if_neg, if_true, if_false, not_true_eq_false, not_false_eq_true, Option.bind_some, Option.toList_some, Option.toList_none, List.cons_append, List.nil_append, Int.toNat_natCast, Int.reduceToNat, up_eq, up_p, up_k, sN,  e1, e2, e3, c1, hwk ]
        simp (disch := (first | omega | (simp (disch := omega) only [sr_up, wr_up_o]; omega))) only [e180_42, ks_99, isk_t, i20_t, w20_t, l23_t, b21_t, b22_t, w_t, bif_t, bif_f, bif_d, if_pos, if_neg, if_true, if_false, not_true_eq_false, not_false_eq_true, Option.bind_some, Option.toList_some, Option.toList_none, List.cons_append, List.nil_append, Int.toNat_natCast, Int.reduceToNat, up_eq, up_p, up_k, sN]
        rfl
      | some v =>
        rw [ho, j_some] at hwk
        have i3 : ((((m + 2 : Nat) : Int) - 1 - 1).toNat) = m := by omega
        rw [i3] at hwk
        by_cases hv : v ≤ LG ∧ -LG ≤ v
        · rw [if_pos hv] at hwk
          have eo : opB (some v) = some v := by
            show (if v ≤ LG ∧ -LG ≤ v then some v else none) = some v
            rw [if_pos hv]
          rw [eo]
          have ee : ((Option.map (fun v => v :: stk μ m) (some v)).bind fun st => evK S f j (k + 1) st) = evK S f j (k + 1) (v :: stk μ m) := rfl
          rw [ee]
          have es : stk (am_up (am_up μ 99 36 (((m + 2 : Nat) : Int) - 1)) 120 m v) (m + 1) = v :: stk μ m := by
            show am_up (am_up μ 99 36 (((m + 2 : Nat) : Int) - 1)) 120 m v 120 m :: stk (am_up (am_up μ 99 36 (((m + 2 : Nat) : Int) - 1)) 120 m v) m = _
            rw [up_eq, stk_c (fun i hi => by rw [up_k (by omega), up_p (by omega)])]
          obtain ⟨μ', h1, h2, h3⟩ := ih (k + 1) (m + 1) (am_up (am_up μ 99 36 (((m + 2 : Nat) : Int) - 1)) 120 m v) (by rw [sr_up (by omega), sr_up (by omega)]; exact hS) (fun i h0 h1 => by rw [up_p (by omega), up_p (by omega)]; exact hn i h0 h1) (by rw [up_p (by omega), up_eq]; omega) (by omega) (by omega) (by omega) (by omega) c4 (fun i hi => by
            by_cases q : i = m
            · subst q; rw [up_eq]; unfold LG at hv; omega
            · rw [up_k q, up_p (by omega)]; exact hb i (by omega))
          rw [es] at h2 h3
          refine ⟨μ', frk_tr (frk_up (frk_up (frk_rf μ) (Or.inr ⟨rfl, rfl⟩)) (Or.inl rfl)) h1, ?_, h3⟩
          rw [e180_12]; simp (disch := (first | omega | (simp (disch := omega) only [sr_up, wr_up_o]; omega))) only [ks_116, ks_117, ks_118, ks_119, ks_120, ks_99, rm_knotSort hρ, rm_knotValue hρ, rm_names hρ, rm_sumTo hρ, rm_worked hρ, isk_t, i20_t, w20_t, l23_t, b21_t, b22_t, w_t, bif_t, bif_f, bif_d, if_pos, if_neg, if_true, if_false, not_true_eq_false, not_false_eq_true, Option.bind_some, Option.toList_some, Option.toList_none, List.cons_append, List.nil_append, Int.toNat_natCast, Int.reduceToNat, up_eq, up_p, up_k, sN,  e1, e2, e3, c1, hwk ]
          simp (disch := (first | omega | (simp (disch := omega) only [sr_up, wr_up_o]; omega))) only [e180_42, ks_99, isk_t, i20_t, w20_t, l23_t, b21_t, b22_t, w_t, bif_t, bif_f, bif_d, if_pos, if_neg, if_true, if_false, not_true_eq_false, not_false_eq_true, Option.bind_some, Option.toList_some, Option.toList_none, List.cons_append, List.nil_append, Int.toNat_natCast, Int.reduceToNat, up_eq, up_p, up_k, sN]
          exact h2
        · rw [if_neg hv] at hwk
          have eo : opB (some v) = none := by
            show (if v ≤ LG ∧ -LG ≤ v then some v else none) = none
            rw [if_neg hv]
          rw [eo]
          refine ⟨am_up (am_up μ 99 36 (((m + 2 : Nat) : Int) - 1)) 120 m v, frk_up (frk_up (frk_rf μ) (Or.inr ⟨rfl, rfl⟩)) (Or.inl rfl), ?_, fun st h => by cases h⟩
          rw [e180_12]; simp (disch := (first | omega | (simp (disch := omega) only [sr_up, wr_up_o]; omega))) only [ks_116, ks_117, ks_118, ks_119, ks_120, ks_99, rm_knotSort hρ, rm_knotValue hρ, rm_names hρ, rm_sumTo hρ, rm_worked hρ, isk_t, i20_t, w20_t, l23_t, b21_t, b22_t, w_t, bif_t, bif_f, bif_d, if_pos, if_neg, if_true, if_false, not_true_eq_false, not_false_eq_true, Option.bind_some, Option.toList_some, Option.toList_none, List.cons_append, List.nil_append, Int.toNat_natCast, Int.reduceToNat, up_eq, up_p, up_k, sN,  e1, e2, e3, c1, hwk ]
          simp (disch := (first | omega | (simp (disch := omega) only [sr_up, wr_up_o]; omega))) only [e180_42, ks_99, isk_t, i20_t, w20_t, l23_t, b21_t, b22_t, w_t, bif_t, bif_f, bif_d, if_pos, if_neg, if_true, if_false, not_true_eq_false, not_false_eq_true, Option.bind_some, Option.toList_some, Option.toList_none, List.cons_append, List.nil_append, Int.toNat_natCast, Int.reduceToNat, up_eq, up_p, up_k, sN]
          rfl
    · obtain ⟨v, hv, hvb, hv2⟩ : ∃ v, (if S 16 k = 0 then S 17 k else f (S 17 k)) = v ∧ (-1000000000000 ≤ v ∧ v ≤ 1000000000000) ∧ S 16 k ≠ 2 := by
        rcases c1 with ⟨a1, a2, a3⟩ | ⟨a1, a2, a3⟩
        · exact ⟨_, if_pos a1, by omega, by omega⟩
        · exact ⟨_, if_neg (by omega), hf _ a2 a3, by omega⟩
      have ev : evK S f (j + 1) k (stk μ m) = evK S f j (k + 1) (v :: stk μ m) := by
        show (if S 16 k = 2 then _ else evK S f j (k + 1) ((if S 16 k = 0 then S 17 k else f (S 17 k)) :: stk μ m)) = _
        rw [if_neg hv2, hv]
      have es : stk (am_up (am_up μ 120 m v) 99 36 ((m : Int) + 1)) (m + 1) = v :: stk μ m := by
        show am_up (am_up μ 120 m v) 99 36 ((m : Int) + 1) 120 m :: stk (am_up (am_up μ 120 m v) 99 36 ((m : Int) + 1)) m = _
        rw [up_p (by omega), up_eq, stk_c (fun i hi => by rw [up_p (by omega), up_k (by omega)])]
      obtain ⟨μ', h1, h2, h3⟩ := ih (k + 1) (m + 1) (am_up (am_up μ 120 m v) 99 36 ((m : Int) + 1)) (by rw [sr_up (by omega), sr_up (by omega)]; exact hS) (fun i h0 h1 => by rw [up_p (by omega), up_p (by omega)]; exact hn i h0 h1) (by rw [up_eq]; omega) (by omega) (by omega) (by omega) (by omega) c4 (fun i hi => by
        rw [up_p (by omega)]
        by_cases q : i = m
        · subst q; rw [up_eq]; exact hvb
        · rw [up_k q]; exact hb i (by omega))
      rw [es] at h2 h3
      rw [ev]
      refine ⟨μ', frk_tr (frk_up (frk_up (frk_rf μ) (Or.inl rfl)) (Or.inr ⟨rfl, rfl⟩)) h1, ?_, h3⟩
      rcases c1 with ⟨a1, a2, a3⟩ | ⟨a1, a2, a3⟩
      · rw [if_pos a1] at hv
        rw [e180_12]; simp (disch := (first | omega | (simp (disch := omega) only [sr_up, wr_up_o]; omega))) only [ks_116, ks_117, ks_118, ks_119, ks_120, ks_99, rm_knotSort hρ, rm_knotValue hρ, rm_names hρ, rm_sumTo hρ, rm_worked hρ, isk_t, i20_t, w20_t, l23_t, b21_t, b22_t, w_t, bif_t, bif_f, bif_d, if_pos, if_neg, if_true, if_false, not_true_eq_false, not_false_eq_true, Option.bind_some, Option.toList_some, Option.toList_none, List.cons_append, List.nil_append, Int.toNat_natCast, Int.reduceToNat, up_eq, up_p, up_k, sN,  e1, e2, e3, a1, hv, h36 ]
        exact h2
      · rw [if_neg (by omega)] at hv
        have e4 := hn (S 17 k) a2 a3
        rw [e180_12]; simp (disch := (first | omega | (simp (disch := omega) only [sr_up, wr_up_o]; omega))) only [ks_116, ks_117, ks_118, ks_119, ks_120, ks_99, rm_knotSort hρ, rm_knotValue hρ, rm_names hρ, rm_sumTo hρ, rm_worked hρ, isk_t, i20_t, w20_t, l23_t, b21_t, b22_t, w_t, bif_t, bif_f, bif_d, if_pos, if_neg, if_true, if_false, not_true_eq_false, not_false_eq_true, Option.bind_some, Option.toList_some, Option.toList_none, List.cons_append, List.nil_append, Int.toNat_natCast, Int.reduceToNat, up_eq, up_p, up_k, sN,  e1, e2, e3, a1, h36, e4, hv ]
        exact h2
theorem R_goes (hρ : RM ρ) {f : Int → Int} {r : Int} {μ : Nat → Nat → Int} (hS : SI (SR μ)) (hr0 : 0 ≤ r) (hr : r < 3) (ht : SR μ 14 r < SR μ 15 r) (hf : ∀ i, 0 ≤ i → i < 7 → -1000000000000 ≤ f i ∧ f i ≤ 1000000000000) (hn : ∀ i : Int, 0 ≤ i → i < 7 → μ 119 i.toNat = f i) :
    ∃ μ', FrK μ μ' ∧ am_E (d + 2) 180 0 [some (.inr (.inr 99)), some (.inl r), none] [] (SH, ρ, μ, cs) = some (some (.inl (if (lawV (SR μ) f r).isSome = true then 1 else 0)), (SH, ρ, μ', cs)) ∧ (∀ v, lawV (SR μ) f r = some v → μ' 120 0 = v) := by
  have hb := hS.2.2.2.2.2.2.2.2.2.2.2.2.2.2.2 r hr0 hr
  have hj : ((SR μ 15 r - SR μ 14 r).toNat : Int) = SR μ 15 r - SR μ 14 r := by omega
  obtain ⟨μ', h1, h2, h3⟩ := R_goes_loop (d := d) (cs := cs) hρ hr0 hr hf (SR μ 15 r - SR μ 14 r).toNat (SR μ 14 r) 0 (am_up μ 99 36 0) (S := SR μ) (sr_up (by omega)) (fun i h0 h1 => by rw [up_p (by omega)]; exact hn i h0 h1) up_eq (by omega) (by omega) hb.1 (by omega) (hb.2.2.2 ht) (fun i hi => by omega)
  have e0 : stk (am_up μ 99 36 0) 0 = [] := rfl
  rw [e0] at h2 h3
  have e1 : lawV (SR μ) f r = (evK (SR μ) f (SR μ 15 r - SR μ 14 r).toNat (SR μ 14 r) []).bind (fun l => l.head?) := if_pos ht
  refine ⟨μ', frk_tr (frk_up (frk_rf μ) (Or.inr ⟨rfl, rfl⟩)) h1, ?_, ?_⟩
  · have e2 : μ 115 r.toNat = SR μ 14 r := rfl
    simp (disch := (first | omega | (simp (disch := omega) only [sr_up, wr_up_o]; omega))) only [e180_0, ks_115, ks_99, rm_sumFrom hρ, isk_t, i20_t, w20_t, l23_t, b21_t, b22_t, w_t, bif_t, bif_f, bif_d, if_pos, if_neg, if_true, if_false, not_true_eq_false, not_false_eq_true, Option.bind_some, Option.toList_some, Option.toList_none, List.cons_append, List.nil_append, Int.toNat_natCast, Int.reduceToNat, up_eq, up_p, up_k, sN,  e2 ]
    rw [h2, e1]
    cases hv : evK (SR μ) f (SR μ 15 r - SR μ 14 r).toNat (SR μ 14 r) [] with
    | none => rfl
    | some st =>
      rw [h3 st hv]
      rfl
  · intro v hv
    rw [e1] at hv
    cases hq : evK (SR μ) f (SR μ 15 r - SR μ 14 r).toNat (SR μ 14 r) [] with
    | none => rw [hq] at hv; cases hv
    | some st =>
      rw [hq, h3 st hq] at hv
      have : some (μ' 120 0) = some v := hv
      cases this
      rfl
end REF
