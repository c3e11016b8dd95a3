/-! TEXT: the reference's token -/
def schr (k : Int) : Int := if k = 25 then 40 else if k = 26 then 41 else if k = 27 then 59 else if k = 28 then 43 else if k = 29 then 45 else if k = 30 then 42 else if k = 31 then 47 else if k = 32 then 60 else if k = 33 then 256 else if k = 34 then 61 else if k = 35 then 257 else if k = 36 then 258 else 62
section RTN
variable {ρ : Nat → Nat → Nat} {μ : Nat → Nat → Int} {cs : Nat × Nat × Nat} {d n a p e : Nat} {b : Nat → Int}
/-- what the reference's tokens read -/
def RTk (μ : Nat → Nat → Int) (b : Nat → Int) (n a : Nat) : Prop := n ≤ 700 ∧ a ≤ n ∧ μ 99 23 = (n : Int) ∧ μ 99 24 = (a : Int) ∧ (∀ i, i < n → μ 100 i = b i % 256 ∧ -128 ≤ b i ∧ b i ≤ 127) ∧ μ 99 29 = -1
/-- the token at hand -/
def RK (μ : Nat → Nat → Int) (t : Int × Int × Nat × Nat) : Prop := μ 99 25 = (t.2.2.1 : Int) ∧ (t.1 ≤ 22 → μ 99 26 = 0 ∧ μ 99 27 = rmp t.1) ∧ (t.1 = 23 → μ 99 26 = 1 ∧ μ 99 27 = t.2.1) ∧ (t.1 = 24 → μ 99 26 = 2 ∧ μ 99 27 = t.2.1) ∧ (25 ≤ t.1 → t.1 ≤ 37 → μ 99 26 = 3 ∧ μ 99 27 = schr t.1) ∧ (t.1 = 38 → μ 99 26 = 5) ∧ (t.1 = 39 → μ 99 26 = 4)
def FR (μ μ' : Nat → Nat → Int) : Prop := ∀ q k, ¬ (q = 99 ∧ 24 ≤ k ∧ k ≤ 27) → μ' q k = μ q k
theorem fr_rf (μ : Nat → Nat → Int) : FR μ μ := fun _ _ _ => rfl
theorem fr_tr {a b c : Nat → Nat → Int} (h1 : FR a b) (h2 : FR b c) : FR a c := fun q k h => (h2 q k h).trans (h1 q k h)
theorem fr_up {μ μ' : Nat → Nat → Int} {k : Nat} {v : Int} (h1 : FR μ μ') (h : 24 ≤ k ∧ k ≤ 27) : FR μ (am_up μ' 99 k v) := fun q' k' h' => by
  rw [am_up_no (fun e => h' (by omega))]
  exact h1 q' k' h'
theorem rtk_fr {μ' : Nat → Nat → Int} (h : RTk μ b n a) (h1 : ∀ i, μ' 100 i = μ 100 i) (h3 : μ' 99 23 = μ 99 23) (h4 : μ' 99 24 = μ 99 24) (h5 : μ' 99 29 = μ 99 29) : RTk μ' b n a := by
  obtain ⟨a2, a3, a4, a5, a6⟩ := h
  exact ⟨a2, a3, h3.trans a4, h4.trans a5, fun i hi => by rw [h1]; exact a6.1 i hi, h5.trans a6.2⟩
theorem R_here (hρ : RM ρ) (h : RTk μ b n a) : am_E d 142 0 [some (.inr (.inr 99))] [] (SH, ρ, μ, cs) = some (some (.inl (if a < n then b a % 256 else -1)), (SH, ρ, μ, cs)) := by
  obtain ⟨hn, ha, h3, h4, hb⟩ := h
  by_cases c : a < n
  · have hbk := (hb.1 a c).1
    rw [if_pos c]
    simp (disch := (first | omega | (simp (disch := omega) only [sr_up, wr_up_o]; omega))) only [e142_0, ks_100, ks_99, rm_tape hρ, ite_self, Bool.false_eq_true, eq_self, isk_t, i20_t, w20_t, l23_t, b21_t, b22_t, w_t, bif_t, bif_f, bif_d, if_pos, if_neg, if_true, if_false, not_true_eq_false, not_false_eq_true, Option.bind_some, Option.toList_some, Option.toList_none, List.cons_append, List.nil_append, Int.toNat_natCast, Int.reduceToNat, up_eq, up_p, up_k, sN,  h3, h4, hbk ]
  · rw [if_neg c]
    simp (disch := (first | omega | (simp (disch := omega) only [sr_up, wr_up_o]; omega))) only [e142_0, ks_100, ks_99, rm_tape hρ, ite_self, Bool.false_eq_true, eq_self, isk_t, i20_t, w20_t, l23_t, b21_t, b22_t, w_t, bif_t, bif_f, bif_d, if_pos, if_neg, if_true, if_false, not_true_eq_false, not_false_eq_true, Option.bind_some, Option.toList_some, Option.toList_none, List.cons_append, List.nil_append, Int.toNat_natCast, Int.reduceToNat, up_eq, up_p, up_k, sN,  h3, h4 ]
theorem rtk_at {a' : Nat} (h : RTk μ b n a) (ha : a' ≤ n) : RTk (am_up μ 99 24 a') b n a' := by
  obtain ⟨hn, _, h3, h4, hb⟩ := h
  exact ⟨hn, ha, by rw [up_k (by decide)]; exact h3, up_eq, fun i hi => by rw [up_p (by decide)]; exact hb.1 i hi, by rw [up_k (by decide)]; exact hb.2⟩
theorem rtk_up {k : Nat} {v : Int} (h : RTk μ b n a) (hk : 25 ≤ k ∧ k ≠ 29) : RTk (am_up μ 99 k v) b n a := rtk_fr h (fun i => up_p (by decide)) (up_k (by omega)) (up_k (by omega)) (up_k (by omega))
theorem R_blk (hρ : RM ρ) : ∀ (m a : Nat) {μ : Nat → Nat → Int}, n - a = m → RTk μ b n a → am_E (d + 6) 145 0 [some (.inr (.inr 99)), none] [] (SH, ρ, μ, cs) = am_E (d + 6) 145 0 [some (.inr (.inr 99)), none] [] (SH, ρ, am_up μ 99 24 (rn blk b n a), cs) := by
  intro m
  induction m with
  | zero =>
    intro a μ hm h
    rw [rn_no (by omega), am_upi h.2.2.2.1]
  | succ m ih =>
    intro a μ hm h
    by_cases c : blk (b a) = true
    · have hh := ih (a + 1) (μ := am_up μ 99 24 ((a + 1 : Nat) : Int)) (by omega) (rtk_at h (by omega))
      rw [am_up2] at hh
      rw [rn_yes (by omega) c, ← hh]
      have hr := fun d => R_here (ρ := ρ) (cs := cs) (d := d) hρ h
      rw [if_pos (by omega)] at hr
      have h4 := h.2.2.2.1
      have e1 : ((a + 1 : Nat) : Int) = (a : Int) + 1 := by omega
      have hn := h.1
      rw [e1]
      simp only [blk, decide_eq_true_eq] at c
      rcases c with c | c
      · rw [c] at hr
        have hr : ∀ d, am_E d 142 0 [some (.inr (.inr 99))] [] (SH, ρ, μ, cs) = some (some (.inl 32), (SH, ρ, μ, cs)) := hr
        rw [e145_0]; simp (disch := (first | omega | (simp (disch := omega) only [sr_up, wr_up_o]; omega))) only [e145_4, e145_13, ks_99, ite_self, Bool.false_eq_true, eq_self, isk_t, i20_t, w20_t, l23_t, b21_t, b22_t, w_t, bif_t, bif_f, bif_d, if_pos, if_neg, if_true, if_false, not_true_eq_false, not_false_eq_true, Option.bind_some, Option.toList_some, Option.toList_none, List.cons_append, List.nil_append, Int.toNat_natCast, Int.reduceToNat, up_eq, up_p, up_k, sN,  hr, h4 ]
        all_goals rfl
      · rw [c] at hr
        have hr : ∀ d, am_E d 142 0 [some (.inr (.inr 99))] [] (SH, ρ, μ, cs) = some (some (.inl 10), (SH, ρ, μ, cs)) := hr
        rw [e145_0]; simp (disch := (first | omega | (simp (disch := omega) only [sr_up, wr_up_o]; omega))) only [e145_4, e145_13, ks_99, ite_self, Bool.false_eq_true, eq_self, isk_t, i20_t, w20_t, l23_t, b21_t, b22_t, w_t, bif_t, bif_f, bif_d, if_pos, if_neg, if_true, if_false, not_true_eq_false, not_false_eq_true, Option.bind_some, Option.toList_some, Option.toList_none, List.cons_append, List.nil_append, Int.toNat_natCast, Int.reduceToNat, up_eq, up_p, up_k, sN,  hr, h4 ]
        all_goals rfl
    · rw [rn_no (fun z => c z.2), am_upi h.2.2.2.1]
theorem R_let (hρ : RM ρ) (he : e ≤ n) (hl : ∀ j, p ≤ j → j < e → ltr (b j) = true) {x : Int} : ∀ (m k : Nat) {μ : Nat → Nat → Int}, p + k + m = e → RTk μ b n (p + k) → am_E (d + 6) 145 64 [some (.inr (.inr 99)), some (.inl x)] [] (SH, ρ, μ, cs) = am_E (d + 6) 145 64 [some (.inr (.inr 99)), some (.inl x)] [] (SH, ρ, am_up μ 99 24 e, cs) := by
  intro m
  induction m with
  | zero =>
    intro k μ hm h
    rw [am_upi (by rw [h.2.2.2.1]; omega)]
  | succ m ih =>
    intro k μ hm h
    have hh := ih (k + 1) (μ := am_up μ 99 24 ((p + (k + 1) : Nat) : Int)) (by omega) (rtk_at h (by omega))
    rw [am_up2] at hh
    rw [← hh]
    have hr := fun d => R_here (ρ := ρ) (cs := cs) (d := d) hρ h
    rw [if_pos (by omega)] at hr
    have h4 := h.2.2.2.1
    have hn := h.1
    have hlk := hl (p + k) (by omega) (by omega)
    simp only [ltr, decide_eq_true_eq] at hlk
    have e2 : b (p + k) % 256 = b (p + k) := by omega
    rw [e2] at hr
    rw [show ((p + (k + 1) : Nat) : Int) = ((p + k : Nat) : Int) + 1 by omega]
    rw [e145_64]; simp (disch := (first | omega | (simp (disch := omega) only [sr_up, wr_up_o]; omega))) only [e145_68, e145_71, e143_0, ks_99, ite_self, Bool.false_eq_true, eq_self, isk_t, i20_t, w20_t, l23_t, b21_t, b22_t, w_t, bif_t, bif_f, bif_d, if_pos, if_neg, if_true, if_false, not_true_eq_false, not_false_eq_true, Option.bind_some, Option.toList_some, Option.toList_none, List.cons_append, List.nil_append, Int.toNat_natCast, Int.reduceToNat, up_eq, up_p, up_k, sN,  hr, h4 ]
    all_goals rfl
theorem R_name (hρ : RM ρ) (hn : n ≤ 700) (hpn : p ≤ n) (he : e ≤ n) (hl : ∀ j, p ≤ j → j < e → ltr (b j) = true) : ∀ (m k : Nat) {μ : Nat → Nat → Int}, k + m = 6 → μ 99 24 = (e : Int) → μ 99 25 = (p : Int) → μ 99 27 = cdP b p e k → (∀ i, i < n → μ 100 i = b i % 256) → am_E d 148 7 [some (.inr (.inr 99)), some (.inl (k : Int))] [] (SH, ρ, μ, cs) = some (none, (SH, ρ, am_up μ 99 27 (wc b p e), cs)) := by
  intro m
  induction m with
  | zero =>
    intro k μ hk h4 h5 h7 hb
    obtain rfl : k = 6 := by omega
    rw [am_upi (by rw [h7]; rfl)]
    rw [e148_7]; simp (disch := (first | omega | (simp (disch := omega) only [sr_up, wr_up_o]; omega))) only [ks_100, ks_99, rm_tape hρ, ite_self, Bool.false_eq_true, eq_self, isk_t, i20_t, w20_t, l23_t, b21_t, b22_t, w_t, bif_t, bif_f, bif_d, if_pos, if_neg, if_true, if_false, not_true_eq_false, not_false_eq_true, Option.bind_some, Option.toList_some, Option.toList_none, List.cons_append, List.nil_append, Int.toNat_natCast, Int.reduceToNat, up_eq, up_p, up_k, sN]
  | succ m ih =>
    intro k μ hk h4 h5 h7 hb
    have bd := cdP_bd hl k
    have bd2 : cdP b p e k < 33554432 := by
      have h9 : (32 : Int) ^ k ≤ 32 ^ 5 := by
        have : (32 ^ k : Nat) ≤ 32 ^ 5 := Nat.pow_le_pow_right (by decide) (by omega)
        have e1 : (32 : Int) ^ k = ((32 ^ k : Nat) : Int) := by simp
        rw [e1]
        have e2 : (32 : Int) ^ 5 = ((32 ^ 5 : Nat) : Int) := by simp
        rw [e2]
        exact Int.ofNat_le.mpr this
      have e5 : (32 : Int) ^ 5 = 33554432 := by decide
      omega
    have hh := ih (k + 1) (μ := am_up μ 99 27 (cdP b p e (k + 1))) (by omega) (by rw [up_k (by decide)]; exact h4) (by rw [up_k (by decide)]; exact h5) up_eq (fun i hi => by rw [up_p (by decide)]; exact hb i hi)
    rw [am_up2, show ((k + 1 : Nat) : Int) = (k : Int) + 1 by omega] at hh
    rw [← hh]
    by_cases c : p + k < e
    · have hlk := hl (p + k) (by omega) c
      simp only [ltr, decide_eq_true_eq] at hlk
      have hbk := hb (p + k) (by omega)
      have e2 : b (p + k) % 256 = b (p + k) := by omega
      rw [e2] at hbk
      have et : ((p : Int) + (k : Int)).toNat = p + k := by omega
      have e1 : am_or (am_shl (cdP b p e k) 5) (b (p + k) - 97 + 1) = cdP b p e (k + 1) := by
        rw [sh5 bd.1 bd2 (by omega) (by omega)]
        show _ = cdP b p e k * 32 + dg b p e k
        unfold dg
        rw [if_pos (by omega)]
        omega
      rw [e148_7]; simp (disch := (first | omega | (simp (disch := omega) only [sr_up, wr_up_o]; omega))) only [ks_100, ks_99, rm_tape hρ, ite_self, Bool.false_eq_true, eq_self, isk_t, i20_t, w20_t, l23_t, b21_t, b22_t, w_t, bif_t, bif_f, bif_d, if_pos, if_neg, if_true, if_false, not_true_eq_false, not_false_eq_true, Option.bind_some, Option.toList_some, Option.toList_none, List.cons_append, List.nil_append, Int.toNat_natCast, Int.reduceToNat, up_eq, up_p, up_k, sN,  h4, h5, h7, et, hbk, e1 ]
    · have e1 : am_or (am_shl (cdP b p e k) 5) 0 = cdP b p e (k + 1) := by
        rw [sh5 bd.1 bd2 (by omega) (by omega)]
        show _ = cdP b p e k * 32 + dg b p e k
        unfold dg
        rw [if_neg (by omega)]
      rw [e148_7]; simp (disch := (first | omega | (simp (disch := omega) only [sr_up, wr_up_o]; omega))) only [ks_100, ks_99, rm_tape hρ, ite_self, Bool.false_eq_true, eq_self, isk_t, i20_t, w20_t, l23_t, b21_t, b22_t, w_t, bif_t, bif_f, bif_d, if_pos, if_neg, if_true, if_false, not_true_eq_false, not_false_eq_true, Option.bind_some, Option.toList_some, Option.toList_none, List.cons_append, List.nil_append, Int.toNat_natCast, Int.reduceToNat, up_eq, up_p, up_k, sN,  h4, h5, h7, e1 ]
theorem R_num (hρ : RM ρ) (he : e ≤ n) (hl : ∀ j, p ≤ j → j < e → dgt (b j) = true) (hen : e < n → dgt (b e) = false) {x : Int} : ∀ (m k : Nat) {μ : Nat → Nat → Int}, p + k + m = e → RTk μ b n (p + k) → μ 99 27 = nm 100000 b p k → ∃ μ', FR μ μ' ∧ μ' 99 24 = (e : Int) ∧ μ' 99 25 = μ 99 25 ∧ μ' 99 26 = μ 99 26 ∧ μ' 99 27 = nm 100000 b p (e - p) ∧ am_E (d + 6) 145 162 [some (.inr (.inr 99)), some (.inl x)] [] (SH, ρ, μ, cs) = some (none, (SH, ρ, μ', cs)) := by
  intro m
  induction m with
  | zero =>
    intro k μ hk h h7
    refine ⟨μ, fr_rf μ, by rw [h.2.2.2.1]; omega, rfl, rfl, by rw [h7, show e - p = k by omega], ?_⟩
    have hr := fun d => R_here (ρ := ρ) (cs := cs) (d := d) hρ h
    by_cases ce : e < n
    · rw [if_pos (by omega)] at hr
      have hbd := h.2.2.2.2.1 (p + k) (by omega)
      have hlk := hen ce
      rw [← show p + k = e by omega] at hlk
      simp only [dgt, decide_eq_false_iff_not] at hlk
      by_cases c1 : b (p + k) % 256 < 48
      · rw [e145_162]; simp (disch := (first | omega | (simp (disch := omega) only [sr_up, wr_up_o]; omega))) only [e145_166, e145_169, e144_0, e145_225, ks_99, ite_self, Bool.false_eq_true, eq_self, isk_t, i20_t, w20_t, l23_t, b21_t, b22_t, w_t, bif_t, bif_f, bif_d, if_pos, if_neg, if_true, if_false, not_true_eq_false, not_false_eq_true, Option.bind_some, Option.toList_some, Option.toList_none, List.cons_append, List.nil_append, Int.toNat_natCast, Int.reduceToNat, up_eq, up_p, up_k, sN,  hr ]
      · rw [e145_162]; simp (disch := (first | omega | (simp (disch := omega) only [sr_up, wr_up_o]; omega))) only [e145_166, e145_169, e144_0, e145_225, ks_99, ite_self, Bool.false_eq_true, eq_self, isk_t, i20_t, w20_t, l23_t, b21_t, b22_t, w_t, bif_t, bif_f, bif_d, if_pos, if_neg, if_true, if_false, not_true_eq_false, not_false_eq_true, Option.bind_some, Option.toList_some, Option.toList_none, List.cons_append, List.nil_append, Int.toNat_natCast, Int.reduceToNat, up_eq, up_p, up_k, sN,  hr ]
    · rw [if_neg (by omega)] at hr
      have hr : ∀ d, am_E d 142 0 [some (.inr (.inr 99))] [] (SH, ρ, μ, cs) = some (some (.inl (-1)), (SH, ρ, μ, cs)) := hr
      rw [e145_162]; simp (disch := (first | omega | (simp (disch := omega) only [sr_up, wr_up_o]; omega))) only [e145_166, e145_169, e144_0, e145_225, ks_99, ite_self, Bool.false_eq_true, eq_self, isk_t, i20_t, w20_t, l23_t, b21_t, b22_t, w_t, bif_t, bif_f, bif_d, if_pos, if_neg, if_true, if_false, not_true_eq_false, not_false_eq_true, Option.bind_some, Option.toList_some, Option.toList_none, List.cons_append, List.nil_append, Int.toNat_natCast, Int.reduceToNat, up_eq, up_p, up_k, sN,  hr ]
  | succ m ih =>
    intro k μ hk h h7
    have hr := fun d => R_here (ρ := ρ) (cs := cs) (d := d) hρ h
    rw [if_pos (by omega)] at hr
    have h4 := h.2.2.2.1
    have hn := h.1
    have hlk := hl (p + k) (by omega) (by omega)
    simp only [dgt, decide_eq_true_eq] at hlk
    have e2 : b (p + k) % 256 = b (p + k) := by omega
    rw [e2] at hr
    have bd := nm_bd (C := 100000) (m := e - p) (by omega) (by omega) (fun j h0 h1 => hl j h0 (by omega)) k (by omega)
    have en : nm 100000 b p (k + 1) = if nm 100000 b p k < 100000 then nm 100000 b p k * 10 + (b (p + k) - 48) else nm 100000 b p k := rfl
    by_cases c : nm 100000 b p k < 100000
    · rw [if_pos c] at en
      obtain ⟨μ', f1, f2, f3, f4, f5, f6⟩ := ih (k + 1) (μ := am_up (am_up μ 99 27 (10 * nm 100000 b p k + b (p + k) - 48)) 99 24 ((p + (k + 1) : Nat) : Int)) (by omega) (rtk_at (rtk_up h (by omega)) (by omega)) (by rw [up_k (by decide), up_eq, en]; omega)
      refine ⟨μ', fr_tr (fr_up (fr_up (fr_rf μ) (by omega)) (by omega)) f1, f2, by rw [f3, up_k (by decide), up_k (by decide)], by rw [f4, up_k (by decide), up_k (by decide)], f5, ?_⟩
      rw [show ((p + (k + 1) : Nat) : Int) = ((p + k : Nat) : Int) + 1 by omega] at f6
      rw [e145_162]; simp (disch := (first | omega | (simp (disch := omega) only [sr_up, wr_up_o]; omega))) only [e145_166, e145_169, e145_200, e145_217, e144_0, ks_99, ite_self, Bool.false_eq_true, eq_self, isk_t, i20_t, w20_t, l23_t, b21_t, b22_t, w_t, bif_t, bif_f, bif_d, if_pos, if_neg, if_true, if_false, not_true_eq_false, not_false_eq_true, Option.bind_some, Option.toList_some, Option.toList_none, List.cons_append, List.nil_append, Int.toNat_natCast, Int.reduceToNat, up_eq, up_p, up_k, sN,  hr, h4, h7 ]
      exact f6
    · rw [if_neg c] at en
      obtain ⟨μ', f1, f2, f3, f4, f5, f6⟩ := ih (k + 1) (μ := am_up (am_up μ 99 27 (nm 100000 b p k)) 99 24 ((p + (k + 1) : Nat) : Int)) (by omega) (rtk_at (rtk_up h (by omega)) (by omega)) (by rw [up_k (by decide), up_eq, en])
      refine ⟨μ', fr_tr (fr_up (fr_up (fr_rf μ) (by omega)) (by omega)) f1, f2, by rw [f3, up_k (by decide), up_k (by decide)], by rw [f4, up_k (by decide), up_k (by decide)], f5, ?_⟩
      rw [show ((p + (k + 1) : Nat) : Int) = ((p + k : Nat) : Int) + 1 by omega] at f6
      rw [e145_162]; simp (disch := (first | omega | (simp (disch := omega) only [sr_up, wr_up_o]; omega))) only [e145_166, e145_169, e145_200, e145_217, e144_0, ks_99, ite_self, Bool.false_eq_true, eq_self, isk_t, i20_t, w20_t, l23_t, b21_t, b22_t, w_t, bif_t, bif_f, bif_d, if_pos, if_neg, if_true, if_false, not_true_eq_false, not_false_eq_true, Option.bind_some, Option.toList_some, Option.toList_none, List.cons_append, List.nil_append, Int.toNat_natCast, Int.reduceToNat, up_eq, up_p, up_k, sN,  hr, h4, h7 ]
      exact f6
end RTN
