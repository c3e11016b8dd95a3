/-! THE REFERENCE: small methods -/
theorem ib_or1 {a : Nat} {k : Int} (ha : a < 2147483648) (h0 : 0 ≤ k) (h1 : k < 31) : am_or (a : Int) (am_shl 1 k) = ((a ||| 2 ^ k.toNat : Nat) : Int) := by
  rw [ib_one h0 h1, nb_or ha]
  exact Nat.lt_of_lt_of_le (Nat.pow_lt_pow_right (by decide) (show k.toNat < 31 by omega)) (by decide)
theorem ib_or0 {a : Nat} (ha : a < 2147483648) : am_or (a : Int) 0 = (a : Int) := by
  have h := nb_or (a := a) (b := 0) ha (by decide)
  rw [Nat.or_zero] at h
  exact h
theorem or1_lt {a : Nat} {k : Int} {n : Nat} (ha : a < 2 ^ n) (h0 : 0 ≤ k) (h1 : k < n) : a ||| 2 ^ k.toNat < 2 ^ n := Nat.or_lt_two_pow ha (Nat.pow_lt_pow_right (by decide) (by omega))
theorem bset_lt31 (f : Int → Bool) {n : Nat} (h : n ≤ 10) : bset f n < 2147483648 := Nat.lt_of_lt_of_le (bset_lt f n) (Nat.le_trans (Nat.pow_le_pow_right (by decide) h) (by decide))
theorem or1_bit {a : Nat} {k : Int} (h0 : 0 ≤ k) (j : Nat) : (a ||| 2 ^ k.toNat).testBit j = (a.testBit j || decide (j = k.toNat)) := by
  rw [Nat.testBit_or, Nat.testBit_two_pow]
  congr 1
  by_cases e : k.toNat = j
  · simp [e]
  · simp [e]; omega
theorem popN_or1 {a : Nat} {k : Int} (h0 : 0 ≤ k) (hb : a.testBit k.toNat = false) : ∀ n : Nat, popN (a ||| 2 ^ k.toNat) n = popN a n + (if k < n then 1 else 0)
  | 0 => by rw [if_neg (by omega)]; rfl
  | n + 1 => by
    show popN (a ||| 2 ^ k.toNat) n + (if (a ||| 2 ^ k.toNat).testBit n then 1 else 0) = (popN a n + if a.testBit n then 1 else 0) + _
    rw [popN_or1 h0 hb n, or1_bit h0]
    by_cases e : n = k.toNat
    · subst e
      rw [if_neg (by omega), if_pos (c := k < _) (by omega), hb]
      simp
    · have e2 : decide (n = k.toNat) = false := decide_eq_false e
      rw [e2, Bool.or_false]
      have e3 : (if k < (n : Int) then (1 : Int) else 0) = if k < ((n + 1 : Nat) : Int) then 1 else 0 := by split <;> split <;> omega
      rw [e3, Int.add_right_comm]
section REF
variable {ρ : Nat → Nat → Nat} {μ : Nat → Nat → Int} {cs : Nat × Nat × Nat} {d : Nat} {sh : List (Nat × Nat)}
theorem sJ_d (s t : Int) : (6 * s + t).toNat = sJ s t := rfl
theorem sr_0 (μ : Nat → Nat → Int) (k : Nat) : μ 101 k = SR μ 0 k := by unfold SR; rw [if_pos (by decide), Int.toNat_natCast]
theorem R_isMan (hρ : RM ρ) (p : Int) : am_E d 185 0 [some (.inr (.inr 99)), some (.inl p)] [] (SH, ρ, μ, cs) = some (some (.inl (if 0 ≤ p ∧ p < SR μ 0 0 then 1 else 0)), (SH, ρ, μ, cs)) := M_isMan hρ p
theorem R_isThing (hρ : RM ρ) (p : Int) : am_E d 186 0 [some (.inr (.inr 99)), some (.inl p)] [] (SH, ρ, μ, cs) = some (some (.inl (if 0 ≤ p ∧ p < SR μ 0 1 then 1 else 0)), (SH, ρ, μ, cs)) := M_isThing hρ p
theorem R_slot {s p t : Int} (hs0 : 0 ≤ s) (hs : s < 23) (hp0 : 0 ≤ p) (hp : p < 7) (ht0 : 0 ≤ t) (ht : t < 6) : am_E d 187 0 [some (.inl s), some (.inl p), some (.inl t)] [] (sh, ρ, μ, cs) = some (some (.inl ((sI s p t : Nat) : Int)), (sh, ρ, μ, cs)) := by
  rw [e187_0, w_t (z := 42 * s) (by omega) (by omega), w_t (z := 6 * p) (by omega) (by omega), w_t (z := 42 * s + 6 * p) (by omega) (by omega), w_t (by omega) (by omega)]
  unfold sI
  rw [Int.toNat_of_nonneg (by omega)]
theorem sI_lt {s p t : Int} (hs0 : 0 ≤ s) (hs : s < 23) (hp0 : 0 ≤ p) (hp : p < 7) (ht0 : 0 ≤ t) (ht : t < 6) : (sI s p t : Int) < 966 := by unfold sI; omega
theorem sI_ge (s p t : Int) : (0 : Int) ≤ (sI s p t : Int) := Int.natCast_nonneg _
theorem i20_s {s p t : Int} (hs0 : 0 ≤ s) (hs : s < 23) (hp0 : 0 ≤ p) (hp : p < 7) (ht0 : 0 ≤ t) (ht : t < 6) : am_i20 (20, 966) ((sI s p t : Nat) : Int) = true := i20_t (sI_ge s p t) (by have := sI_lt hs0 hs hp0 hp ht0 ht; omega)
theorem w20_s {s p t : Int} (hs0 : 0 ≤ s) (hs : s < 23) (hp0 : 0 ≤ p) (hp : p < 7) (ht0 : 0 ≤ t) (ht : t < 6) : am_w20 (20, 966) ((sI s p t : Nat) : Int) = true := w20_t (sI_ge s p t) (by have := sI_lt hs0 hs hp0 hp ht0 ht; omega)
theorem R_doesHave (hρ : RM ρ) {s p t : Int} (hs0 : 0 ≤ s) (hs : s < 23) (hp0 : 0 ≤ p) (hp : p < 7) (ht0 : 0 ≤ t) (ht : t < 6) : am_E (d + 1) 188 0 [some (.inr (.inr 99)), some (.inl s), some (.inl p), some (.inl t)] [] (SH, ρ, μ, cs) = some (some (.inl (if WR μ s 5 p t = -1 then 0 else 1)), (SH, ρ, μ, cs)) := by
  simp (disch := omega) only [e188_0, e188_10, ks_125, ks_99, rm_hatsOf hρ, isk_t, i20_t, w20_t, l23_t, b21_t, b22_t, w_t, bif_t, bif_f, bif_d, if_pos, if_neg, Option.bind_some, Option.toList_some, Option.toList_none, List.cons_append, List.nil_append, Int.toNat_natCast, up_eq, up_p, up_k, sN,  R_slot, i20_s, wr_hats μ ]
  split <;> rfl
theorem R_isPrinted (hρ : RM ρ) {s p t : Int} (hs0 : 0 ≤ s) (hs : s < 23) (hp0 : 0 ≤ p) (hp : p < 7) (ht0 : 0 ≤ t) (ht : t < 6) : am_E (d + 1) 189 0 [some (.inr (.inr 99)), some (.inl s), some (.inl p), some (.inl t)] [] (SH, ρ, μ, cs) = some (some (.inl (if WR μ s 8 p t = -2 then 0 else 1)), (SH, ρ, μ, cs)) := by
  simp (disch := omega) only [e189_0, e189_10, ks_128, ks_99, rm_printedHats hρ, isk_t, i20_t, w20_t, l23_t, b21_t, b22_t, w_t, bif_t, bif_f, bif_d, if_pos, if_neg, Option.bind_some, Option.toList_some, Option.toList_none, List.cons_append, List.nil_append, Int.toNat_natCast, up_eq, up_p, up_k, sN,  R_slot, i20_s, wr_pH μ ]
  split <;> rfl
theorem R_isNews (hρ : RM ρ) {s t : Int} (hs0 : 0 ≤ s) (hs : s < 23) (ht0 : 0 ≤ t) (ht : t < 6) : am_E d 190 0 [some (.inr (.inr 99)), some (.inl s), some (.inl t)] [] (SH, ρ, μ, cs) = some (some (.inl (if WR μ s 4 0 t = -2 then 0 else 1)), (SH, ρ, μ, cs)) := by
  simp (disch := omega) only [e190_0, ks_130, ks_99, rm_newsOn hρ, isk_t, i20_t, w20_t, l23_t, b21_t, b22_t, w_t, bif_t, bif_f, bif_d, if_pos, if_neg, Option.bind_some, Option.toList_some, Option.toList_none, List.cons_append, List.nil_append, Int.toNat_natCast, up_eq, up_p, up_k, sN,  sJ_d, wr_news μ ]
  split <;> rfl
theorem R_chain_loop (hρ : RM ρ) {s t : Int} (hs0 : 0 ≤ s) (hs : s < 23) (ht0 : 0 ≤ t) (ht : t < 6) (hW : ∀ p, 0 ≤ p → p < 7 → (WR μ s 7 p t = -2 ∨ 0 ≤ WR μ s 7 p t ∧ WR μ s 7 p t < 7)) (x2 : Int) : ∀ (n set : Nat) (p : Int), 0 ≤ p → p < 7 → set < 128 → 7 < n + popN set 7 → am_E (d + 2) 191 6 [some (.inr (.inr 99)), some (.inl s), some (.inl x2), some (.inl t), some (.inl set), some (.inl p), none] [] (SH, ρ, μ, cs) = some (some (.inl ((chW (WR μ s) t n set p : Nat) : Int)), (SH, ρ, μ, cs)) := by
  intro n
  induction n with
  | zero =>
    intro set p h0 h1 h2 h3
    have := popN_le set 7
    omega
  | succ n ih =>
    intro set p h0 h1 h2 h3
    rw [e191_6]; simp (disch := omega) only [ks_127, ks_99, rm_fromOf hρ, isk_t, i20_t, w20_t, l23_t, b21_t, b22_t, w_t, bif_t, bif_f, bif_d, if_pos, if_neg, Option.bind_some, Option.toList_some, Option.toList_none, List.cons_append, List.nil_append, Int.toNat_natCast, up_eq, up_p, up_k, sN,  ib_bit, ib_or1, R_slot ]
    unfold chW
    by_cases hb : set.testBit p.toNat = true
    · rw [if_pos hb, if_pos hb, if_pos (by decide)]
    · rw [if_neg hb, if_neg hb, if_neg (by decide)]
      simp (disch := omega) only [e191_36, e191_47, ks_99, isk_t, i20_t, w20_t, l23_t, b21_t, b22_t, w_t, bif_t, bif_f, bif_d, if_pos, if_neg, Option.bind_some, Option.toList_some, Option.toList_none, List.cons_append, List.nil_append, Int.toNat_natCast, up_eq, up_p, up_k, sN,  R_doesHave hρ, i20_s, wr_from μ, ks_127 ]
      have hb' : set.testBit p.toNat = false := by simpa using hb
      have hw := hW p h0 h1
      by_cases q1 : WR μ s 5 p t = -1
      · rw [if_pos q1, if_pos (Or.inl q1), if_pos rfl]
      · rw [if_neg q1, if_neg (by decide)]
        by_cases q2 : WR μ s 7 p t = -2
        · rw [if_neg (fun g => g q2), if_pos (Or.inr q2)]
        · rw [if_pos q2, if_neg (fun g => g.elim q1 q2)]
          refine am_E_le (am_lq_of _ _ (by simp [am_leb])) (ih (set ||| 2 ^ p.toNat) (WR μ s 7 p t) (by omega) (by omega) (or1_lt (n := 7) h2 h0 (by omega)) ?_)
          rw [popN_or1 h0 hb', if_pos (by omega)]
          omega
theorem R_chain (hρ : RM ρ) {s p t : Int} (hs0 : 0 ≤ s) (hs : s < 23) (hp0 : 0 ≤ p) (hp : p < 7) (ht0 : 0 ≤ t) (ht : t < 6) (hW : ∀ p, 0 ≤ p → p < 7 → (WR μ s 7 p t = -2 ∨ 0 ≤ WR μ s 7 p t ∧ WR μ s 7 p t < 7)) : am_E (d + 2) 191 0 [some (.inr (.inr 99)), some (.inl s), some (.inl p), some (.inl t), none, none, none] [] (SH, ρ, μ, cs) = some (some (.inl ((chain (WR μ s) p t : Nat) : Int)), (SH, ρ, μ, cs)) := by
  rw [e191_0]
  exact R_chain_loop hρ hs0 hs ht0 ht hW p 8 0 p hp0 hp (by decide) (by decide)
theorem R_whoHas_loop (hρ : RM ρ) {s t : Int} (hs0 : 0 ≤ s) (hs : s < 23) (ht0 : 0 ≤ t) (ht : t < 6) (hn : SR μ 0 0 ≤ 7) (hn0 : 0 ≤ SR μ 0 0) : ∀ (j k : Nat), k + j = men (SR μ) → am_E (d + 2) 193 5 [some (.inr (.inr 99)), some (.inl s), some (.inl t), some (.inl (bset (fun p => decide (WR μ s 5 p t ≠ -1)) k : Nat)), some (.inl (k : Int))] [] (SH, ρ, μ, cs) = some (some (.inl ((bset (fun p => decide (WR μ s 5 p t ≠ -1)) (men (SR μ)) : Nat) : Int)), (SH, ρ, μ, cs)) := by
  intro j
  have hm : (men (SR μ) : Int) = SR μ 0 0 := by unfold men; omega
  have hN : μ 101 0 = SR μ 0 0 := rfl
  induction j with
  | zero =>
    intro k hk
    have hk2 : k = men (SR μ) := hk
    subst hk2
    rw [e193_5]; simp (disch := omega) only [ks_101, ks_99, rm_number hρ, isk_t, i20_t, w20_t, l23_t, b21_t, b22_t, w_t, bif_t, bif_f, bif_d, if_pos, if_neg, Option.bind_some, Option.toList_some, Option.toList_none, List.cons_append, List.nil_append, Int.toNat_natCast, up_eq, up_p, up_k, sN,  hN ]
  | succ j ih =>
    intro k hk
    have hb := bset_lt31 (fun p => decide (WR μ s 5 p t ≠ -1)) (n := k) (by omega)
    rw [e193_5]; simp (disch := omega) only [ks_101, ks_99, rm_number hρ, isk_t, i20_t, w20_t, l23_t, b21_t, b22_t, w_t, bif_t, bif_f, bif_d, if_pos, if_neg, Option.bind_some, Option.toList_some, Option.toList_none, List.cons_append, List.nil_append, Int.toNat_natCast, up_eq, up_p, up_k, sN,  hN, R_doesHave hρ ]
    simp (disch := omega) only [e193_25, ks_99, isk_t, i20_t, w20_t, l23_t, b21_t, b22_t, w_t, bif_t, bif_f, bif_d, if_pos, if_neg, Option.bind_some, Option.toList_some, Option.toList_none, List.cons_append, List.nil_append, Int.toNat_natCast, up_eq, up_p, up_k, sN,  ib_or1, ib_or0 ]
    have h2 := ih (k + 1) (by omega)
    by_cases q : WR μ s 5 (k : Int) t = -1
    · rw [if_pos q, if_pos rfl]
      have e : bset (fun p => decide (WR μ s 5 p t ≠ -1)) (k + 1) = bset (fun p => decide (WR μ s 5 p t ≠ -1)) k := by
        show (if decide (WR μ s 5 (k : Int) t ≠ -1) = true then _ else _) = _
        rw [if_neg (by simp [q])]
      rw [e] at h2
      exact h2
    · rw [if_neg q, if_neg (by decide)]
      have e := bset_or (f := fun p => decide (WR μ s 5 p t ≠ -1)) (n := k) (by simp [q])
      rw [← e] at h2
      exact h2
theorem R_whoHas (hρ : RM ρ) {s t : Int} (hs0 : 0 ≤ s) (hs : s < 23) (ht0 : 0 ≤ t) (ht : t < 6) (hn : SR μ 0 0 ≤ 7) (hn0 : 0 ≤ SR μ 0 0) : am_E (d + 2) 193 0 [some (.inr (.inr 99)), some (.inl s), some (.inl t), none, none] [] (SH, ρ, μ, cs) = some (some (.inl ((bset (fun p => decide (WR μ s 5 p t ≠ -1)) (men (SR μ)) : Nat) : Int)), (SH, ρ, μ, cs)) := by
  rw [e193_0]
  exact R_whoHas_loop hρ hs0 hs ht0 ht hn hn0 (men (SR μ)) 0 (Nat.zero_add _)
theorem R_whoPrinted_loop (hρ : RM ρ) {s t : Int} (hs0 : 0 ≤ s) (hs : s < 23) (ht0 : 0 ≤ t) (ht : t < 6) (hn : SR μ 0 0 ≤ 7) (hn0 : 0 ≤ SR μ 0 0) : ∀ (j k : Nat), k + j = men (SR μ) → am_E (d + 2) 194 5 [some (.inr (.inr 99)), some (.inl s), some (.inl t), some (.inl (bset (fun p => decide (WR μ s 8 p t ≠ -2)) k : Nat)), some (.inl (k : Int))] [] (SH, ρ, μ, cs) = some (some (.inl ((bset (fun p => decide (WR μ s 8 p t ≠ -2)) (men (SR μ)) : Nat) : Int)), (SH, ρ, μ, cs)) := by
  intro j
  have hm : (men (SR μ) : Int) = SR μ 0 0 := by unfold men; omega
  have hN : μ 101 0 = SR μ 0 0 := rfl
  induction j with
  | zero =>
    intro k hk
    have hk2 : k = men (SR μ) := hk
    subst hk2
    rw [e194_5]; simp (disch := omega) only [ks_101, ks_99, rm_number hρ, isk_t, i20_t, w20_t, l23_t, b21_t, b22_t, w_t, bif_t, bif_f, bif_d, if_pos, if_neg, Option.bind_some, Option.toList_some, Option.toList_none, List.cons_append, List.nil_append, Int.toNat_natCast, up_eq, up_p, up_k, sN,  hN ]
  | succ j ih =>
    intro k hk
    have hb := bset_lt31 (fun p => decide (WR μ s 8 p t ≠ -2)) (n := k) (by omega)
    rw [e194_5]; simp (disch := omega) only [ks_101, ks_99, rm_number hρ, isk_t, i20_t, w20_t, l23_t, b21_t, b22_t, w_t, bif_t, bif_f, bif_d, if_pos, if_neg, Option.bind_some, Option.toList_some, Option.toList_none, List.cons_append, List.nil_append, Int.toNat_natCast, up_eq, up_p, up_k, sN,  hN, R_isPrinted hρ ]
    simp (disch := omega) only [e194_25, ks_99, isk_t, i20_t, w20_t, l23_t, b21_t, b22_t, w_t, bif_t, bif_f, bif_d, if_pos, if_neg, Option.bind_some, Option.toList_some, Option.toList_none, List.cons_append, List.nil_append, Int.toNat_natCast, up_eq, up_p, up_k, sN,  ib_or1, ib_or0 ]
    have h2 := ih (k + 1) (by omega)
    by_cases q : WR μ s 8 (k : Int) t = -2
    · rw [if_pos q, if_pos rfl]
      have e : bset (fun p => decide (WR μ s 8 p t ≠ -2)) (k + 1) = bset (fun p => decide (WR μ s 8 p t ≠ -2)) k := by
        show (if decide (WR μ s 8 (k : Int) t ≠ -2) = true then _ else _) = _
        rw [if_neg (by simp [q])]
      rw [e] at h2
      exact h2
    · rw [if_neg q, if_neg (by decide)]
      have e := bset_or (f := fun p => decide (WR μ s 8 p t ≠ -2)) (n := k) (by simp [q])
      rw [← e] at h2
      exact h2
theorem R_whoPrinted (hρ : RM ρ) {s t : Int} (hs0 : 0 ≤ s) (hs : s < 23) (ht0 : 0 ≤ t) (ht : t < 6) (hn : SR μ 0 0 ≤ 7) (hn0 : 0 ≤ SR μ 0 0) : am_E (d + 2) 194 0 [some (.inr (.inr 99)), some (.inl s), some (.inl t), none, none] [] (SH, ρ, μ, cs) = some (some (.inl ((bset (fun p => decide (WR μ s 8 p t ≠ -2)) (men (SR μ)) : Nat) : Int)), (SH, ρ, μ, cs)) := by
  rw [e194_0]
  exact R_whoPrinted_loop hρ hs0 hs ht0 ht hn hn0 (men (SR μ)) 0 (Nat.zero_add _)
theorem R_bitsOf_loop {a : Nat} (ha : a < 2147483648) : ∀ (n k : Nat), k + n = 10 → am_E d 192 4 [some (.inl a), some (.inl (popN a k)), some (.inl k)] [] (sh, ρ, μ, cs) = some (some (.inl (popN a 10)), (sh, ρ, μ, cs)) := by
  intro n
  induction n with
  | zero =>
    intro k hk
    have : k = 10 := by omega
    subst this
    rw [e192_4, bif_d, if_pos (by omega)]
  | succ n ih =>
    intro k hk
    have hp := popN_le a k
    have hp2 := popN_le a (k + 1)
    rw [e192_4, bif_d, if_neg (by omega), nb_bit ha (by omega), w_t (z := (k : Int) + 1) (by omega) (by omega)]
    have e1 : popN a k + (if a.testBit k then 1 else 0) = popN a (k + 1) := rfl
    rw [e1, w_t (by omega) (by omega)]
    exact ih (k + 1) (by omega)
theorem R_bitsOf {a : Nat} (ha : a < 2147483648) : am_E d 192 0 [some (.inl a), none, none] [] (sh, ρ, μ, cs) = some (some (.inl (popN a 10)), (sh, ρ, μ, cs)) := by
  rw [e192_0]
  exact R_bitsOf_loop ha 10 0 rfl
theorem R_bitsSet {f : Int → Bool} {n : Nat} (hn : n ≤ 10) : am_E d 192 0 [some (.inl (bset f n : Nat)), none, none] [] (sh, ρ, μ, cs) = some (some (.inl (cnt f n)), (sh, ρ, μ, cs)) := by
  rw [R_bitsOf (bset_lt31 f hn), popN_bset hn]
/-- how the reference has each bend -/
def bendR (μ : Nat → Nat → Int) : Int → Int := fun p => if μ 99 49 = 3 then 0 else if p = μ 99 51 then μ 99 52 else SR μ 2 p
theorem R_bentOf (hρ : RM ρ) {p : Int} (hp0 : 0 ≤ p) (hp : p < 7) : am_E d 195 0 [some (.inr (.inr 99)), some (.inl p)] [] (SH, ρ, μ, cs) = some (some (.inl (bendR μ p)), (SH, ρ, μ, cs)) := by
  simp (disch := omega) only [e195_0, ks_103, ks_99, rm_bentAs hρ, isk_t, i20_t, w20_t, l23_t, b21_t, b22_t, w_t, bif_t, bif_f, bif_d, if_pos, if_neg, Option.bind_some, Option.toList_some, Option.toList_none, List.cons_append, List.nil_append, Int.toNat_natCast, up_eq, up_p, up_k, sN]
  unfold bendR
  by_cases h1 : μ 99 49 = 3
  · rw [if_neg (fun g => g h1), if_pos h1]
  · rw [if_pos h1, if_neg h1]
    by_cases h2 : p = μ 99 51
    · rw [if_neg (fun g => g h2), if_pos h2]
    · rw [if_pos h2, if_neg h2]
      rfl
end REF
