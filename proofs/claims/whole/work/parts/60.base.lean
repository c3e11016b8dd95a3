/-! THE REFERENCE'S STATE, read as functions: the text (SR), a town (WR) -/
abbrev MW : Type := Nat → Int → Int → Int
abbrev MS : Type := Nat → Int → Int
def SR (μ : Nat → Nat → Int) : MS := fun a k => if a < 18 then μ (101 + a) k.toNat else 0
/-- the place of a town's person and thing -/
def sI (s p t : Int) : Nat := (42 * s + 6 * p + t).toNat
def sJ (s t : Int) : Nat := (6 * s + t).toNat
abbrev okI (a : Nat) (p t : Int) : Prop := (a < 4 ∧ p = 0 ∧ t = 0) ∨ (a = 4 ∧ p = 0 ∧ 0 ≤ t ∧ t < 6) ∨ (5 ≤ a ∧ a ≤ 9 ∧ 0 ≤ p ∧ p < 7 ∧ 0 ≤ t ∧ t < 6)
def WR (μ : Nat → Nat → Int) (s : Int) : MW := fun a p t => if okI a p t then (if a < 4 then μ (121 + a) s.toNat else if a = 4 then μ 130 (sJ s t) else μ (120 + a) (sI s p t)) else 0
def wp (W : MW) (a : Nat) (p t v : Int) : MW := fun a' p' t' => if a' = a ∧ p' = p ∧ t' = t then v else W a' p' t'
theorem sN (z : Int) : ((z.toNat : Nat) : Int) = max z 0 := Int.toNat_eq_max z
theorem wp_eq {W : MW} {a : Nat} {p t v : Int} : wp W a p t v a p t = v := by unfold wp; rw [if_pos ⟨rfl, rfl, rfl⟩]
theorem wp_ne {W : MW} {a a' : Nat} {p t v p' t' : Int} (h : a' ≠ a ∨ p' ≠ p ∨ t' ≠ t) : wp W a p t v a' p' t' = W a' p' t' := by
  unfold wp
  rw [if_neg (by omega)]
theorem wr_day (μ : Nat → Nat → Int) (s : Int) : μ 121 s.toNat = WR μ s 0 0 0 := rfl
theorem wr_num (μ : Nat → Nat → Int) (s : Int) : μ 122 s.toNat = WR μ s 1 0 0 := rfl
theorem wr_space (μ : Nat → Nat → Int) (s : Int) : μ 123 s.toNat = WR μ s 2 0 0 := rfl
theorem wr_idle (μ : Nat → Nat → Int) (s : Int) : μ 124 s.toNat = WR μ s 3 0 0 := rfl
theorem wr_news (μ : Nat → Nat → Int) (s : Int) {t : Int} (h0 : 0 ≤ t) (h1 : t < 6) : μ 130 (sJ s t) = WR μ s 4 0 t := by
  unfold WR
  rw [if_pos (by omega), if_neg (by omega), if_pos rfl]
theorem wr_rows (μ : Nat → Nat → Int) (s : Int) {a : Nat} {p t : Int} (ha : 5 ≤ a) (hb : a ≤ 9) (h0 : 0 ≤ t) (h1 : t < 6) (h2 : 0 ≤ p) (h3 : p < 7) : μ (120 + a) (sI s p t) = WR μ s a p t := by
  unfold WR
  rw [if_pos (by omega), if_neg (by omega), if_neg (by omega)]
theorem wr_hats (μ : Nat → Nat → Int) (s : Int) {p t : Int} (h0 : 0 ≤ t) (h1 : t < 6) (h2 : 0 ≤ p) (h3 : p < 7) : μ 125 (sI s p t) = WR μ s 5 p t := wr_rows μ s (a := 5) (by decide) (by decide) h0 h1 h2 h3
theorem wr_since (μ : Nat → Nat → Int) (s : Int) {p t : Int} (h0 : 0 ≤ t) (h1 : t < 6) (h2 : 0 ≤ p) (h3 : p < 7) : μ 126 (sI s p t) = WR μ s 6 p t := wr_rows μ s (a := 6) (by decide) (by decide) h0 h1 h2 h3
theorem wr_from (μ : Nat → Nat → Int) (s : Int) {p t : Int} (h0 : 0 ≤ t) (h1 : t < 6) (h2 : 0 ≤ p) (h3 : p < 7) : μ 127 (sI s p t) = WR μ s 7 p t := wr_rows μ s (a := 7) (by decide) (by decide) h0 h1 h2 h3
theorem wr_pH (μ : Nat → Nat → Int) (s : Int) {p t : Int} (h0 : 0 ≤ t) (h1 : t < 6) (h2 : 0 ≤ p) (h3 : p < 7) : μ 128 (sI s p t) = WR μ s 8 p t := wr_rows μ s (a := 8) (by decide) (by decide) h0 h1 h2 h3
theorem wr_pC (μ : Nat → Nat → Int) (s : Int) {p t : Int} (h0 : 0 ≤ t) (h1 : t < 6) (h2 : 0 ≤ p) (h3 : p < 7) : μ 129 (sI s p t) = WR μ s 9 p t := wr_rows μ s (a := 9) (by decide) (by decide) h0 h1 h2 h3
/-- a town's cells -/
abbrev FrT (s : Int) (q k : Nat) : Prop := (121 ≤ q ∧ q ≤ 124 ∧ k = s.toNat) ∨ (q = 130 ∧ (6 * s).toNat ≤ k ∧ k < (6 * s).toNat + 6) ∨ (125 ≤ q ∧ q ≤ 129 ∧ (42 * s).toNat ≤ k ∧ k < (42 * s).toNat + 42)
/-- what is only worked with -/
abbrev FrS (q k : Nat) : Prop := q = 119 ∨ q = 120 ∨ (q = 99 ∧ k = 36)
/-- nothing but a town and what is worked with has changed -/
def FrW (s : Int) (μ μ' : Nat → Nat → Int) : Prop := ∀ q k, ¬ FrT s q k → ¬ FrS q k → μ' q k = μ q k
def FrN (μ μ' : Nat → Nat → Int) : Prop := ∀ q k, ¬ FrS q k → μ' q k = μ q k
theorem frn_rf (μ : Nat → Nat → Int) : FrN μ μ := fun _ _ _ => rfl
theorem frn_tr {a b c : Nat → Nat → Int} (h1 : FrN a b) (h2 : FrN b c) : FrN a c := fun q k h => (h2 q k h).trans (h1 q k h)
theorem frn_up {μ : Nat → Nat → Int} {q k : Nat} {v : Int} (h : FrS q k) : FrN μ (am_up μ q k v) := fun q' k' h' => am_up_no (fun e => h' (by rw [e.1, e.2]; exact h))
theorem frn_up2 {μ μ' : Nat → Nat → Int} {q k : Nat} {v : Int} (h1 : FrN μ μ') (h : FrS q k) : FrN μ (am_up μ' q k v) := frn_tr h1 (frn_up h)
theorem frw_rf (s : Int) (μ : Nat → Nat → Int) : FrW s μ μ := fun _ _ _ _ => rfl
theorem frw_tr {s : Int} {a b c : Nat → Nat → Int} (h1 : FrW s a b) (h2 : FrW s b c) : FrW s a c := fun q k h h' => (h2 q k h h').trans (h1 q k h h')
theorem frw_up {s : Int} {μ μ' : Nat → Nat → Int} {q k : Nat} {v : Int} (h1 : FrW s μ μ') (h : FrT s q k ∨ FrS q k) : FrW s μ (am_up μ' q k v) := fun q' k' ha hb => by
  rw [am_up_no (fun e => by
    rw [e.1, e.2] at ha hb
    exact h.elim ha hb)]
  exact h1 q' k' ha hb
theorem frw_n {s : Int} {a b : Nat → Nat → Int} (h : FrN a b) : FrW s a b := fun q k _ h2 => h q k h2
theorem frn_SR {μ μ' : Nat → Nat → Int} (h : FrN μ μ') : SR μ' = SR μ := by
  funext a k
  unfold SR
  by_cases q : a < 18
  · rw [if_pos q, if_pos q]
    exact h _ _ (by omega)
  · rw [if_neg q, if_neg q]
theorem frw_SR {s : Int} {μ μ' : Nat → Nat → Int} (h : FrW s μ μ') : SR μ' = SR μ := by
  funext a k
  unfold SR
  by_cases q : a < 18
  · rw [if_pos q, if_pos q]
    exact h _ _ (by omega) (by omega)
  · rw [if_neg q, if_neg q]
theorem frn_WR {s : Int} {μ μ' : Nat → Nat → Int} (h : FrN μ μ') : WR μ' s = WR μ s := by
  funext a p t
  unfold WR
  by_cases q : okI a p t
  · rw [if_pos q, if_pos q]
    by_cases q1 : a < 4
    · rw [if_pos q1, if_pos q1]
      exact h _ _ (by omega)
    · rw [if_neg q1, if_neg q1]
      by_cases q2 : a = 4
      · rw [if_pos q2, if_pos q2]
        exact h _ _ (by omega)
      · rw [if_neg q2, if_neg q2]
        exact h _ _ (by omega)
  · rw [if_neg q, if_neg q]
/-- another town stays -/
theorem frw_WR {s s' : Int} {μ μ' : Nat → Nat → Int} (h : FrW s μ μ') (h0 : 0 ≤ s) (h1 : 0 ≤ s') (hne : s' ≠ s) : WR μ' s' = WR μ s' := by
  funext a p t
  unfold WR
  by_cases q : okI a p t
  · rw [if_pos q, if_pos q]
    by_cases q1 : a < 4
    · rw [if_pos q1, if_pos q1]
      exact h _ _ (by omega) (by omega)
    · rw [if_neg q1, if_neg q1]
      by_cases q2 : a = 4
      · rw [if_pos q2, if_pos q2]
        exact h _ _ (by unfold sJ; omega) (by omega)
      · rw [if_neg q2, if_neg q2]
        exact h _ _ (by unfold sI; omega) (by omega)
  · rw [if_neg q, if_neg q]
theorem wr_up_s {μ : Nat → Nat → Int} {s : Int} {a : Nat} {v : Int} (ha : a < 4) : WR (am_up μ (121 + a) s.toNat v) s = wp (WR μ s) a 0 0 v := by
  funext a' p t
  unfold WR wp am_up
  dsimp only
  by_cases q : okI a' p t
  · rw [if_pos q, if_pos q]
    by_cases q1 : a' < 4
    · rw [if_pos q1, if_pos q1]
      by_cases q2 : a' = a
      · rw [if_pos (by omega), if_pos (by omega)]
      · rw [if_neg (by omega), if_neg (by omega)]
    · rw [if_neg q1, if_neg q1, if_neg (c := a' = a ∧ _) (by omega)]
      by_cases q2 : a' = 4
      · rw [if_pos q2, if_pos q2, if_neg (by omega)]
      · rw [if_neg q2, if_neg q2, if_neg (by omega)]
  · rw [if_neg q, if_neg q, if_neg (by omega)]
theorem wr_up_news {μ : Nat → Nat → Int} {s t0 : Int} {v : Int} (hs : 0 ≤ s) (h0 : 0 ≤ t0) (h1 : t0 < 6) : WR (am_up μ 130 (sJ s t0) v) s = wp (WR μ s) 4 0 t0 v := by
  funext a' p t
  unfold WR wp am_up
  dsimp only
  by_cases q : okI a' p t
  · rw [if_pos q, if_pos q]
    by_cases q1 : a' < 4
    · rw [if_pos q1, if_pos q1, if_neg (by omega), if_neg (by omega)]
    · rw [if_neg q1, if_neg q1]
      by_cases q2 : a' = 4
      · rw [if_pos q2, if_pos q2]
        by_cases q3 : t = t0
        · rw [if_pos (by unfold sJ; omega), if_pos (by omega)]
        · rw [if_neg (by unfold sJ; omega), if_neg (by omega)]
      · rw [if_neg q2, if_neg q2, if_neg (by omega), if_neg (by omega)]
  · rw [if_neg q, if_neg q, if_neg (by omega)]
theorem wr_up_row {μ : Nat → Nat → Int} {s p0 t0 : Int} {a : Nat} {v : Int} (ha : 5 ≤ a) (hb : a ≤ 9) (hs : 0 ≤ s) (h0 : 0 ≤ t0) (h1 : t0 < 6) (h2 : 0 ≤ p0) (h3 : p0 < 7) : WR (am_up μ (120 + a) (sI s p0 t0) v) s = wp (WR μ s) a p0 t0 v := by
  funext a' p t
  unfold WR wp am_up
  dsimp only
  by_cases q : okI a' p t
  · rw [if_pos q, if_pos q]
    by_cases q1 : a' < 4
    · rw [if_pos q1, if_pos q1, if_neg (by omega), if_neg (by omega)]
    · rw [if_neg q1, if_neg q1]
      by_cases q2 : a' = 4
      · rw [if_pos q2, if_pos q2, if_neg (by omega), if_neg (by omega)]
      · rw [if_neg q2, if_neg q2]
        by_cases q3 : a' = a ∧ p = p0 ∧ t = t0
        · obtain ⟨e1, e2, e3⟩ := q3
          subst e1 e2 e3
          rw [if_pos ⟨rfl, rfl⟩, if_pos ⟨rfl, rfl, rfl⟩]
        · rw [if_neg (by unfold sI; omega), if_neg q3]
  · rw [if_neg q, if_neg q, if_neg (by omega)]
theorem wr_up_day {μ : Nat → Nat → Int} {s v : Int} : WR (am_up μ 121 s.toNat v) s = wp (WR μ s) 0 0 0 v := wr_up_s (a := 0) (by decide)
theorem wr_up_num {μ : Nat → Nat → Int} {s v : Int} : WR (am_up μ 122 s.toNat v) s = wp (WR μ s) 1 0 0 v := wr_up_s (a := 1) (by decide)
theorem wr_up_space {μ : Nat → Nat → Int} {s v : Int} : WR (am_up μ 123 s.toNat v) s = wp (WR μ s) 2 0 0 v := wr_up_s (a := 2) (by decide)
theorem wr_up_idle {μ : Nat → Nat → Int} {s v : Int} : WR (am_up μ 124 s.toNat v) s = wp (WR μ s) 3 0 0 v := wr_up_s (a := 3) (by decide)
theorem wr_up_hats {μ : Nat → Nat → Int} {s p t v : Int} (hs : 0 ≤ s) (h0 : 0 ≤ t) (h1 : t < 6) (h2 : 0 ≤ p) (h3 : p < 7) : WR (am_up μ 125 (sI s p t) v) s = wp (WR μ s) 5 p t v := wr_up_row (a := 5) (by decide) (by decide) hs h0 h1 h2 h3
theorem wr_up_since {μ : Nat → Nat → Int} {s p t v : Int} (hs : 0 ≤ s) (h0 : 0 ≤ t) (h1 : t < 6) (h2 : 0 ≤ p) (h3 : p < 7) : WR (am_up μ 126 (sI s p t) v) s = wp (WR μ s) 6 p t v := wr_up_row (a := 6) (by decide) (by decide) hs h0 h1 h2 h3
theorem wr_up_from {μ : Nat → Nat → Int} {s p t v : Int} (hs : 0 ≤ s) (h0 : 0 ≤ t) (h1 : t < 6) (h2 : 0 ≤ p) (h3 : p < 7) : WR (am_up μ 127 (sI s p t) v) s = wp (WR μ s) 7 p t v := wr_up_row (a := 7) (by decide) (by decide) hs h0 h1 h2 h3
theorem wr_up_pH {μ : Nat → Nat → Int} {s p t v : Int} (hs : 0 ≤ s) (h0 : 0 ≤ t) (h1 : t < 6) (h2 : 0 ≤ p) (h3 : p < 7) : WR (am_up μ 128 (sI s p t) v) s = wp (WR μ s) 8 p t v := wr_up_row (a := 8) (by decide) (by decide) hs h0 h1 h2 h3
theorem wr_up_pC {μ : Nat → Nat → Int} {s p t v : Int} (hs : 0 ≤ s) (h0 : 0 ≤ t) (h1 : t < 6) (h2 : 0 ≤ p) (h3 : p < 7) : WR (am_up μ 129 (sI s p t) v) s = wp (WR μ s) 9 p t v := wr_up_row (a := 9) (by decide) (by decide) hs h0 h1 h2 h3
/-- what a run comes to, with what holds then -/
def Ok (x : Option am_Res) (Q : Option am_V → am_H → Prop) : Prop := ∃ v h, x = some (v, h) ∧ Q v h
theorem ok_some {v : Option am_V} {h : am_H} {Q : Option am_V → am_H → Prop} (q : Q v h) : Ok (some (v, h)) Q := ⟨v, h, rfl, q⟩
theorem ok_of {x y : Option am_Res} {Q : Option am_V → am_H → Prop} (e : x = y) (q : Ok y Q) : Ok x Q := by rw [e]; exact q
theorem ok_bind {x : Option am_Res} {f : am_Res → Option am_Res} {Q : Option am_V → am_H → Prop} (q : Ok x (fun v h => Ok (f (v, h)) Q)) : Ok (x.bind f) Q := by
  obtain ⟨v, h, e, q⟩ := q
  rw [e]
  exact q
theorem ok_call {x : Option am_Res} {f : am_Res → Option am_Res} {P Q : Option am_V → am_H → Prop} (q : Ok x P) (hh : ∀ v h, P v h → Ok (f (v, h)) Q) : Ok (x.bind f) Q := by
  obtain ⟨v, h, e, q⟩ := q
  rw [e]
  exact hh v h q
theorem ok_mono {x : Option am_Res} {P Q : Option am_V → am_H → Prop} (q : Ok x P) (hh : ∀ v h, P v h → Q v h) : Ok x Q := by
  obtain ⟨v, h, e, q⟩ := q
  exact ⟨v, h, e, hh v h q⟩
theorem ok_le {d m pc : Nat} {lv lv' : am_L} {st : List am_V} {h : am_H} {Q : Option am_V → am_H → Prop} (q : Ok (am_E d m pc lv st h) Q) (hle : am_leb lv lv') : Ok (am_E d m pc lv' st h) Q := by
  obtain ⟨v, h', e, q⟩ := q
  exact ⟨v, h', am_E_le (am_lq_of _ _ hle) e, q⟩
theorem ok_eq {x : Option am_Res} {v : Option am_V} {h : am_H} (q : Ok x (fun v' h' => v' = v ∧ h' = h)) : x = some (v, h) := by
  obtain ⟨v', h', e, q1, q2⟩ := q
  rw [e, q1, q2]
/-- bits, counted by whole numbers -/
theorem ib_bit {a : Nat} {k : Int} (ha : a < 2147483648) (h0 : 0 ≤ k) (h1 : k < 32) : am_and (am_shr (a : Int) k) 1 = if a.testBit k.toNat then 1 else 0 := by
  have h := nb_bit (a := a) (k := k.toNat) ha (by omega)
  rw [Int.toNat_of_nonneg h0] at h
  exact h
theorem ib_one {k : Int} (h0 : 0 ≤ k) (h1 : k < 31) : am_shl 1 k = ((2 ^ k.toNat : Nat) : Int) := by
  have h := nb_one (k := k.toNat) (by omega)
  rw [Int.toNat_of_nonneg h0] at h
  exact h
/-- the set of those below n for which f holds -/
def bset (f : Int → Bool) : Nat → Nat
  | 0 => 0
  | n + 1 => if f (n : Int) then bset f n + 2 ^ n else bset f n
theorem bset_lt (f : Int → Bool) (n : Nat) : bset f n < 2 ^ n := by
  induction n with
  | zero => exact Nat.one_pos
  | succ n ih =>
    unfold bset
    split <;> omega
theorem bset_bit (f : Int → Bool) (n k : Nat) : (bset f n).testBit k = (decide (k < n) && f (k : Int)) := by
  induction n with
  | zero => simp [bset]
  | succ n ih =>
    unfold bset
    have hl := bset_lt f n
    split
    · rename_i hf
      rw [Nat.add_comm]
      by_cases e : k = n
      · subst e
        rw [Nat.testBit_two_pow_add_eq, Nat.testBit_lt_two_pow hl, hf]
        simp
      · rcases Nat.lt_or_gt_of_ne e with q | q
        · rw [Nat.testBit_two_pow_add_gt q, ih]
          simp [q, Nat.lt_succ_of_lt q]
        · rw [Nat.testBit_lt_two_pow (Nat.lt_of_lt_of_le (show 2 ^ n + bset f n < 2 ^ (n + 1) by omega) (Nat.pow_le_pow_right (by decide) q))]
          have : ¬ k < n + 1 := by omega
          simp [this]
    · rename_i hf
      rw [ih]
      by_cases e : k = n
      · subst e
        simp [hf]
      · have : (k < n) ↔ (k < n + 1) := by omega
        simp [this]
theorem bset_or {f : Int → Bool} {n : Nat} (hf : f (n : Int) = true) : bset f n ||| 2 ^ n = bset f (n + 1) := by
  have e : bset f (n + 1) = bset f n + 2 ^ n := by
    show (if f (n : Int) then bset f n + 2 ^ n else bset f n) = _
    rw [if_pos hf]
  rw [e, Nat.add_comm, Nat.or_comm]
  have h := Nat.two_pow_add_eq_or_of_lt (i := n) (b := bset f n) (bset_lt f n) 1
  rw [Nat.mul_one] at h
  exact h.symm
/-- how many of the first n are in a set -/
def popN (a : Nat) : Nat → Int
  | 0 => 0
  | n + 1 => popN a n + (if a.testBit n then 1 else 0)
theorem popN_le (a n : Nat) : 0 ≤ popN a n ∧ popN a n ≤ n := by
  induction n with
  | zero => exact ⟨Int.le_refl _, Int.le_refl _⟩
  | succ n ih =>
    unfold popN
    split <;> omega
