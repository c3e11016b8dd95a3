/-! BOTH: what is held together between calls; sums -/
def sumN (f : Int → Int) : Nat → Int
  | 0 => 0
  | n + 1 => sumN f n + f (n : Int)
theorem sumN_congr {f g : Int → Int} : ∀ {n : Nat}, (∀ k : Int, 0 ≤ k → k < n → f k = g k) → sumN f n = sumN g n
  | 0, _ => rfl
  | n + 1, h => by
    show sumN f n + f n = sumN g n + g n
    rw [sumN_congr (fun k h0 h1 => h k h0 (by omega)), h n (by omega) (by omega)]
theorem sumN_add {f g : Int → Int} : ∀ (n : Nat), sumN (fun k => f k + g k) n = sumN f n + sumN g n
  | 0 => rfl
  | n + 1 => by
    show sumN (fun k => f k + g k) n + (f n + g n) = (sumN f n + f n) + (sumN g n + g n)
    rw [sumN_add n]; omega
theorem sumN_zero : ∀ (n : Nat), sumN (fun _ => 0) n = 0
  | 0 => rfl
  | n + 1 => by
    show sumN (fun _ => 0) n + 0 = 0
    rw [sumN_zero n]; rfl
theorem cnt_sum {f : Int → Bool} : ∀ (n : Nat), cnt f n = sumN (fun k => if f k then 1 else 0) n
  | 0 => rfl
  | n + 1 => by
    show cnt f n + _ = sumN _ n + _
    rw [cnt_sum n]
theorem fubini {g : Int → Int → Int} {n : Nat} : ∀ (m : Nat), sumN (fun p => sumN (fun q => g p q) n) m = sumN (fun q => sumN (fun p => g p q) m) n
  | 0 => (sumN_zero n).symm
  | m + 1 => by
    show sumN (fun p => sumN (fun q => g p q) n) m + sumN (fun q => g m q) n = sumN (fun q => sumN (fun p => g p q) m + g m q) n
    rw [fubini m, sumN_add]
theorem sumN_bd {f : Int → Int} {B : Int} : ∀ (n : Nat), (∀ k : Int, 0 ≤ k → k < n → 0 ≤ f k ∧ f k ≤ B) → 0 ≤ sumN f n ∧ sumN f n ≤ B * n
  | 0, _ => by show (0 : Int) ≤ 0 ∧ (0 : Int) ≤ B * ((0 : Nat) : Int); simp
  | n + 1, h => by
    have h1 := sumN_bd n (fun k h0 h1 => h k h0 (by omega))
    have h2 := h n (by omega) (by omega)
    have e : B * ((n + 1 : Nat) : Int) = B * (n : Int) + B := by rw [Int.natCast_add, Int.mul_add]; simp
    show 0 ≤ sumN f n + f n ∧ sumN f n + f n ≤ _
    rw [e]; omega
theorem sumN_cut {f : Int → Int} {n : Nat} : ∀ (m : Nat), (∀ k : Int, (n : Int) ≤ k → k < n + m → f k = 0) → sumN f (n + m) = sumN f n
  | 0, _ => rfl
  | m + 1, h => by
    show sumN f (n + m) + f ((n + m : Nat) : Int) = sumN f n
    rw [sumN_cut m (fun k h0 h1 => h k h0 (by omega)), h _ (by omega) (by omega)]
    omega
/-- what a query may change, in the class and in the reference -/
abbrev ScQ (q k : Nat) : Prop := (64 ≤ q ∧ q ≤ 76) ∨ (94 ≤ q ∧ q ≤ 98) ∨ (q = 99 ∧ (k = 0 ∨ k = 36 ∨ k = 50 ∨ k = 52 ∨ k = 57)) ∨ q = 119 ∨ q = 120 ∨ (121 ≤ q ∧ q ≤ 124 ∧ k = 1) ∨ (q = 130 ∧ 6 ≤ k ∧ k < 12) ∨ (125 ≤ q ∧ q ≤ 129 ∧ 42 ≤ k ∧ k < 84) ∨ (131 ≤ q ∧ q ≤ 133) ∨ q = 139 ∨ q = 140
def FrQ (μ μ' : Nat → Nat → Int) : Prop := ∀ q k, ¬ ScQ q k → μ' q k = μ q k
theorem frq_rf (μ : Nat → Nat → Int) : FrQ μ μ := fun _ _ _ => rfl
theorem frq_tr {a b c : Nat → Nat → Int} (h1 : FrQ a b) (h2 : FrQ b c) : FrQ a c := fun q k h => (h2 q k h).trans (h1 q k h)
theorem frq_a {a b : Nat → Nat → Int} (h : FrA a b) : FrQ a b := fun q k hq => h q k (by omega)
theorem frq_n {a b : Nat → Nat → Int} (h : FrN a b) : FrQ a b := fun q k hq => h q k (by omega)
theorem frq_w {a b : Nat → Nat → Int} (h : FrW 1 a b) : FrQ a b := fun q k hq => h q k (by omega) (by omega)
theorem frq_up {μ μ' : Nat → Nat → Int} {q k : Nat} {v : Int} (h1 : FrQ μ μ') (h : ScQ q k) : FrQ μ (am_up μ' q k v) := fun q' k' h' => by
  rw [am_up_no (fun e => h' (by rw [e.1, e.2]; exact h))]
  exact h1 q' k' h'
theorem frq_t0 (μ : Nat → Nat → Int) (v : Int) : FrQ μ (am_up μ 99 0 v) := frq_up (frq_rf μ) (by omega)
def FrR (ρ ρ' : Nat → Nat → Nat) : Prop := ∀ p k, ¬ (p = 73 ∧ k < 2) → ρ' p k = ρ p k
theorem frr_rf (ρ : Nat → Nat → Nat) : FrR ρ ρ := fun _ _ _ => rfl
theorem frr_tr {a b c : Nat → Nat → Nat} (h1 : FrR a b) (h2 : FrR b c) : FrR a c := fun q k h => (h2 q k h).trans (h1 q k h)
theorem frq_SR {μ μ' : Nat → Nat → Int} (h : FrQ μ μ') : SR μ' = SR μ := by
  funext a k
  unfold SR
  by_cases q : a < 18
  · rw [if_pos q, if_pos q]
    exact h _ _ (by omega)
  · rw [if_neg q, if_neg q]
theorem frq_WR {μ μ' : Nat → Nat → Int} {s : Int} (h : FrQ μ μ') (hs0 : 0 ≤ s) (hs : s ≠ 1) : WR μ' s = WR μ s := by
  funext a p t
  unfold WR
  by_cases q : okI a p t
  · rw [if_pos q, if_pos q]
    by_cases q1 : a < 4
    · rw [if_pos q1, if_pos q1]
      exact h _ _ (by omega)
    · rw [if_neg q1, if_neg q1]
      by_cases q2 : a = 4
      · rw [if_pos q2, if_pos q2]
        exact h _ _ (by unfold sJ; omega)
      · rw [if_neg q2, if_neg q2]
        exact h _ _ (by unfold sI; omega)
  · rw [if_neg q, if_neg q]
/-- the text, the world and what else a query asks: the class (story b, now w, trial u) and the reference alike -/
def RLq (ρ : Nat → Nat → Nat) (μ : Nat → Nat → Int) (b w u : Nat) (S : MS) (W : MW) : Prop := XM ρ ∧ RM ρ ∧ (b = 2 ∨ b = 21) ∧ ρ 0 3 = b ∧ w = 46 ∧ u = 64 ∧ SR μ = S ∧ SI S ∧ XS μ b S ∧ WR μ 0 = W ∧ WI S 10000 W ∧ XW μ w W ∧ W 0 0 0 ≤ 9800 ∧ μ 99 49 = 0 ∧ μ 99 51 = -1 ∧ μ 99 53 = 0
theorem rl_q {ρ ρ' : Nat → Nat → Nat} {μ μ' : Nat → Nat → Int} {b w u : Nat} {S : MS} {W : MW} (h : RLq ρ μ b w u S W) (hr : FrR ρ ρ') (hf : FrQ μ μ') : RLq ρ' μ' b w u S W := by
  obtain ⟨hx, hρ, hb, hgs, hw46, hu64, hSR, hS, hX, hWR, hWI, hW, hday, h49, h51, h53⟩ := h
  refine ⟨xm_fr hx (fun p k h _ _ => hr p k h), rm_fr hρ (fun k => hr 99 k (by omega)), hb, by rw [hr _ _ (by omega)]; exact hgs, hw46, hu64, (frq_SR hf).trans hSR, hS, xs_fr hX (fun q k h0 h1 => hf q k (by omega)), (frq_WR hf (by omega) (by omega)).trans hWR, hWI, xw_fr hW (fun q k h0 h1 => hf q k (by omega)), hday, ?_, ?_, ?_⟩
  · rw [hf _ _ (by omega)]; exact h49
  · rw [hf _ _ (by omega)]; exact h51
  · rw [hf _ _ (by omega)]; exact h53
/-- the reference's courses -/
theorem cr_gc {ρ : Nat → Nat → Nat} {μ : Nat → Nat → Int} {b w u : Nat} {S : MS} {W : MW} (h : RLq ρ μ b w u S W) : GC S (CR μ 0) (kG S) ∧ GC S (CR μ 1) (kN S) := by
  obtain ⟨hx, hρ, hb, hgs, hw46, hu64, hSR, hS, hX, hWR, hWI, hW, hday, h49, h51, h53⟩ := h
  have b7 := hS.2.2.2.2.2.2.2.1
  have e1 : ∀ p : Int, 0 ≤ p → bendR μ p = S 2 p := fun p p0 => by
    unfold bendR
    rw [if_neg (by omega), if_neg (by omega), hSR]
  have e2 : ∀ p : Int, ((μ 99 53).toNat.testBit p.toNat || decide (μ 99 49 = 2 ∧ p = μ 99 50)) = false := fun p => by
    rw [h53, h49]
    simp
  have e3 : ∀ p : Int, (μ 99 53).toNat.testBit p.toNat = false := fun p => by
    rw [h53]
    simp
  have e4 : decide (μ 99 49 ≠ 4) = true := by rw [h49]; decide
  refine ⟨⟨?_, e4, fun p p0 _ => e1 p p0, fun t _ _ => rfl, fun p _ _ => e2 p, fun p _ _ => e3 p⟩, ⟨?_, e4, fun p p0 _ => e1 p p0, fun t _ _ => rfl, fun p _ _ => e2 p, fun p _ _ => e3 p⟩⟩
  · show (if μ 99 49 = 5 then 1 else if μ 99 49 = 1 then 2 else if (0 : Int) = 0 ∨ SR μ 0 7 = 0 ∨ SR μ 0 7 = 100 then (if 50 ≤ SR μ 0 7 then 1 else 2) else 0) = kG S
    rw [if_neg (by omega), if_neg (by omega), if_pos (Or.inl rfl), hSR]
    all_goals rfl
  · show (if μ 99 49 = 5 then 1 else if μ 99 49 = 1 then 2 else if (1 : Int) = 0 ∨ SR μ 0 7 = 0 ∨ SR μ 0 7 = 100 then (if 50 ≤ SR μ 0 7 then 1 else 2) else 0) = kN S
    rw [if_neg (by omega), if_neg (by omega), hSR]
    unfold kN
    by_cases q : 0 < S 0 7 ∧ S 0 7 < 100
    · rw [if_pos q, if_neg (by omega)]
    · rw [if_neg q, if_pos (by omega)]
      all_goals rfl
theorem gc_ci {S : MS} {C : MC} {k : Nat} (hS : SI S) (h : GC S C k) : CI S C := fun p p0 p1 => by
  rw [h.2.2.1 p p0 p1]
  exact hS.2.2.2.2.2.2.2.2.2.2.1 p p0 p1
theorem kG_3 (S : MS) : kG S < 3 := by unfold kG; split <;> omega
theorem kN_3 (S : MS) : kN S < 3 := by
  have := kG_3 S
  unfold kN
  split <;> omega
