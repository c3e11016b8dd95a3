/-! THE REFERENCE: the facts, a law's value -/
theorem sr_up {μ : Nat → Nat → Int} {q k : Nat} {v : Int} (h : q < 101 ∨ 118 < q) : SR (am_up μ q k v) = SR μ := by
  funext a j
  unfold SR
  by_cases c : a < 18
  · rw [if_pos c, if_pos c]
    exact up_p (by omega)
  · rw [if_neg c, if_neg c]
theorem wr_up_o {μ : Nat → Nat → Int} {s : Int} {q k : Nat} {v : Int} (h : q < 121 ∨ 130 < q) : WR (am_up μ q k v) s = WR μ s := by
  funext a p t
  unfold WR
  by_cases c : okI a p t
  · rw [if_pos c, if_pos c]
    by_cases c1 : a < 4
    · rw [if_pos c1, if_pos c1]; exact up_p (by omega)
    · rw [if_neg c1, if_neg c1]
      by_cases c2 : a = 4
      · rw [if_pos c2, if_pos c2]; exact up_p (by omega)
      · rw [if_neg c2, if_neg c2]; exact up_p (by omega)
  · rw [if_neg c, if_neg c]
theorem bendR_up {μ : Nat → Nat → Int} {q k : Nat} {v : Int} (h : q ≠ 99 ∧ (q < 101 ∨ 118 < q)) : bendR (am_up μ q k v) = bendR μ := by
  funext p
  unfold bendR
  rw [sr_up h.2, up_p (by omega), up_p (by omega), up_p (by omega)]
theorem lc_gt {x y : Int} : (0 < am_lc x y) = (y < x) := by unfold am_lc; apply propext; split <;> (try split) <;> omega
theorem lc_lt {x y : Int} : (am_lc x y < 0) = (x < y) := by unfold am_lc; apply propext; split <;> (try split) <;> omega
theorem lc_eq {x y : Int} : (am_lc x y = 0) = (x = y) := by unfold am_lc; apply propext; split <;> (try split) <;> omega
theorem lc_le {x y : Int} : (am_lc x y ≤ 0) = (x ≤ y) := by unfold am_lc; apply propext; split <;> (try split) <;> omega
theorem lc_ge {x y : Int} : (0 ≤ am_lc x y) = (y ≤ x) := by unfold am_lc; apply propext; split <;> (try split) <;> omega
theorem w64_t {z : Int} (h0 : -9223372036854775808 ≤ z) (h1 : z < 9223372036854775808) : am_w64 z = z := by
  unfold am_w64
  exact Int.bmod_eq_of_le (by omega) (by omega)
def nam (μ : Nat → Nat → Int) (f : Int → Int) : Nat → Nat → Int := am_up (am_up (am_up (am_up (am_up (am_up (am_up μ 119 0 (f 0)) 119 1 (f 1)) 119 2 (f 2)) 119 3 (f 3)) 119 4 (f 4)) 119 5 (f 5)) 119 6 (f 6)
theorem nam_fr (μ : Nat → Nat → Int) (f : Int → Int) : ∀ q k, q ≠ 119 → nam μ f q k = μ q k := fun q k h => by
  unfold nam
  rw [up_p h, up_p h, up_p h, up_p h, up_p h, up_p h, up_p h]
theorem nam_FrN (μ : Nat → Nat → Int) (f : Int → Int) : FrN μ (nam μ f) := fun q k h => nam_fr μ f q k (by omega)
theorem nam_at (μ : Nat → Nat → Int) (f : Int → Int) {i : Int} (h0 : 0 ≤ i) (h1 : i < 7) : nam μ f 119 i.toNat = f i := by
  have h : i = 0 ∨ i = 1 ∨ i = 2 ∨ i = 3 ∨ i = 4 ∨ i = 5 ∨ i = 6 := by omega
  unfold nam
  rcases h with e | e | e | e | e | e | e <;> subst e <;> simp only [am_up] <;> rfl
/-- the course that the reference takes -/
def CR (μ : Nat → Nat → Int) (byN : Int) : MC := (bendR μ, decide (μ 99 49 ≠ 4), if μ 99 49 = 5 then 1 else if μ 99 49 = 1 then 2 else if byN = 0 ∨ SR μ 0 7 = 0 ∨ SR μ 0 7 = 100 then (if 50 ≤ SR μ 0 7 then 1 else 2) else 0, fun p => (μ 99 53).toNat.testBit p.toNat || decide (μ 99 49 = 2 ∧ p = μ 99 50), fun p => (μ 99 53).toNat.testBit p.toNat, fun _ => true)
section REF
variable {ρ : Nat → Nat → Nat} {μ : Nat → Nat → Int} {cs : Nat × Nat × Nat} {d : Nat} {sh : List (Nat × Nat)}
theorem R_calls (hρ : RM ρ) {s p t ap b D : Int} (hs0 : 0 ≤ s) (hs : s < 23) (hp0 : 0 ≤ p) (hp : p < 7) (ht0 : 0 ≤ t) (ht : t < 6) (hS : SI (SR μ)) (hD : D ≤ 20000) (hW : WI (SR μ) D (WR μ s)) : am_E (d + 3) 196 0 [some (.inr (.inr 99)), some (.inl s), some (.inl p), some (.inl t), some (.inl ap)] [] (SH, ρ, μ, cs) = some (none, (SH, ρ, nam μ (factF (SR μ) (CR μ b) (WR μ s) p t ap), cs)) := by
  have hm : men (SR μ) ≤ 10 := by have := hS.1; unfold men; omega
  have h1 := hW.1
  have h2 := (hW.2.2.2.2.2 p t hp0 hp ht0 ht).2.1
  have h3 := hS.1
  have h3a := h3.1
  have h3b := h3.2
  simp (disch := (first | omega | (simp (disch := omega) only [sr_up, wr_up_o]; omega))) only [e196_0, e196_15, e196_28, e196_51, e196_75, e196_78, e196_80, e196_91, e196_94, ks_119, ks_121, ks_125, ks_126, ks_99, rm_day hρ, rm_hatsOf hρ, rm_names hρ, rm_sinceOf hρ, isk_t, i20_t, w20_t, l23_t, b21_t, b22_t, w_t, bif_t, bif_f, bif_d, if_pos, if_neg, Option.bind_some, Option.toList_some, Option.toList_none, List.cons_append, List.nil_append, Int.toNat_natCast, Int.reduceToNat, up_eq, up_p, up_k, sN,  R_slot, i20_s, wr_hats μ, R_bentOf hρ, R_whoHas hρ, R_whoPrinted hρ, R_bitsSet, sr_up, wr_up_o, bendR_up, wr_day μ, wr_since μ, ks_125, ks_126, ks_119 ]
  rfl
theorem R_hasLaw (hρ : RM ρ) {r : Int} (h0 : 0 ≤ r) (h1 : r < 3) : am_E d 181 0 [some (.inr (.inr 99)), some (.inl r)] [] (SH, ρ, μ, cs) = some (some (.inl (if SR μ 14 r < SR μ 15 r then 1 else 0)), (SH, ρ, μ, cs)) := by
  simp (disch := (first | omega | (simp (disch := omega) only [sr_up, wr_up_o]; omega))) only [e181_0, ks_115, ks_116, ks_99, rm_sumFrom hρ, rm_sumTo hρ, isk_t, i20_t, w20_t, l23_t, b21_t, b22_t, w_t, bif_t, bif_f, bif_d, if_pos, if_neg, Option.bind_some, Option.toList_some, Option.toList_none, List.cons_append, List.nil_append, Int.toNat_natCast, Int.reduceToNat, up_eq, up_p, up_k, sN]
  show (if SR μ 15 r ≤ SR μ 14 r then _ else _) = _
  by_cases q : SR μ 14 r < SR μ 15 r
  · rw [if_pos q, if_neg (by omega)]
  · rw [if_neg q, if_pos (by omega)]
end REF
