/-! THE CLASS: what its worlds and stories stand for -/
def cI (p t : Int) : Nat := (6 * p + t).toNat
/-- a world of the class stands for W: what nobody has, or what isn't printed, may hold anything -/
def XW (μ : Nat → Nat → Int) (w : Nat) (W : MW) : Prop := (μ w 0 = W 0 0 0 ∧ μ w 1 = W 1 0 0 ∧ μ w 2 = W 2 0 0 ∧ μ w 3 = W 3 0 0)
  ∧ (∀ t : Int, 0 ≤ t → t < 6 → μ (w + 1) t.toNat = W 4 0 t ∧ 0 ≤ μ (w + 3) t.toNat ∧ μ (w + 3) t.toNat < 128)
  ∧ (∀ p : Int, 0 ≤ p → p < 7 → 0 ≤ μ (w + 2) p.toNat ∧ μ (w + 2) p.toNat < 64)
  ∧ (∀ p t : Int, 0 ≤ p → p < 7 → 0 ≤ t → t < 6 → ((μ (w + 2) p.toNat).toNat.testBit t.toNat = decide (W 5 p t ≠ -1)) ∧ ((μ (w + 3) t.toNat).toNat.testBit p.toNat = decide (W 8 p t ≠ -2))
    ∧ (W 5 p t ≠ -1 → μ (w + 4) (cI p t) = W 5 p t ∧ μ (w + 5) (cI p t) = W 6 p t ∧ μ (w + 6) (cI p t) = W 7 p t)
    ∧ (W 8 p t ≠ -2 → μ (w + 7) (cI p t) = W 8 p t ∧ μ (w + 8) (cI p t) = W 9 p t))
/-- the signs' numbers -/
def KC (s c : Int) : Prop := (s = 43 ∧ c = 28) ∨ (s = 45 ∧ c = 29) ∨ (s = 42 ∧ c = 30) ∨ (s = 47 ∧ c = 31) ∨ (s = 60 ∧ c = 32) ∨ (s = 256 ∧ c = 33) ∨ (s = 61 ∧ c = 34) ∨ (s = 257 ∧ c = 35) ∨ (s = 258 ∧ c = 36) ∨ (s = 62 ∧ c = 37) ∨ (s = 260 ∧ c = 20) ∨ (s = 261 ∧ c = 21) ∨ (s = 262 ∧ c = 22)
/-- a story of the class stands for S -/
def XS (μ : Nat → Nat → Int) (b : Nat) (S : MS) : Prop := (μ b 0 = S 0 0 ∧ μ b 3 = S 0 1 ∧ μ b 8 = S 0 3 ∧ μ b 12 = S 0 4)
  ∧ (μ (b + 13) 0 = S 0 5 ∧ μ (b + 13) 1 = S 0 6 ∧ μ (b + 13) 2 = S 0 7 ∧ μ (b + 13) 3 = S 0 8 ∧ μ (b + 14) 0 = S 0 9)
  ∧ (∀ k : Int, 0 ≤ k → k < S 0 0 → μ (b + 1) k.toNat = S 1 k ∧ μ (b + 2) k.toNat = S 2 k)
  ∧ (∀ k : Int, 0 ≤ k → k < S 0 1 → μ (b + 3) k.toNat = S 3 k ∧ μ (b + 4) k.toNat = S 4 k ∧ μ (b + 5) k.toNat = S 5 k ∧ (0 ≤ μ (b + 6) k.toNat ∧ μ (b + 6) k.toNat < 128) ∧ ∀ p : Int, 0 ≤ p → p < 7 → (μ (b + 6) k.toNat).toNat.testBit p.toNat = seeB S p k (S 0 2).toNat 0)
  ∧ (∀ k : Int, 0 ≤ k → k < S 0 3 → μ (b + 7) k.toNat = S 8 k ∧ μ (b + 8) k.toNat = S 9 k ∧ μ (b + 9) k.toNat = S 10 k)
  ∧ (∀ k : Int, 0 ≤ k → k < S 0 4 → μ (b + 10) k.toNat = S 11 k ∧ μ (b + 11) k.toNat = S 12 k ∧ μ (b + 12) k.toNat = S 13 k)
  ∧ (∀ r : Int, 0 ≤ r → r < 3 → μ (b + 17) r.toNat = S 14 r ∧ μ (b + 18) r.toNat = S 15 r)
  ∧ (∀ r k : Int, 0 ≤ r → r < 3 → S 14 r ≤ k → k < S 15 r → (S 16 k = 0 → μ (b + 15) k.toNat = 24 ∧ μ (b + 16) k.toNat = S 17 k) ∧ (S 16 k = 1 → μ (b + 15) k.toNat = 13 ∧ μ (b + 16) k.toNat = S 17 k) ∧ (S 16 k = 2 → KC (S 17 k) (μ (b + 15) k.toNat)))
/-- only a world has changed -/
def FrV (w : Nat) (μ μ' : Nat → Nat → Int) : Prop := ∀ q k, ¬ (w ≤ q ∧ q < w + 9) → μ' q k = μ q k
/-- only a world and what the course works with -/
def FrX (w : Nat) (μ μ' : Nat → Nat → Int) : Prop := ∀ q k, ¬ (w ≤ q ∧ q < w + 9) → q ≠ 74 → q ≠ 75 → μ' q k = μ q k
theorem frv_rf (w : Nat) (μ : Nat → Nat → Int) : FrV w μ μ := fun _ _ _ => rfl
theorem frv_tr {w : Nat} {a b c : Nat → Nat → Int} (h1 : FrV w a b) (h2 : FrV w b c) : FrV w a c := fun q k h => (h2 q k h).trans (h1 q k h)
theorem frx_rf (w : Nat) (μ : Nat → Nat → Int) : FrX w μ μ := fun _ _ _ _ _ => rfl
theorem frx_tr {w : Nat} {a b c : Nat → Nat → Int} (h1 : FrX w a b) (h2 : FrX w b c) : FrX w a c := fun q k h h' h'' => (h2 q k h h' h'').trans (h1 q k h h' h'')
theorem frx_v {w : Nat} {a b : Nat → Nat → Int} (h : FrV w a b) : FrX w a b := fun q k h1 _ _ => h q k h1
theorem xs_fr {μ μ' : Nat → Nat → Int} {b : Nat} {S : MS} (h : XS μ b S) (hf : ∀ q k, b ≤ q → q < b + 19 → μ' q k = μ q k) : XS μ' b S := by
  obtain ⟨⟨a1, a2, a3, a4⟩, ⟨a5, a6, a7, a8, a9⟩, c1, c2, c3, c4, c5, c6⟩ := h
  refine ⟨⟨?_, ?_, ?_, ?_⟩, ⟨?_, ?_, ?_, ?_, ?_⟩, fun k h0 h1 => ?_, fun k h0 h1 => ?_, fun k h0 h1 => ?_, fun k h0 h1 => ?_, fun k h0 h1 => ?_, fun r k h0 h1 h2 h3 => ?_⟩
  all_goals (repeat rw [hf _ _ (by omega) (by omega)])
  · exact a1
  · exact a2
  · exact a3
  · exact a4
  · exact a5
  · exact a6
  · exact a7
  · exact a8
  · exact a9
  · exact c1 k h0 h1
  · exact c2 k h0 h1
  · exact c3 k h0 h1
  · exact c4 k h0 h1
  · exact c5 k h0 h1
  · exact c6 r k h0 h1 h2 h3
theorem xs_x {μ μ' : Nat → Nat → Int} {b w : Nat} {S : MS} (h : XS μ b S) (hb : b = 2 ∨ b = 21) (hw : w = 46 ∨ w = 55 ∨ w = 64) (hf : FrX w μ μ') : XS μ' b S := xs_fr h (fun q k h0 h1 => hf q k (by omega) (by omega) (by omega))
theorem xw_fr {μ μ' : Nat → Nat → Int} {w : Nat} {W : MW} (h : XW μ w W) (hf : ∀ q k, w ≤ q → q < w + 9 → μ' q k = μ q k) : XW μ' w W := by
  obtain ⟨⟨a1, a2, a3, a4⟩, c1, c2, c3⟩ := h
  refine ⟨⟨?_, ?_, ?_, ?_⟩, fun t h0 h1 => ?_, fun p h0 h1 => ?_, fun p t h0 h1 h2 h3 => ?_⟩
  all_goals (repeat rw [hf _ _ (by omega) (by omega)])
  · exact a1
  · exact a2
  · exact a3
  · exact a4
  · exact c1 t h0 h1
  · exact c2 p h0 h1
  · exact c3 p t h0 h1 h2 h3
theorem xw_x {μ μ' : Nat → Nat → Int} {v w : Nat} {W : MW} (h : XW μ v W) (hv : v = 46 ∨ v = 55 ∨ v = 64) (hw : w = 46 ∨ w = 55 ∨ w = 64) (hn : v ≠ w) (hf : FrX w μ μ') : XW μ' v W := xw_fr h (fun q k h0 h1 => hf q k (by omega) (by omega) (by omega))
theorem zb_bit {z k : Int} (h0 : 0 ≤ z) (h1 : z < 2147483648) (k0 : 0 ≤ k) (k1 : k < 32) : am_and (am_shr z k) 1 = if z.toNat.testBit k.toNat = true then 1 else 0 := by
  have h := ib_bit (a := z.toNat) (k := k) (by omega) k0 k1
  rw [Int.toNat_of_nonneg h0] at h
  exact h
theorem zb_or1 {z k : Int} (h0 : 0 ≤ z) (h1 : z < 2147483648) (k0 : 0 ≤ k) (k1 : k < 31) : am_or z (am_shl 1 k) = ((z.toNat ||| 2 ^ k.toNat : Nat) : Int) := by
  have h := ib_or1 (a := z.toNat) (k := k) (by omega) k0 k1
  rw [Int.toNat_of_nonneg h0] at h
  exact h
section XR
variable {μ : Nat → Nat → Int} {w : Nat} {W : MW}
theorem xw_day (h : XW μ w W) : μ w 0 = W 0 0 0 := h.1.1
theorem xw_num (h : XW μ w W) : μ w 1 = W 1 0 0 := h.1.2.1
theorem xw_space (h : XW μ w W) : μ w 2 = W 2 0 0 := h.1.2.2.1
theorem xw_idle (h : XW μ w W) : μ w 3 = W 3 0 0 := h.1.2.2.2
theorem xw_news (h : XW μ w W) {t : Int} (h0 : 0 ≤ t) (h1 : t < 6) : μ (w + 1) t.toNat = W 4 0 t := (h.2.1 t h0 h1).1
theorem xw_hold (h : XW μ w W) {p t : Int} (p0 : 0 ≤ p) (p1 : p < 7) (h0 : 0 ≤ t) (h1 : t < 6) : am_and (am_shr (μ (w + 2) p.toNat) t) 1 = if W 5 p t = -1 then 0 else 1 := by
  have b := h.2.2.1 p p0 p1
  rw [zb_bit b.1 (by omega) h0 (by omega), (h.2.2.2 p t p0 p1 h0 h1).1]
  by_cases q : W 5 p t = -1 <;> simp [q]
theorem xw_prt (h : XW μ w W) {p t : Int} (p0 : 0 ≤ p) (p1 : p < 7) (h0 : 0 ≤ t) (h1 : t < 6) : am_and (am_shr (μ (w + 3) t.toNat) p) 1 = if W 8 p t = -2 then 0 else 1 := by
  have b := h.2.1 t h0 h1
  rw [zb_bit b.2.1 (by omega) p0 (by omega), (h.2.2.2 p t p0 p1 h0 h1).2.1]
  by_cases q : W 8 p t = -2 <;> simp [q]
theorem xw_hats (h : XW μ w W) {p t : Int} (p0 : 0 ≤ p) (p1 : p < 7) (h0 : 0 ≤ t) (h1 : t < 6) (hh : W 5 p t ≠ -1) : μ (w + 4) (cI p t) = W 5 p t := ((h.2.2.2 p t p0 p1 h0 h1).2.2.1 hh).1
theorem xw_since (h : XW μ w W) {p t : Int} (p0 : 0 ≤ p) (p1 : p < 7) (h0 : 0 ≤ t) (h1 : t < 6) (hh : W 5 p t ≠ -1) : μ (w + 5) (cI p t) = W 6 p t := ((h.2.2.2 p t p0 p1 h0 h1).2.2.1 hh).2.1
theorem xw_from (h : XW μ w W) {p t : Int} (p0 : 0 ≤ p) (p1 : p < 7) (h0 : 0 ≤ t) (h1 : t < 6) (hh : W 5 p t ≠ -1) : μ (w + 6) (cI p t) = W 7 p t := ((h.2.2.2 p t p0 p1 h0 h1).2.2.1 hh).2.2
theorem xw_pH (h : XW μ w W) {p t : Int} (p0 : 0 ≤ p) (p1 : p < 7) (h0 : 0 ≤ t) (h1 : t < 6) (hh : W 8 p t ≠ -2) : μ (w + 7) (cI p t) = W 8 p t := ((h.2.2.2 p t p0 p1 h0 h1).2.2.2 hh).1
theorem xw_pC (h : XW μ w W) {p t : Int} (p0 : 0 ≤ p) (p1 : p < 7) (h0 : 0 ≤ t) (h1 : t < 6) (hh : W 8 p t ≠ -2) : μ (w + 8) (cI p t) = W 9 p t := ((h.2.2.2 p t p0 p1 h0 h1).2.2.2 hh).2
end XR
theorem cI_lt {p t : Int} (p0 : 0 ≤ p) (p1 : p < 7) (h0 : 0 ≤ t) (h1 : t < 6) : (cI p t : Int) < 42 := by unfold cI; omega
theorem i20_c {p t : Int} (p0 : 0 ≤ p) (p1 : p < 7) (h0 : 0 ≤ t) (h1 : t < 6) : am_i20 (20, 42) ((cI p t : Nat) : Int) = true := i20_t (Int.natCast_nonneg _) (by have := cI_lt p0 p1 h0 h1; omega)
theorem w20_c {p t : Int} (p0 : 0 ≤ p) (p1 : p < 7) (h0 : 0 ≤ t) (h1 : t < 6) : am_w20 (20, 42) ((cI p t : Nat) : Int) = true := w20_t (Int.natCast_nonneg _) (by have := cI_lt p0 p1 h0 h1; omega)
/-- counting bits -/
def bcX (x0 : Int) : Int := (am_and (am_w ((am_w ((am_and (am_w ((am_w ((am_and (am_w (x0 - (am_and (am_ushr x0 1) 1431655765))) 858993459) + (am_and (am_ushr (am_w (x0 - (am_and (am_ushr x0 1) 1431655765))) 2) 858993459))) + (am_ushr (am_w ((am_and (am_w (x0 - (am_and (am_ushr x0 1) 1431655765))) 858993459) + (am_and (am_ushr (am_w (x0 - (am_and (am_ushr x0 1) 1431655765))) 2) 858993459))) 4))) 252645135) + (am_ushr (am_and (am_w ((am_w ((am_and (am_w (x0 - (am_and (am_ushr x0 1) 1431655765))) 858993459) + (am_and (am_ushr (am_w (x0 - (am_and (am_ushr x0 1) 1431655765))) 2) 858993459))) + (am_ushr (am_w ((am_and (am_w (x0 - (am_and (am_ushr x0 1) 1431655765))) 858993459) + (am_and (am_ushr (am_w (x0 - (am_and (am_ushr x0 1) 1431655765))) 2) 858993459))) 4))) 252645135) 8))) + (am_ushr (am_w ((am_and (am_w ((am_w ((am_and (am_w (x0 - (am_and (am_ushr x0 1) 1431655765))) 858993459) + (am_and (am_ushr (am_w (x0 - (am_and (am_ushr x0 1) 1431655765))) 2) 858993459))) + (am_ushr (am_w ((am_and (am_w (x0 - (am_and (am_ushr x0 1) 1431655765))) 858993459) + (am_and (am_ushr (am_w (x0 - (am_and (am_ushr x0 1) 1431655765))) 2) 858993459))) 4))) 252645135) + (am_ushr (am_and (am_w ((am_w ((am_and (am_w (x0 - (am_and (am_ushr x0 1) 1431655765))) 858993459) + (am_and (am_ushr (am_w (x0 - (am_and (am_ushr x0 1) 1431655765))) 2) 858993459))) + (am_ushr (am_w ((am_and (am_w (x0 - (am_and (am_ushr x0 1) 1431655765))) 858993459) + (am_and (am_ushr (am_w (x0 - (am_and (am_ushr x0 1) 1431655765))) 2) 858993459))) 4))) 252645135) 8))) 16))) 63)
theorem bc_eq : ∀ n : Nat, n < 128 → bcX (n : Int) = popN n 7 := by decide +kernel
theorem X_bits {ρ : Nat → Nat → Nat} {μ : Nat → Nat → Int} {cs : Nat × Nat × Nat} {d : Nat} {sh : List (Nat × Nat)} {z : Int} (h0 : 0 ≤ z) (h1 : z < 128) : am_E d 257 0 [some (.inl z)] [] (sh, ρ, μ, cs) = some (some (.inl (popN z.toNat 7)), (sh, ρ, μ, cs)) := by
  have h := bc_eq z.toNat (by omega)
  rw [Int.toNat_of_nonneg h0] at h
  rw [← h]
  exact e257_0 d z sh ρ μ cs
section XWO
variable {ρ : Nat → Nat → Nat} {μ : Nat → Nat → Int} {cs : Nat × Nat × Nat} {d : Nat} {w : Nat} {W : MW}
theorem X_cell {sh : List (Nat × Nat)} {p t : Int} (p0 : 0 ≤ p) (p1 : p < 7) (t0 : 0 ≤ t) (t1 : t < 6) : am_E d 72 0 [some (.inl p), some (.inl t)] [] (sh, ρ, μ, cs) = some (some (.inl ((cI p t : Nat) : Int)), (sh, ρ, μ, cs)) := by
  rw [e72_0, w_t (z := p * 6) (by omega) (by omega), w_t (by omega) (by omega)]
  unfold cI
  rw [Int.toNat_of_nonneg (by omega), Int.mul_comm]
theorem X_holds (hx : XM ρ) (hw : w = 46 ∨ w = 55 ∨ w = 64) (hW : XW μ w W) {p t : Int} (p0 : 0 ≤ p) (p1 : p < 7) (t0 : 0 ≤ t) (t1 : t < 6) : am_E d 75 0 [some (.inr (.inr w)), some (.inl p), some (.inl t)] [] (SH, ρ, μ, cs) = some (some (.inl (if W 5 p t = -1 then 0 else 1)), (SH, ρ, μ, cs)) := by
  by_cases q : W 5 p t = -1
  · simp (disch := omega) only [e75_0, xk_wd0 hw, xk_wd1 hw, xk_wd2 hw, xk_wd3 hw, xk_wd4 hw, xk_wd5 hw, xk_wd6 hw, xk_wd7 hw, xk_wd8 hw, xm_wd10 hx hw, xm_wd11 hx hw, xm_wd4 hx hw, xm_wd5 hx hw, xm_wd6 hx hw, xm_wd7 hx hw, xm_wd8 hx hw, xm_wd9 hx hw, Bool.false_eq_true, eq_self, isk_t, i20_t, w20_t, l23_t, b21_t, b22_t, w_t, bif_t, bif_f, bif_d, if_pos, if_neg, if_true, if_false, not_true_eq_false, not_false_eq_true, Option.bind_some, Option.toList_some, Option.toList_none, List.cons_append, List.nil_append, Int.toNat_natCast, Int.reduceToNat, up_eq, up_p, up_k, sN,  xw_hold hW, q ]
  · simp (disch := omega) only [e75_0, xk_wd0 hw, xk_wd1 hw, xk_wd2 hw, xk_wd3 hw, xk_wd4 hw, xk_wd5 hw, xk_wd6 hw, xk_wd7 hw, xk_wd8 hw, xm_wd10 hx hw, xm_wd11 hx hw, xm_wd4 hx hw, xm_wd5 hx hw, xm_wd6 hx hw, xm_wd7 hx hw, xm_wd8 hx hw, xm_wd9 hx hw, Bool.false_eq_true, eq_self, isk_t, i20_t, w20_t, l23_t, b21_t, b22_t, w_t, bif_t, bif_f, bif_d, if_pos, if_neg, if_true, if_false, not_true_eq_false, not_false_eq_true, Option.bind_some, Option.toList_some, Option.toList_none, List.cons_append, List.nil_append, Int.toNat_natCast, Int.reduceToNat, up_eq, up_p, up_k, sN,  xw_hold hW, q ]
theorem X_mayPrint (hx : XM ρ) (hw : w = 46 ∨ w = 55 ∨ w = 64) (hW : XW μ w W) {p t : Int} (p0 : 0 ≤ p) (p1 : p < 7) (t0 : 0 ≤ t) (t1 : t < 6) : am_E (d + 1) 76 0 [some (.inr (.inr w)), some (.inl p), some (.inl t)] [] (SH, ρ, μ, cs) = some (some (.inl (if W 5 p t ≠ -1 ∧ W 8 p t = -2 then 1 else 0)), (SH, ρ, μ, cs)) := by
  by_cases q : W 5 p t = -1
  · simp (disch := omega) only [e76_0, e76_6, xk_wd0 hw, xk_wd1 hw, xk_wd2 hw, xk_wd3 hw, xk_wd4 hw, xk_wd5 hw, xk_wd6 hw, xk_wd7 hw, xk_wd8 hw, xm_wd10 hx hw, xm_wd11 hx hw, xm_wd4 hx hw, xm_wd5 hx hw, xm_wd6 hx hw, xm_wd7 hx hw, xm_wd8 hx hw, xm_wd9 hx hw, Bool.false_eq_true, eq_self, isk_t, i20_t, w20_t, l23_t, b21_t, b22_t, w_t, bif_t, bif_f, bif_d, if_pos, if_neg, if_true, if_false, not_true_eq_false, not_false_eq_true, Option.bind_some, Option.toList_some, Option.toList_none, List.cons_append, List.nil_append, Int.toNat_natCast, Int.reduceToNat, up_eq, up_p, up_k, sN,  X_holds hx hw hW, xw_prt hW, q, ne_eq, false_and ]
  · by_cases q2 : W 8 p t = -2
    · simp (disch := omega) only [e76_0, e76_6, xk_wd0 hw, xk_wd1 hw, xk_wd2 hw, xk_wd3 hw, xk_wd4 hw, xk_wd5 hw, xk_wd6 hw, xk_wd7 hw, xk_wd8 hw, xm_wd10 hx hw, xm_wd11 hx hw, xm_wd4 hx hw, xm_wd5 hx hw, xm_wd6 hx hw, xm_wd7 hx hw, xm_wd8 hx hw, xm_wd9 hx hw, Bool.false_eq_true, eq_self, isk_t, i20_t, w20_t, l23_t, b21_t, b22_t, w_t, bif_t, bif_f, bif_d, if_pos, if_neg, if_true, if_false, not_true_eq_false, not_false_eq_true, Option.bind_some, Option.toList_some, Option.toList_none, List.cons_append, List.nil_append, Int.toNat_natCast, Int.reduceToNat, up_eq, up_p, up_k, sN,  X_holds hx hw hW, xw_prt hW, q, q2, ne_eq, and_true ]
    · simp (disch := omega) only [e76_0, e76_6, xk_wd0 hw, xk_wd1 hw, xk_wd2 hw, xk_wd3 hw, xk_wd4 hw, xk_wd5 hw, xk_wd6 hw, xk_wd7 hw, xk_wd8 hw, xm_wd10 hx hw, xm_wd11 hx hw, xm_wd4 hx hw, xm_wd5 hx hw, xm_wd6 hx hw, xm_wd7 hx hw, xm_wd8 hx hw, xm_wd9 hx hw, Bool.false_eq_true, eq_self, isk_t, i20_t, w20_t, l23_t, b21_t, b22_t, w_t, bif_t, bif_f, bif_d, if_pos, if_neg, if_true, if_false, not_true_eq_false, not_false_eq_true, Option.bind_some, Option.toList_some, Option.toList_none, List.cons_append, List.nil_append, Int.toNat_natCast, Int.reduceToNat, up_eq, up_p, up_k, sN,  X_holds hx hw hW, xw_prt hW, q, q2, ne_eq, and_false ]
theorem X_holders_loop (hx : XM ρ) (hw : w = 46 ∨ w = 55 ∨ w = 64) (hW : XW μ w W) {t : Int} (t0 : 0 ≤ t) (t1 : t < 6) : ∀ (j k : Nat), k + j = 7 → am_E d 77 4 [some (.inr (.inr w)), some (.inl t), some (.inl ((bset (fun p => decide (W 5 p t ≠ -1)) k : Nat) : Int)), some (.inl (k : Int))] [] (SH, ρ, μ, cs) = some (some (.inl ((bset (fun p => decide (W 5 p t ≠ -1)) 7 : Nat) : Int)), (SH, ρ, μ, cs)) := by
  intro j
  induction j with
  | zero =>
    intro k hk
    have e : k = 7 := by omega
    subst e
    rw [e77_4]; simp (disch := omega) only [xk_wd0 hw, xk_wd1 hw, xk_wd2 hw, xk_wd3 hw, xk_wd4 hw, xk_wd5 hw, xk_wd6 hw, xk_wd7 hw, xk_wd8 hw, xm_wd10 hx hw, xm_wd11 hx hw, xm_wd4 hx hw, xm_wd5 hx hw, xm_wd6 hx hw, xm_wd7 hx hw, xm_wd8 hx hw, xm_wd9 hx hw, Bool.false_eq_true, eq_self, isk_t, i20_t, w20_t, l23_t, b21_t, b22_t, w_t, bif_t, bif_f, bif_d, if_pos, if_neg, if_true, if_false, not_true_eq_false, not_false_eq_true, Option.bind_some, Option.toList_some, Option.toList_none, List.cons_append, List.nil_append, Int.toNat_natCast, Int.reduceToNat, up_eq, up_p, up_k, sN]
  | succ j ih =>
    intro k hk
    have hb := bset_lt31 (fun p => decide (W 5 p t ≠ -1)) (n := k) (by omega)
    have h2 := ih (k + 1) (by omega)
    have e2 : ((k + 1 : Nat) : Int) = (k : Int) + 1 := by omega
    rw [e2] at h2
    have hh := xw_hold hW (p := (k : Int)) (by omega) (by omega) t0 t1
    rw [Int.toNat_natCast] at hh
    by_cases q : W 5 (k : Int) t = -1
    · have e : bset (fun p => decide (W 5 p t ≠ -1)) (k + 1) = bset (fun p => decide (W 5 p t ≠ -1)) k := by
        show (if decide (W 5 (k : Int) t ≠ -1) = true then _ else _) = _
        rw [if_neg (by simp [q])]
      rw [e] at h2
      have z0 : am_shl 0 (k : Int) = 0 := by
        have h := nb_shl (a := 0) (k := k) (by omega) (by simp) (by omega)
        rw [Nat.zero_shiftLeft] at h
        exact h
      rw [e77_4]; simp (disch := omega) only [xk_wd0 hw, xk_wd1 hw, xk_wd2 hw, xk_wd3 hw, xk_wd4 hw, xk_wd5 hw, xk_wd6 hw, xk_wd7 hw, xk_wd8 hw, xm_wd10 hx hw, xm_wd11 hx hw, xm_wd4 hx hw, xm_wd5 hx hw, xm_wd6 hx hw, xm_wd7 hx hw, xm_wd8 hx hw, xm_wd9 hx hw, Bool.false_eq_true, eq_self, isk_t, i20_t, w20_t, l23_t, b21_t, b22_t, w_t, bif_t, bif_f, bif_d, if_pos, if_neg, if_true, if_false, not_true_eq_false, not_false_eq_true, Option.bind_some, Option.toList_some, Option.toList_none, List.cons_append, List.nil_append, Int.toNat_natCast, Int.reduceToNat, up_eq, up_p, up_k, sN,  hh, q, z0, ib_or0, h2 ]
    · have e := bset_or (f := fun p => decide (W 5 p t ≠ -1)) (n := k) (by simp [q])
      rw [← e] at h2
      rw [e77_4]; simp (disch := omega) only [xk_wd0 hw, xk_wd1 hw, xk_wd2 hw, xk_wd3 hw, xk_wd4 hw, xk_wd5 hw, xk_wd6 hw, xk_wd7 hw, xk_wd8 hw, xm_wd10 hx hw, xm_wd11 hx hw, xm_wd4 hx hw, xm_wd5 hx hw, xm_wd6 hx hw, xm_wd7 hx hw, xm_wd8 hx hw, xm_wd9 hx hw, Bool.false_eq_true, eq_self, isk_t, i20_t, w20_t, l23_t, b21_t, b22_t, w_t, bif_t, bif_f, bif_d, if_pos, if_neg, if_true, if_false, not_true_eq_false, not_false_eq_true, Option.bind_some, Option.toList_some, Option.toList_none, List.cons_append, List.nil_append, Int.toNat_natCast, Int.reduceToNat, up_eq, up_p, up_k, sN,  hh, q, ib_or1 ]
      exact h2
theorem X_holders (hx : XM ρ) (hw : w = 46 ∨ w = 55 ∨ w = 64) (hW : XW μ w W) {t : Int} (t0 : 0 ≤ t) (t1 : t < 6) : am_E d 77 0 [some (.inr (.inr w)), some (.inl t), none, none] [] (SH, ρ, μ, cs) = some (some (.inl ((bset (fun p => decide (W 5 p t ≠ -1)) 7 : Nat) : Int)), (SH, ρ, μ, cs)) := by
  rw [e77_0]
  exact X_holders_loop hx hw hW t0 t1 7 0 rfl
theorem X_chain_loop (hx : XM ρ) (hw : w = 46 ∨ w = 55 ∨ w = 64) (hW : XW μ w W) {t : Int} (t0 : 0 ≤ t) (t1 : t < 6) (hF : ∀ p, 0 ≤ p → p < 7 → (W 7 p t = -2 ∨ 0 ≤ W 7 p t ∧ W 7 p t < 7)) (x1 : Int) : ∀ (n set : Nat) (i p : Int), 0 ≤ p → p < 7 → set < 128 → popN set 7 = i → i + n = 8 → am_E (d + 1) 78 8 [some (.inr (.inr w)), some (.inl x1), some (.inl t), some (.inl (set : Int)), some (.inl p), some (.inl i)] [] (SH, ρ, μ, cs) = some (some (.inl ((chW W t n set p : Nat) : Int)), (SH, ρ, μ, cs)) := by
  intro n
  induction n with
  | zero =>
    intro set i p h0 h1 h2 h3 h4
    have := popN_le set 7
    omega
  | succ n ih =>
    intro set i p h0 h1 h2 h3 h4
    have hp := popN_le set 7
    have hu : chW W t (n + 1) set p = if set.testBit p.toNat then set else if W 5 p t = -1 ∨ W 7 p t = -2 then set ||| 2 ^ p.toNat else chW W t n (set ||| 2 ^ p.toNat) (W 7 p t) := rfl
    by_cases hb : set.testBit p.toNat = true
    · rw [hu, if_pos hb]
      by_cases hi : 7 ≤ i
      · rw [e78_8]; simp (disch := omega) only [xk_wd0 hw, xk_wd1 hw, xk_wd2 hw, xk_wd3 hw, xk_wd4 hw, xk_wd5 hw, xk_wd6 hw, xk_wd7 hw, xk_wd8 hw, xm_wd10 hx hw, xm_wd11 hx hw, xm_wd4 hx hw, xm_wd5 hx hw, xm_wd6 hx hw, xm_wd7 hx hw, xm_wd8 hx hw, xm_wd9 hx hw, Bool.false_eq_true, eq_self, isk_t, i20_t, w20_t, l23_t, b21_t, b22_t, w_t, bif_t, bif_f, bif_d, if_pos, if_neg, if_true, if_false, not_true_eq_false, not_false_eq_true, Option.bind_some, Option.toList_some, Option.toList_none, List.cons_append, List.nil_append, Int.toNat_natCast, Int.reduceToNat, up_eq, up_p, up_k, sN]
      · rw [e78_8]; simp (disch := omega) only [xk_wd0 hw, xk_wd1 hw, xk_wd2 hw, xk_wd3 hw, xk_wd4 hw, xk_wd5 hw, xk_wd6 hw, xk_wd7 hw, xk_wd8 hw, xm_wd10 hx hw, xm_wd11 hx hw, xm_wd4 hx hw, xm_wd5 hx hw, xm_wd6 hx hw, xm_wd7 hx hw, xm_wd8 hx hw, xm_wd9 hx hw, Bool.false_eq_true, eq_self, isk_t, i20_t, w20_t, l23_t, b21_t, b22_t, w_t, bif_t, bif_f, bif_d, if_pos, if_neg, if_true, if_false, not_true_eq_false, not_false_eq_true, Option.bind_some, Option.toList_some, Option.toList_none, List.cons_append, List.nil_append, Int.toNat_natCast, Int.reduceToNat, up_eq, up_p, up_k, sN,  ib_bit, hb ]
    · have hb' : set.testBit p.toNat = false := by simpa using hb
      have hpo := popN_or1 h0 hb' 7
      rw [if_pos (by omega)] at hpo
      have hp2 := popN_le (set ||| 2 ^ p.toNat) 7
      have hlt := or1_lt (n := 7) h2 h0 (by omega)
      rw [hu, if_neg hb]
      have hw7 := hF p h0 h1
      by_cases q1 : W 5 p t = -1
      · rw [if_pos (Or.inl q1)]
        rw [e78_8]; simp (disch := omega) only [e78_43, xk_wd0 hw, xk_wd1 hw, xk_wd2 hw, xk_wd3 hw, xk_wd4 hw, xk_wd5 hw, xk_wd6 hw, xk_wd7 hw, xk_wd8 hw, xm_wd10 hx hw, xm_wd11 hx hw, xm_wd4 hx hw, xm_wd5 hx hw, xm_wd6 hx hw, xm_wd7 hx hw, xm_wd8 hx hw, xm_wd9 hx hw, Bool.false_eq_true, eq_self, isk_t, i20_t, w20_t, l23_t, b21_t, b22_t, w_t, bif_t, bif_f, bif_d, if_pos, if_neg, if_true, if_false, not_true_eq_false, not_false_eq_true, Option.bind_some, Option.toList_some, Option.toList_none, List.cons_append, List.nil_append, Int.toNat_natCast, Int.reduceToNat, up_eq, up_p, up_k, sN,  ib_bit, hb', ib_or1, X_holds hx hw hW, q1, Bool.false_eq_true ]
        by_cases hi : 7 ≤ i + 1
        · rw [e78_8]; simp (disch := omega) only [xk_wd0 hw, xk_wd1 hw, xk_wd2 hw, xk_wd3 hw, xk_wd4 hw, xk_wd5 hw, xk_wd6 hw, xk_wd7 hw, xk_wd8 hw, xm_wd10 hx hw, xm_wd11 hx hw, xm_wd4 hx hw, xm_wd5 hx hw, xm_wd6 hx hw, xm_wd7 hx hw, xm_wd8 hx hw, xm_wd9 hx hw, Bool.false_eq_true, eq_self, isk_t, i20_t, w20_t, l23_t, b21_t, b22_t, w_t, bif_t, bif_f, bif_d, if_pos, if_neg, if_true, if_false, not_true_eq_false, not_false_eq_true, Option.bind_some, Option.toList_some, Option.toList_none, List.cons_append, List.nil_append, Int.toNat_natCast, Int.reduceToNat, up_eq, up_p, up_k, sN]
        · rw [e78_8]; simp (disch := omega) only [xk_wd0 hw, xk_wd1 hw, xk_wd2 hw, xk_wd3 hw, xk_wd4 hw, xk_wd5 hw, xk_wd6 hw, xk_wd7 hw, xk_wd8 hw, xm_wd10 hx hw, xm_wd11 hx hw, xm_wd4 hx hw, xm_wd5 hx hw, xm_wd6 hx hw, xm_wd7 hx hw, xm_wd8 hx hw, xm_wd9 hx hw, Bool.false_eq_true, eq_self, isk_t, i20_t, w20_t, l23_t, b21_t, b22_t, w_t, bif_t, bif_f, bif_d, if_pos, if_neg, if_true, if_false, not_true_eq_false, not_false_eq_true, Option.bind_some, Option.toList_some, Option.toList_none, List.cons_append, List.nil_append, Int.toNat_natCast, Int.reduceToNat, up_eq, up_p, up_k, sN]
      · by_cases q2 : W 7 p t = -2
        · rw [if_pos (Or.inr q2)]
          rw [e78_8]; simp (disch := omega) only [e78_43, e78_56, xk_wd0 hw, xk_wd1 hw, xk_wd2 hw, xk_wd3 hw, xk_wd4 hw, xk_wd5 hw, xk_wd6 hw, xk_wd7 hw, xk_wd8 hw, xm_wd10 hx hw, xm_wd11 hx hw, xm_wd4 hx hw, xm_wd5 hx hw, xm_wd6 hx hw, xm_wd7 hx hw, xm_wd8 hx hw, xm_wd9 hx hw, Bool.false_eq_true, eq_self, isk_t, i20_t, w20_t, l23_t, b21_t, b22_t, w_t, bif_t, bif_f, bif_d, if_pos, if_neg, if_true, if_false, not_true_eq_false, not_false_eq_true, Option.bind_some, Option.toList_some, Option.toList_none, List.cons_append, List.nil_append, Int.toNat_natCast, Int.reduceToNat, up_eq, up_p, up_k, sN,  ib_bit, hb', ib_or1, X_holds hx hw hW, q1, Bool.false_eq_true, X_cell, i20_c, xw_from hW, q2, ne_eq ]
          by_cases hi : 7 ≤ i + 1
          · rw [e78_8]; simp (disch := omega) only [xk_wd0 hw, xk_wd1 hw, xk_wd2 hw, xk_wd3 hw, xk_wd4 hw, xk_wd5 hw, xk_wd6 hw, xk_wd7 hw, xk_wd8 hw, xm_wd10 hx hw, xm_wd11 hx hw, xm_wd4 hx hw, xm_wd5 hx hw, xm_wd6 hx hw, xm_wd7 hx hw, xm_wd8 hx hw, xm_wd9 hx hw, Bool.false_eq_true, eq_self, isk_t, i20_t, w20_t, l23_t, b21_t, b22_t, w_t, bif_t, bif_f, bif_d, if_pos, if_neg, if_true, if_false, not_true_eq_false, not_false_eq_true, Option.bind_some, Option.toList_some, Option.toList_none, List.cons_append, List.nil_append, Int.toNat_natCast, Int.reduceToNat, up_eq, up_p, up_k, sN]
          · rw [e78_8]; simp (disch := omega) only [xk_wd0 hw, xk_wd1 hw, xk_wd2 hw, xk_wd3 hw, xk_wd4 hw, xk_wd5 hw, xk_wd6 hw, xk_wd7 hw, xk_wd8 hw, xm_wd10 hx hw, xm_wd11 hx hw, xm_wd4 hx hw, xm_wd5 hx hw, xm_wd6 hx hw, xm_wd7 hx hw, xm_wd8 hx hw, xm_wd9 hx hw, Bool.false_eq_true, eq_self, isk_t, i20_t, w20_t, l23_t, b21_t, b22_t, w_t, bif_t, bif_f, bif_d, if_pos, if_neg, if_true, if_false, not_true_eq_false, not_false_eq_true, Option.bind_some, Option.toList_some, Option.toList_none, List.cons_append, List.nil_append, Int.toNat_natCast, Int.reduceToNat, up_eq, up_p, up_k, sN]
        · rw [if_neg (fun g => g.elim q1 q2)]
          have h5 := ih (set ||| 2 ^ p.toNat) (i + 1) (W 7 p t) (by omega) (by omega) hlt (by omega) (by omega)
          rw [e78_8]; simp (disch := omega) only [e78_43, e78_56, xk_wd0 hw, xk_wd1 hw, xk_wd2 hw, xk_wd3 hw, xk_wd4 hw, xk_wd5 hw, xk_wd6 hw, xk_wd7 hw, xk_wd8 hw, xm_wd10 hx hw, xm_wd11 hx hw, xm_wd4 hx hw, xm_wd5 hx hw, xm_wd6 hx hw, xm_wd7 hx hw, xm_wd8 hx hw, xm_wd9 hx hw, Bool.false_eq_true, eq_self, isk_t, i20_t, w20_t, l23_t, b21_t, b22_t, w_t, bif_t, bif_f, bif_d, if_pos, if_neg, if_true, if_false, not_true_eq_false, not_false_eq_true, Option.bind_some, Option.toList_some, Option.toList_none, List.cons_append, List.nil_append, Int.toNat_natCast, Int.reduceToNat, up_eq, up_p, up_k, sN,  ib_bit, hb', ib_or1, X_holds hx hw hW, q1, Bool.false_eq_true, X_cell, i20_c, xw_from hW, ne_eq, h5 ]
theorem X_chain (hx : XM ρ) (hw : w = 46 ∨ w = 55 ∨ w = 64) (hW : XW μ w W) {p t : Int} (p0 : 0 ≤ p) (p1 : p < 7) (t0 : 0 ≤ t) (t1 : t < 6) (hF : ∀ p, 0 ≤ p → p < 7 → (W 7 p t = -2 ∨ 0 ≤ W 7 p t ∧ W 7 p t < 7)) : am_E (d + 1) 78 0 [some (.inr (.inr w)), some (.inl p), some (.inl t), none, none, none] [] (SH, ρ, μ, cs) = some (some (.inl ((chain W p t : Nat) : Int)), (SH, ρ, μ, cs)) := by
  rw [e78_0]
  exact X_chain_loop hx hw hW t0 t1 hF p 8 0 0 p p0 p1 (by decide) rfl (by omega)
theorem X_apart (hx : XM ρ) (hw : w = 46 ∨ w = 55 ∨ w = 64) (hW : XW μ w W) {p t hh : Int} (p0 : 0 ≤ p) (p1 : p < 7) (t0 : 0 ≤ t) (t1 : t < 6) (h1 : W 5 p t ≠ -1) (h2 : -1 ≤ W 5 p t) (h3 : W 5 p t ≤ 99) (h4 : -2 ≤ hh) (h5 : hh ≤ 99) : am_E (d + 1) 79 0 [some (.inr (.inr w)), some (.inl p), some (.inl t), some (.inl hh), none] [] (SH, ρ, μ, cs) = some (some (.inl ((W 5 p t - hh).natAbs : Int)), (SH, ρ, μ, cs)) := by
  by_cases q : 0 ≤ W 5 p t - hh
  · simp (disch := omega) only [e79_0, e79_9, xk_wd0 hw, xk_wd1 hw, xk_wd2 hw, xk_wd3 hw, xk_wd4 hw, xk_wd5 hw, xk_wd6 hw, xk_wd7 hw, xk_wd8 hw, xm_wd10 hx hw, xm_wd11 hx hw, xm_wd4 hx hw, xm_wd5 hx hw, xm_wd6 hx hw, xm_wd7 hx hw, xm_wd8 hx hw, xm_wd9 hx hw, Bool.false_eq_true, eq_self, isk_t, i20_t, w20_t, l23_t, b21_t, b22_t, w_t, bif_t, bif_f, bif_d, if_pos, if_neg, if_true, if_false, not_true_eq_false, not_false_eq_true, Option.bind_some, Option.toList_some, Option.toList_none, List.cons_append, List.nil_append, Int.toNat_natCast, Int.reduceToNat, up_eq, up_p, up_k, sN,  X_cell, i20_c, xw_hats hW ]
    rw [show ((W 5 p t - hh).natAbs : Int) = W 5 p t - hh by omega]
  · simp (disch := omega) only [e79_0, e79_9, xk_wd0 hw, xk_wd1 hw, xk_wd2 hw, xk_wd3 hw, xk_wd4 hw, xk_wd5 hw, xk_wd6 hw, xk_wd7 hw, xk_wd8 hw, xm_wd10 hx hw, xm_wd11 hx hw, xm_wd4 hx hw, xm_wd5 hx hw, xm_wd6 hx hw, xm_wd7 hx hw, xm_wd8 hx hw, xm_wd9 hx hw, Bool.false_eq_true, eq_self, isk_t, i20_t, w20_t, l23_t, b21_t, b22_t, w_t, bif_t, bif_f, bif_d, if_pos, if_neg, if_true, if_false, not_true_eq_false, not_false_eq_true, Option.bind_some, Option.toList_some, Option.toList_none, List.cons_append, List.nil_append, Int.toNat_natCast, Int.reduceToNat, up_eq, up_p, up_k, sN,  X_cell, i20_c, xw_hats hW ]
    rw [show ((W 5 p t - hh).natAbs : Int) = -(W 5 p t - hh) by omega]
theorem xw_gain (hw : w = 46 ∨ w = 55 ∨ w = 64) (hW : XW μ w W) {p t h fr : Int} (p0 : 0 ≤ p) (p1 : p < 7) (t0 : 0 ≤ t) (t1 : t < 6) (hh : h ≠ -1) : XW (am_up (am_up (am_up (am_up μ (w + 2) p.toNat (((μ (w + 2) p.toNat).toNat ||| 2 ^ t.toNat : Nat) : Int)) (w + 4) (cI p t) h) (w + 5) (cI p t) (W 0 0 0)) (w + 6) (cI p t) fr) w (gain W p t h fr) := by
  obtain ⟨⟨a1, a2, a3, a4⟩, c1, c2, c3⟩ := hW
  refine ⟨⟨?_, ?_, ?_, ?_⟩, fun t' h0 h1 => ?_, fun p' h0 h1 => ?_, fun p' t' h0 h1 h2 h3 => ?_⟩
  · rw [gain_o (by omega)]; simp (disch := omega) only [up_p]; exact a1
  · rw [gain_o (by omega)]; simp (disch := omega) only [up_p]; exact a2
  · rw [gain_o (by omega)]; simp (disch := omega) only [up_p]; exact a3
  · rw [gain_o (by omega)]; simp (disch := omega) only [up_p]; exact a4
  · rw [gain_o (by omega)]; simp (disch := omega) only [up_p]; exact c1 t' h0 h1
  · simp (disch := omega) only [up_p]
    have b := c2 p p0 p1
    by_cases q : p' = p
    · subst q
      rw [up_eq]
      have := or1_lt (a := (μ (w + 2) p'.toNat).toNat) (n := 6) (k := t) (by omega) t0 (by omega)
      omega
    · rw [up_k (by omega)]; exact c2 p' h0 h1
  · have b := c2 p p0 p1
    have c := c3 p' t' h0 h1 h2 h3
    have ci : cI p' t' = cI p t ↔ p' = p ∧ t' = t := by unfold cI; omega
    rw [gain_5, gain_6, gain_7, gain_o (a := 8) (by omega), gain_o (a := 9) (by omega)]
    simp (disch := omega) only [up_p]
    by_cases q : p' = p ∧ t' = t
    · obtain ⟨rfl, rfl⟩ := q
      rw [if_pos ⟨rfl, rfl⟩, if_pos ⟨rfl, rfl⟩, if_pos ⟨rfl, rfl⟩]
      simp (disch := omega) only [up_eq, up_p]
      refine ⟨?_, c.2.1, fun _ => by simp, c.2.2.2⟩
      rw [Int.toNat_natCast, or1_bit h2]
      simp [hh]
    · rw [if_neg q, if_neg q, if_neg q]
      have ci' : cI p' t' ≠ cI p t := fun g => q (ci.mp g)
      simp (disch := (first | exact ci' | omega)) only [up_p, up_k]
      refine ⟨?_, c.2.1, c.2.2.1, c.2.2.2⟩
      by_cases q2 : p' = p
      · subst q2
        rw [up_eq, Int.toNat_natCast, or1_bit t0, c.1]
        have : ¬ t'.toNat = t.toNat := by omega
        simp [this]
      · rw [up_k (by omega)]; exact c.1
theorem X_gainThing (hx : XM ρ) (hw : w = 46 ∨ w = 55 ∨ w = 64) (hW : XW μ w W) {p t h fr : Int} (p0 : 0 ≤ p) (p1 : p < 7) (t0 : 0 ≤ t) (t1 : t < 6) (hh : h ≠ -1) : ∃ μ', FrV w μ μ' ∧ XW μ' w (gain W p t h fr) ∧ am_E (d + 1) 80 0 [some (.inr (.inr w)), some (.inl p), some (.inl t), some (.inl h), some (.inl fr), none] [] (SH, ρ, μ, cs) = some (none, (SH, ρ, μ', cs)) := by
  have b := hW.2.2.1 p p0 p1
  refine ⟨_, ?_, xw_gain hw hW p0 p1 t0 t1 (h := h) (fr := fr) hh, ?_⟩
  · intro q k hq
    simp (disch := omega) only [up_p]
  · simp (disch := omega) only [e80_0, e80_5, xk_wd0 hw, xk_wd1 hw, xk_wd2 hw, xk_wd3 hw, xk_wd4 hw, xk_wd5 hw, xk_wd6 hw, xk_wd7 hw, xk_wd8 hw, xm_wd10 hx hw, xm_wd11 hx hw, xm_wd4 hx hw, xm_wd5 hx hw, xm_wd6 hx hw, xm_wd7 hx hw, xm_wd8 hx hw, xm_wd9 hx hw, Bool.false_eq_true, eq_self, isk_t, i20_t, w20_t, l23_t, b21_t, b22_t, w_t, bif_t, bif_f, bif_d, if_pos, if_neg, if_true, if_false, not_true_eq_false, not_false_eq_true, Option.bind_some, Option.toList_some, Option.toList_none, List.cons_append, List.nil_append, Int.toNat_natCast, Int.reduceToNat, up_eq, up_p, up_k, sN,  X_cell, w20_c, zb_or1, xw_day hW ]
end XWO
