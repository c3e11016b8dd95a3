/-! BOTH: all that holds between calls; the calls that change nothing -/
/-- a deed of the class leads from town B back to town A -/
def DD (μ : Nat → Nat → Int) (i : Nat) (A B : MW) : Prop := (0 ≤ μ 78 i ∧ μ 78 i < 7) ∧ (0 ≤ μ 79 i ∧ μ 79 i < 6) ∧ (A 0 0 0 = B 0 0 0 ∧ A 1 0 0 = B 1 0 0 ∧ A 3 0 0 = B 3 0 0 ∧ A 2 0 0 = μ 86 i)
  ∧ (A 4 0 (μ 79 i) = μ 85 i ∧ ∀ t : Int, 0 ≤ t → t < 6 → t ≠ μ 79 i → A 4 0 t = B 4 0 t)
  ∧ ((0 ≤ μ 80 i ∧ μ 80 i < 64) ∧ ∀ t : Int, 0 ≤ t → t < 6 → (μ 80 i).toNat.testBit t.toNat = decide (A 5 (μ 78 i) t ≠ -1))
  ∧ ((0 ≤ μ 84 i ∧ μ 84 i < 128) ∧ ∀ p : Int, 0 ≤ p → p < 7 → (μ 84 i).toNat.testBit p.toNat = decide (A 8 p (μ 79 i) ≠ -2))
  ∧ (A 5 (μ 78 i) (μ 79 i) ≠ -1 → μ 81 i = A 5 (μ 78 i) (μ 79 i) ∧ μ 82 i = A 6 (μ 78 i) (μ 79 i) ∧ μ 83 i = A 7 (μ 78 i) (μ 79 i))
  ∧ (A 8 (μ 78 i) (μ 79 i) ≠ -2 → A 8 (μ 78 i) (μ 79 i) = B 8 (μ 78 i) (μ 79 i) ∧ A 9 (μ 78 i) (μ 79 i) = B 9 (μ 78 i) (μ 79 i))
  ∧ (∀ (a : Nat) (p t : Int), 5 ≤ a → a ≤ 9 → 0 ≤ p → p < 7 → 0 ≤ t → t < 6 → ¬ (p = μ 78 i ∧ t = μ 79 i) → A a p t = B a p t)
theorem dd_fr {μ μ' : Nat → Nat → Int} {i : Nat} {A B : MW} (h : DD μ i A B) (hf : ∀ q, 78 ≤ q → q ≤ 86 → μ' q i = μ q i) : DD μ' i A B := by
  unfold DD at h ⊢
  rw [hf 78 (by omega) (by omega), hf 79 (by omega) (by omega), hf 80 (by omega) (by omega), hf 81 (by omega) (by omega), hf 82 (by omega) (by omega), hf 83 (by omega) (by omega), hf 84 (by omega) (by omega), hf 85 (by omega) (by omega), hf 86 (by omega) (by omega)]
  exact h
/-- the town behind the i-th deed -/
def nxt (μ : Nat → Nat → Int) (W : MW) (i : Nat) : MW := if (i : Int) + 1 < μ 99 48 then WR μ (4 + (i : Int)) else W
def UND (μ : Nat → Nat → Int) (S : MS) (W : MW) : Prop := μ 77 0 = μ 99 48 ∧ 0 ≤ μ 99 48 ∧ μ 99 48 ≤ 20 ∧ ∀ i : Nat, (i : Int) < μ 99 48 → WI S (WR μ (3 + (i : Int)) 0 0 0) (WR μ (3 + (i : Int))) ∧ WR μ (3 + (i : Int)) 0 0 0 ≤ 9800 ∧ DD μ i (WR μ (3 + (i : Int))) (nxt μ W i)
def IMG (μ : Nat → Nat → Int) (S : MS) : Prop := μ 0 8 = μ 99 47 ∧ (μ 99 47 = 0 ∨ (μ 99 47 = 1 ∧ XW μ 55 (WR μ 2) ∧ WI S (WR μ 2 0 0 0) (WR μ 2) ∧ WR μ 2 0 0 0 ≤ 9800))
def NTS (μ : Nat → Nat → Int) (S : MS) : Prop := μ 87 0 = μ 99 58 ∧ (0 ≤ μ 99 58 ∧ μ 99 58 ≤ 24) ∧ μ 87 1 = μ 99 59 ∧ (-1 ≤ μ 99 59 ∧ μ 99 59 ≤ μ 99 58)
  ∧ ∀ i : Nat, (i : Int) < μ 99 58 → μ 93 i = μ 138 i ∧ (-1 ≤ μ 138 i ∧ μ 138 i < i) ∧ (μ 138 i = -1 → (μ 88 i = μ 134 i ∧ 1 ≤ μ 134 i ∧ μ 134 i ≤ 60) ∧ (0 ≤ μ 89 i ∧ μ 89 i < S 0 0) ∧ (0 ≤ μ 90 i ∧ μ 90 i < S 0 1) ∧ μ 135 i = 6 * μ 89 i + μ 90 i ∧ (μ 91 i = μ 136 i ∧ 0 ≤ μ 136 i ∧ μ 136 i ≤ 99) ∧ μ 92 i = μ 137 i ∧ (μ 137 i = 0 ∨ μ 137 i = 1))
def TAP (μ : Nat → Nat → Int) : Prop := μ 0 1 = μ 99 2 ∧ (0 ≤ μ 99 2 ∧ μ 99 2 ≤ 700) ∧ ∀ i : Nat, (i : Int) < μ 99 2 → (-128 ≤ μ 1 i ∧ μ 1 i ≤ 127) ∧ μ 100 i = μ 1 i % 256
/-- the codes of the language's words -/
def lang : List Int := [437714944, 679786720, 642960384, 773619712, 676737024, 475056128, 202964992, 672541696, 642945024, 404455424, 109099237, 211438592, 556055168, 270158848, 72830976, 516030464, 50383488, 437740544, 687214592, 136085504, 486146048, 48365568, 522190848]
def CST (ρ : Nat → Nat → Nat) (μ : Nat → Nat → Int) (b : Nat) : Prop := ρ 0 4 = 23 - b ∧ (∀ i : Nat, i < 23 → μ 42 i = lang.getD i 0) ∧ (μ 1000001 0 = 1 ∧ μ 1000001 1 = 9 ∧ μ 1000001 2 = 100 ∧ μ 1000001 3 = 0) ∧ (μ 1000002 0 = 99 ∧ μ 1000002 1 = 99 ∧ μ 1000002 2 = 100 ∧ μ 1000002 3 = 99999)
def RAx (ρ : Nat → Nat → Nat) (μ : Nat → Nat → Int) (b w u : Nat) (S : MS) (W : MW) : Prop := RLq ρ μ b w u S W ∧ UND μ S W ∧ IMG μ S ∧ NTS μ S ∧ TAP μ ∧ (μ 40 6 = μ 99 30 ∧ μ 40 7 = μ 99 31) ∧ CST ρ μ b ∧ WI S (W 0 0 0) W
def RA (ρ : Nat → Nat → Nat) (μ : Nat → Nat → Int) : Prop := ∃ b w u S W, RAx ρ μ b w u S W
theorem und_fr {μ μ' : Nat → Nat → Int} {S : MS} {W : MW} (h : UND μ S W) (h0 : μ' 77 0 = μ 77 0) (h1 : μ' 99 48 = μ 99 48) (h2 : ∀ q i, 78 ≤ q → q ≤ 86 → μ' q i = μ q i) (h3 : ∀ s : Int, 3 ≤ s → s < 23 → WR μ' s = WR μ s) : UND μ' S W := by
  obtain ⟨a1, a2, a3, a4⟩ := h
  refine ⟨by rw [h0, h1]; exact a1, by rw [h1]; exact a2, by rw [h1]; exact a3, fun i hi => ?_⟩
  rw [h1] at hi
  have h := a4 i hi
  have en : nxt μ' W i = nxt μ W i := by
    unfold nxt
    rw [h1]
    by_cases c : (i : Int) + 1 < μ 99 48
    · rw [if_pos c, if_pos c, h3 _ (by omega) (by omega)]
    · rw [if_neg c, if_neg c]
  rw [h3 _ (by omega) (by omega), en]
  exact ⟨h.1, h.2.1, dd_fr h.2.2 (fun q g0 g1 => h2 q i g0 g1)⟩
theorem nts_fr {μ μ' : Nat → Nat → Int} {S : MS} (h : NTS μ S) (h0 : ∀ k, k < 2 → μ' 87 k = μ 87 k) (h1 : μ' 99 58 = μ 99 58) (h2 : μ' 99 59 = μ 99 59) (h3 : ∀ q i, (88 ≤ q ∧ q ≤ 93) ∨ (134 ≤ q ∧ q ≤ 138) → μ' q i = μ q i) : NTS μ' S := by
  unfold NTS at h ⊢
  rw [h0 0 (by omega), h0 1 (by omega), h1, h2]
  refine ⟨h.1, h.2.1, h.2.2.1, h.2.2.2.1, fun i hi => ?_⟩
  rw [h3 93 i (by omega), h3 138 i (by omega), h3 88 i (by omega), h3 134 i (by omega), h3 89 i (by omega), h3 90 i (by omega), h3 135 i (by omega), h3 91 i (by omega), h3 136 i (by omega), h3 92 i (by omega), h3 137 i (by omega)]
  exact h.2.2.2.2 i hi
theorem tap_fr {μ μ' : Nat → Nat → Int} (h : TAP μ) (h0 : μ' 0 1 = μ 0 1) (h1 : μ' 99 2 = μ 99 2) (h2 : ∀ i, μ' 1 i = μ 1 i) (h3 : ∀ i, μ' 100 i = μ 100 i) : TAP μ' := by
  unfold TAP at h ⊢
  rw [h0, h1]
  exact ⟨h.1, h.2.1, fun i hi => by rw [h2, h3]; exact h.2.2 i hi⟩
theorem img_fr {μ μ' : Nat → Nat → Int} {S : MS} (h : IMG μ S) (h0 : μ' 0 8 = μ 0 8) (h1 : μ' 99 47 = μ 99 47) (h2 : ∀ q k, 55 ≤ q → q < 64 → μ' q k = μ q k) (h3 : WR μ' 2 = WR μ 2) : IMG μ' S := by
  unfold IMG at h ⊢
  rw [h0, h1, h3]
  refine ⟨h.1, ?_⟩
  rcases h.2 with g | ⟨g1, g2, g3⟩
  · exact Or.inl g
  · exact Or.inr ⟨g1, xw_fr g2 (fun q k a b => h2 q k a b), g3⟩
theorem cst_fr {ρ ρ' : Nat → Nat → Nat} {μ μ' : Nat → Nat → Int} {b : Nat} (h : CST ρ μ b) (h0 : ρ' 0 4 = ρ 0 4) (h1 : ∀ i, μ' 42 i = μ 42 i) (h2 : ∀ q i, q = 1000001 ∨ q = 1000002 → μ' q i = μ q i) : CST ρ' μ' b := by
  unfold CST at h ⊢
  rw [h0, h2 1000001 0 (by omega), h2 1000001 1 (by omega), h2 1000001 2 (by omega), h2 1000001 3 (by omega), h2 1000002 0 (by omega), h2 1000002 1 (by omega), h2 1000002 2 (by omega), h2 1000002 3 (by omega)]
  exact ⟨h.1, fun i hi => by rw [h1]; exact h.2.1 i hi, h.2.2⟩
theorem ra_q {ρ ρ' : Nat → Nat → Nat} {μ μ' : Nat → Nat → Int} {b w u : Nat} {S : MS} {W : MW} (h : RAx ρ μ b w u S W) (hr : FrR ρ ρ') (hf : FrQ μ μ') : RAx ρ' μ' b w u S W := by
  obtain ⟨h1, h2, h3, h4, h5, h6, h7, h8⟩ := h
  refine ⟨rl_q h1 hr hf, und_fr h2 (hf _ _ (by omega)) (hf _ _ (by omega)) (fun q i g0 g1 => hf _ _ (by omega)) (fun s g0 g1 => frq_WR hf (by omega) (by omega)), img_fr h3 (hf _ _ (by omega)) (hf _ _ (by omega)) (fun q k g0 g1 => hf _ _ (by omega)) (frq_WR hf (by omega) (by omega)), nts_fr h4 (fun k _ => hf _ _ (by omega)) (hf _ _ (by omega)) (hf _ _ (by omega)) (fun q i g => hf _ _ (by omega)), tap_fr h5 (hf _ _ (by omega)) (hf _ _ (by omega)) (fun i => hf _ _ (by omega)) (fun i => hf _ _ (by omega)), ⟨by rw [hf _ _ (by omega), hf _ _ (by omega)]; exact h6.1, by rw [hf _ _ (by omega), hf _ _ (by omega)]; exact h6.2⟩, cst_fr h7 (hr _ _ (by omega)) (fun i => hf _ _ (by omega)) (fun q i g => hf _ _ (by omega)), h8⟩
section QX
variable {ρ : Nat → Nat → Nat} {μ : Nat → Nat → Int} {cs : Nat × Nat × Nat} {d : Nat}
/-- one call: both come to the same, and all holds again -/
def BT (ρ : Nat → Nat → Nat) (μ : Nat → Nat → Int) (cs : Nat × Nat × Nat) (x : am_H → Option am_Res) (m : am_H → Option am_Res) : Prop := ∃ v ρ' μ1 μ2, x (SH, ρ, μ, cs) = some (some v, (SH, ρ', μ1, cs)) ∧ m (SH, ρ', μ1, cs) = some (some v, (SH, ρ', μ2, cs)) ∧ RA ρ' μ2
theorem bt_0 {b w u : Nat} {S : MS} {W : MW} {x m : am_H → Option am_Res} {v : am_V} (h : RAx ρ μ b w u S W) (hX : x (SH, ρ, μ, cs) = some (some v, (SH, ρ, μ, cs))) (hR : ∃ μ', FrQ μ μ' ∧ m (SH, ρ, μ, cs) = some (some v, (SH, ρ, μ', cs))) : BT ρ μ cs x m := by
  obtain ⟨μ', h1, h2⟩ := hR
  exact ⟨v, ρ, μ, μ', hX, h2, b, w, u, S, W, ra_q h (frr_rf ρ) h1⟩
theorem bt_1 {b w u : Nat} {S : MS} {W : MW} {x m : am_H → Option am_Res} {f : MC → MC → am_V} (h : RAx ρ μ b w u S W) (hX : ∃ ρ' μ', FrR ρ ρ' ∧ FrY μ μ' ∧ x (SH, ρ, μ, cs) = some (some (f (CR μ 0) (CR μ 1)), (SH, ρ', μ', cs))) (hR : ∀ ρ μ, RLq ρ μ b w u S W → ∃ μ', FrQ μ μ' ∧ m (SH, ρ, μ, cs) = some (some (f (CR μ 0) (CR μ 1)), (SH, ρ, μ', cs))) : BT ρ μ cs x m := by
  obtain ⟨ρ', μ', g0, g1, g2⟩ := hX
  obtain ⟨μ2, k1, k2⟩ := hR ρ' μ' (rl_q h.1 g0 (fry_q g1))
  rw [fry_CR g1, fry_CR g1] at k2
  exact ⟨_, ρ', μ', μ2, g2, k2, b, w, u, S, W, ra_q h g0 (frq_tr (fry_q g1) k1)⟩
theorem C_has (h : RA ρ μ) {p t q : Int} : BT ρ μ cs (fun H => am_E (d + 20) 91 0 [some (.inr (.inr 0)), some (.inl p), some (.inl t), some (.inl q), none] [] H) (fun H => am_E (d + 20) 211 0 [some (.inr (.inr 99)), some (.inl p), some (.inl t), some (.inl q)] [] H) := by
  obtain ⟨b, w, u, S, W, h⟩ := h
  exact bt_0 h (X_has (d := d + 17) h.1) (R_has (d := d + 17) h.1)
theorem C_bent (h : RA ρ μ) {p : Int} : BT ρ μ cs (fun H => am_E (d + 20) 92 0 [some (.inr (.inr 0)), some (.inl p)] [] H) (fun H => am_E (d + 20) 212 0 [some (.inr (.inr 99)), some (.inl p)] [] H) := by
  obtain ⟨b, w, u, S, W, h⟩ := h
  exact bt_0 h (X_bent (d := d + 19) h.1) (R_bent (d := d + 19) h.1)
theorem C_joined (h : RA ρ μ) {p q t : Int} : BT ρ μ cs (fun H => am_E (d + 20) 101 0 [some (.inr (.inr 0)), some (.inl p), some (.inl q), some (.inl t)] [] H) (fun H => am_E (d + 20) 223 0 [some (.inr (.inr 99)), some (.inl p), some (.inl q), some (.inl t)] [] H) := by
  obtain ⟨b, w, u, S, W, h⟩ := h
  exact bt_0 h (X_joined (d := d + 17) h.1) (R_joined (d := d + 17) h.1)
theorem C_named (h : RA ρ μ) {q z : Int} : BT ρ μ cs (fun H => am_E (d + 20) 89 0 [some (.inr (.inr 0)), some (.inl q), some (.inl z)] [] H) (fun H => am_E (d + 20) 177 0 [some (.inr (.inr 99)), some (.inl q), some (.inl z)] [] H) := by
  obtain ⟨b, w, u, S, W, h⟩ := h
  exact bt_0 h (X_named (d := d + 19) h.1) (R_named (d := d + 19) h.1)
theorem C_reach (h : RA ρ μ) {p : Int} : BT ρ μ cs (fun H => am_E (d + 20) 103 0 [some (.inr (.inr 0)), some (.inl p)] [] H) (fun H => am_E (d + 20) 227 0 [some (.inr (.inr 99)), some (.inl p)] [] H) := by
  obtain ⟨b, w, u, S, W, h⟩ := h
  exact bt_0 h (X_reach (d := d + 19) h.1) (R_reach (d := d + 19) h.1)
theorem C_lone (h : RA ρ μ) : BT ρ μ cs (fun H => am_E (d + 20) 108 0 [some (.inr (.inr 0)), none, none] [] H) (fun H => am_E (d + 20) 231 0 [some (.inr (.inr 99)), none, none] [] H) := by
  obtain ⟨b, w, u, S, W, h⟩ := h
  exact bt_0 h (X_lone (d := d + 17) h.1) (R_lone (d := d + 17) h.1)
theorem C_spread (h : RA ρ μ) : BT ρ μ cs (fun H => am_E (d + 20) 106 0 [some (.inr (.inr 0)), none, none, none] [] H) (fun H => am_E (d + 20) 230 0 [some (.inr (.inr 99)), none, none, none, none, none] [] H) := by
  obtain ⟨b, w, u, S, W, h⟩ := h
  exact bt_0 h (X_spread (d := d + 18) h.1) (R_spread (d := d + 19) h.1)
theorem C_silent (h : RA ρ μ) {n k : Int} : BT ρ μ cs (fun H => am_E (d + 20) 118 0 [some (.inr (.inr 0)), some (.inl n), some (.inl k), none, none, none, none, none, none, none] [] H) (fun H => am_E (d + 20) 240 0 [some (.inr (.inr 99)), some (.inl n), some (.inl k), none, none, none, none, none, none] [] H) := by
  obtain ⟨b, w, u, S, W, h⟩ := h
  exact bt_0 h (X_silent (d := d + 19) h.1) (R_silent (d := d + 19) h.1)
theorem C_fault (h : RA ρ μ) {q : Int} : BT ρ μ cs (fun H => am_E (d + 20) 88 0 [some (.inr (.inr 0)), some (.inl q)] [] H) (fun H => am_E (d + 20) 176 0 [some (.inr (.inr 99)), some (.inl q)] [] H) := by
  obtain ⟨b, w, u, S, W, h⟩ := h
  exact bt_0 h (X_fault (d := d + 20) h.1 h.2.2.2.2.2.1.1 h.2.2.2.2.2.1.2) (R_fault (d := d + 20) h.1)
theorem C_count (h : RA ρ μ) {q : Int} : BT ρ μ cs (fun H => am_E (d + 20) 133 0 [some (.inr (.inr 0)), some (.inl q)] [] H) (fun H => am_E (d + 20) 256 0 [some (.inr (.inr 99)), some (.inl q)] [] H) := by
  obtain ⟨b, w, u, S, W, h⟩ := h
  have hn := h.2.2.2.1
  exact bt_0 h (X_count (d := d + 18) h.1 hn.1 hn.2.2.1 hn.2.2.2.1.1 h.2.1.1) (R_count (d := d + 16) h.1)
theorem C_law (h : RA ρ μ) {k t p q : Int} : BT ρ μ cs (fun H => am_E (d + 20) 93 0 [some (.inr (.inr 0)), some (.inl k), some (.inl t), some (.inl p), some (.inl q)] [] H) (fun H => am_E (d + 20) 213 0 [some (.inr (.inr 99)), some (.inl k), some (.inl t), some (.inl p), some (.inl q)] [] H) := by
  obtain ⟨b, w, u, S, W, h⟩ := h
  exact bt_1 (f := fun C _ => .inr (.inl (lawA S C W k t p q))) h (X_law (d := d + 17) h.1) (fun ρ μ h => R_law (d := d + 16) h)
theorem C_pairs (h : RA ρ μ) {t : Int} : BT ρ μ cs (fun H => am_E (d + 20) 102 0 [some (.inr (.inr 0)), some (.inl t), none, none, none] [] H) (fun H => am_E (d + 20) 225 0 [some (.inr (.inr 99)), some (.inl t), none, none, none] [] H) := by
  obtain ⟨b, w, u, S, W, h⟩ := h
  exact bt_1 (f := fun C _ => .inl (pairsA S C W t)) h (X_pairs (d := d + 15) h.1) (fun ρ μ h => R_pairs (d := d + 14) h)
theorem C_rests (h : RA ρ μ) {p q t : Int} : BT ρ μ cs (fun H => am_E (d + 20) 113 0 [some (.inr (.inr 0)), some (.inl p), some (.inl q), some (.inl t), none, none, none] [] H) (fun H => am_E (d + 20) 237 0 [some (.inr (.inr 99)), some (.inl p), some (.inl q), some (.inl t)] [] H) := by
  obtain ⟨b, w, u, S, W, h⟩ := h
  exact bt_1 (f := fun C _ => .inl (restsA S C W p q t)) h (X_rests (d := d + 15) h.1) (fun ρ μ h => R_rests (d := d + 13) h)
theorem C_rest (h : RA ρ μ) {p q t k : Int} (k1 : k < 2147483648) : BT ρ μ cs (fun H => am_E (d + 20) 114 0 [some (.inr (.inr 0)), some (.inl p), some (.inl q), some (.inl t), some (.inl k), none, none, none] [] H) (fun H => am_E (d + 20) 238 0 [some (.inr (.inr 99)), some (.inl p), some (.inl q), some (.inl t), some (.inl k)] [] H) := by
  obtain ⟨b, w, u, S, W, h⟩ := h
  exact bt_1 (f := fun C _ => .inl (restA S C W p q t k)) h (X_rest (d := d + 15) h.1 k1) (fun ρ μ h => R_rest (d := d + 13) h k1)
theorem C_ahead (h : RA ρ μ) {n q i : Int} : BT ρ μ cs (fun H => am_E (d + 20) 98 0 [some (.inr (.inr 0)), some (.inl n), some (.inl q), some (.inl i), none] [] H) (fun H => am_E (d + 20) 219 0 [some (.inr (.inr 99)), some (.inl n), some (.inl q), some (.inl i)] [] H) := by
  obtain ⟨b, w, u, S, W, h⟩ := h
  exact bt_1 (f := fun C _ => .inl (aheadA S C W n q i)) h (X_ahead (d := d + 13) h.1) (fun ρ μ h => R_ahead (d := d + 11) h)
theorem C_when (h : RA ρ μ) {t : Int} : BT ρ μ cs (fun H => am_E (d + 20) 99 0 [some (.inr (.inr 0)), some (.inl t), none] [] H) (fun H => am_E (d + 20) 220 0 [some (.inr (.inr 99)), some (.inl t), none] [] H) := by
  obtain ⟨b, w, u, S, W, h⟩ := h
  exact bt_1 (f := fun C _ => .inl (whenA S C W t)) h (X_when (d := d + 13) h.1) (fun ρ μ h => R_when (d := d + 12) h)
theorem C_hears (h : RA ρ μ) {p t : Int} : BT ρ μ cs (fun H => am_E (d + 20) 100 0 [some (.inr (.inr 0)), some (.inl p), some (.inl t), none] [] H) (fun H => am_E (d + 20) 221 0 [some (.inr (.inr 99)), some (.inl p), some (.inl t), none] [] H) := by
  obtain ⟨b, w, u, S, W, h⟩ := h
  exact bt_1 (f := fun C _ => .inl (hearsA S C W p t)) h (X_hears (d := d + 13) h.1) (fun ρ μ h => R_hears (d := d + 12) h)
theorem C_chance (h : RA ρ μ) {z n p t : Int} (z1 : z < 2147483648) : BT ρ μ cs (fun H => am_E (d + 20) 128 0 [some (.inr (.inr 0)), some (.inl z), some (.inl n), some (.inl p), some (.inl t), none, none, none, none, none] [] H) (fun H => am_E (d + 20) 251 0 [some (.inr (.inr 99)), some (.inl z), some (.inl n), some (.inl p), some (.inl t), none, none, none, none] [] H) := by
  obtain ⟨b, w, u, S, W, h⟩ := h
  exact bt_1 (f := fun _ C => .inl (chanA S C W z n p t)) h (X_chance (d := d + 13) h.1 z1) (fun ρ μ h => R_chance (d := d + 12) h z1)
theorem C_hush (h : RA ρ μ) {t : Int} : BT ρ μ cs (fun H => am_E (d + 20) 104 0 [some (.inr (.inr 0)), some (.inl t), none, none, none] [] H) (fun H => am_E (d + 20) 229 0 [some (.inr (.inr 99)), some (.inl t), none, none] [] H) := by
  obtain ⟨b, w, u, S, W, h⟩ := h
  exact bt_1 (f := fun C _ => .inl (hushA S C W t)) h (X_hush (d := d + 12) h.1) (fun ρ μ h => R_hush (d := d + 10) h)
theorem C_tried (h : RA ρ μ) {q i n : Int} : BT ρ μ cs (fun H => am_E (d + 20) 129 0 [some (.inr (.inr 0)), some (.inl q), some (.inl i), some (.inl n), none, none] [] H) (fun H => am_E (d + 20) 252 0 [some (.inr (.inr 99)), some (.inl q), some (.inl i), some (.inl n), none] [] H) := by
  obtain ⟨b, w, u, S, W, h⟩ := h
  obtain ⟨ρ', μ', g0, g1, g2⟩ := X_tried (cs := cs) (d := d + 13) (n := n) (C := trC μ q i) h.1 (fun g => trC_tc h.1 g.1 g.2)
  obtain ⟨μ2, k1, k2⟩ := R_tried (cs := cs) (d := d + 11) (q := q) (i := i) (n := n) (rl_q h.1 g0 (fry_q g1))
  have e : trC μ' q i = trC μ q i := by
    unfold trC
    refine CR_ext ?_ (fun k h0 h1 => ?_) 0
    · rw [sr_up (by omega), sr_up (by omega), sr_up (by omega), sr_up (by omega)]; exact frq_SR (fry_q g1)
    · rcases (show k = 49 ∨ k = 50 ∨ (51 ≤ k ∧ k ≤ 53) by omega) with rfl | rfl | g
      · simp (disch := omega) only [up_k, up_eq]
      · simp (disch := omega) only [up_k, up_eq]
      · simp (disch := omega) only [up_k]
        exact g1 99 k (by omega)
  rw [e] at k2
  exact ⟨_, ρ', μ', μ2, g2, k2, b, w, u, S, W, ra_q h g0 (frq_tr (fry_q g1) k1)⟩
end QX
