/-! BENTS: both -/
def ntN (μ : Nat → Nat → Int) : Nat := (if μ 99 59 = -1 then μ 99 58 else μ 99 59).toNat
def ntL (μ : Nat → Nat → Int) : Nat → Bool := lvN (μ 138) (ntN μ)
def ntD (μ : Nat → Nat → Int) : Int := ldy (ntL μ) (μ 134) (ntN μ)
def ntQ (μ : Nat → Nat → Int) : Int → MW → Bool := soQ (ntL μ) (μ 134) (μ 89) (μ 90) (μ 136) (μ 137) (ntN μ)
def bentsF (μ : Nat → Nat → Int) (S : MS) (p : Int) (v : Nat) : Bool := fitF (ntQ μ) S (cB S p v) (ntD μ).toNat 1 (startW S)
def bentsV (μ : Nat → Nat → Int) (S : MS) (p : Int) : Nat := bnt (bentsF μ S p) 10
theorem bentsV_fr {μ μ' : Nat → Nat → Int} (hf : ∀ q k, q = 89 ∨ q = 90 ∨ (134 ≤ q ∧ q ≤ 138) ∨ (q = 99 ∧ (k = 58 ∨ k = 59)) → μ' q k = μ q k) (S : MS) (p : Int) : bentsV μ' S p = bentsV μ S p := by
  have e1 : μ' 89 = μ 89 := funext fun k => hf _ k (by omega)
  have e2 : μ' 90 = μ 90 := funext fun k => hf _ k (by omega)
  have e3 : μ' 134 = μ 134 := funext fun k => hf _ k (by omega)
  have e4 : μ' 136 = μ 136 := funext fun k => hf _ k (by omega)
  have e5 : μ' 137 = μ 137 := funext fun k => hf _ k (by omega)
  have e6 : μ' 138 = μ 138 := funext fun k => hf _ k (by omega)
  have e7 : ntN μ' = ntN μ := by unfold ntN; rw [hf 99 58 (by omega), hf 99 59 (by omega)]
  unfold bentsV bentsF ntQ ntD ntL
  rw [e1, e2, e3, e4, e5, e6, e7]
section BM
variable {ρ : Nat → Nat → Nat} {μ : Nat → Nat → Int} {cs : Nat × Nat × Nat} {d b w u : Nat} {S : MS} {W V : MW} {C : MC} {N a : Nat} {dy mn th ht is o : Nat → Int} {L g : Nat → Bool}
theorem nt_km (h : NTS μ S) : KM μ (ntN μ) ∧ (ntN μ : Int) ≤ μ 99 58 ∧ ntN μ ≤ 24 := by
  obtain ⟨h1, h2, h3, h4, -⟩ := h
  unfold KM ntN
  by_cases e : μ 99 59 = -1
  · rw [if_pos e]; omega
  · rw [if_neg e]; omega
theorem nt_lv (μ : Nat → Nat → Int) (j : Nat) (h : ntL μ j = true) : j < ntN μ ∧ μ 138 j = -1 := by
  unfold ntL lvN at h
  have := of_decide_eq_true h
  exact ⟨this.1, this.2.2⟩
theorem nt_xn (hS : SI S) (h : NTS μ S) {μ1 : Nat → Nat → Int} (hf : ∀ q k, ¬ (q = 94) → μ1 q k = μ q k) (h9 : ∀ j, j < 24 → μ1 94 j = if ntL μ j = true then 1 else 0) : XN μ1 (μ 99 58).toNat (ntL μ) (μ 134) (μ 89) (μ 90) (μ 136) (μ 137) := by
  have k := nt_km h
  obtain ⟨h1, h2, h3, h4, h5⟩ := h
  have s0 := hS.1
  have s1 := hS.2.1
  refine ⟨by rw [hf _ _ (by omega)]; omega, by omega, h9, fun j hj hL => ?_⟩
  have l := nt_lv μ j hL
  have g := (h5 j (by omega)).2.2 l.2
  rw [hf 88 _ (by omega), hf 89 _ (by omega), hf 90 _ (by omega), hf 91 _ (by omega), hf 92 _ (by omega)]
  exact ⟨⟨g.1.1, rfl, rfl, g.2.2.2.2.1.1, g.2.2.2.2.2.1⟩, g.1.2, by omega, by omega, g.2.2.2.2.1.2, g.2.2.2.2.2.2⟩
theorem nt_rn (hS : SI S) (h : NTS μ S) {μ1 : Nat → Nat → Int} (hf : ∀ q k, ¬ (q = 139) → ¬ (q = 99 ∧ k = 0) → μ1 q k = μ q k) (h9 : ∀ j, j < ntN μ → μ1 139 j = if sft (μ 138) (ntN μ) (fun _ => false) j = true then 1 else 0) : RN μ1 (ntN μ) (μ 138) (sft (μ 138) (ntN μ) (fun _ => false)) (μ 134) (μ 89) (μ 90) (μ 136) (μ 137) := by
  have k := nt_km h
  obtain ⟨h1, h2, h3, h4, h5⟩ := h
  have s0 := hS.1
  have s1 := hS.2.1
  refine ⟨?_, k.2.2, h9, fun j hj => hf _ _ (by omega) (by omega), fun j hj ho => ?_⟩
  · unfold KM; rw [hf 99 58 (by omega) (by omega), hf 99 59 (by omega) (by omega)]; exact k.1
  have g := (h5 j (by omega)).2.2 ho
  rw [hf 134 _ (by omega) (by omega), hf 135 _ (by omega) (by omega), hf 136 _ (by omega) (by omega), hf 137 _ (by omega) (by omega)]
  exact ⟨⟨rfl, g.2.2.2.1, rfl, rfl⟩, g.1.2, by omega, by omega, g.2.2.2.2.1.2, g.2.2.2.2.2.2⟩
theorem nt_d (h : NTS μ S) : 0 ≤ ntD μ ∧ ntD μ ≤ 60 := by
  refine ldy_b (N := 0) (fun j hL => ?_) _
  have k := nt_km h
  have l := nt_lv μ j hL
  have g := (h.2.2.2.2 j (by omega)).2.2 l.2
  omega
theorem R_bent_loop (hρ : RM ρ) {LD : Int} (hL0 : 0 ≤ LD) (hLD : LD ≤ 60) (hS : SI S) {p : Int} (hb2 : ∀ p, 0 ≤ p → p < S 0 0 → 0 ≤ S 2 p ∧ S 2 p ≤ 9) (hL : ∀ j, j < N → L j = decide (g j = false ∧ o j = -1)) {F : Nat → Bool} (hF : ∀ v : Nat, F v = fitF (soQ L dy mn th ht is N) S (cB S p v) LD.toNat 1 (startW S)) : ∀ (n v : Nat) (μ : Nat → Nat → Int), v + n = 10 → SR μ = S → μ 99 49 = 0 → μ 99 53 = 0 → μ 99 51 = p → RN μ N o g dy mn th ht is → ∃ μ1, (∀ q k, ¬ FrT 1 q k → ¬ FrS q k → ¬ (q = 99 ∧ (k = 51 ∨ k = 52)) → μ1 q k = μ q k) ∧ μ1 99 51 = -1 ∧ am_E (d + 9) 247 129 [some (.inr (.inr 99)), some (.inl p), some (.inl LD), some (.inl ((bnt F v : Nat) : Int)), some (.inl (v : Int))] [] (SH, ρ, μ, cs) = some (some (.inl ((bnt F 10 : Nat) : Int)), (SH, ρ, μ1, cs)) := by
  intro n
  induction n with
  | zero =>
    intro v μ hv h1 h49 h53 h51 hn
    have hv' : v = 10 := by omega
    subst hv'
    refine ⟨am_up μ 99 51 (-1), fun q k _ _ h => am_up_no (by omega), up_eq .., ?_⟩
    rw [e247_129]; simp (disch := (first | omega | (simp (disch := omega) only [sr_up, wr_up_o]; omega))) only [e247_172, ks_99, ite_self, Bool.false_eq_true, eq_self, isk_t, i20_t, w20_t, l23_t, b21_t, b22_t, w_t, bif_t, bif_f, bif_d, if_pos, if_neg, if_true, if_false, not_true_eq_false, not_false_eq_true, Option.bind_some, Option.toList_some, Option.toList_none, List.cons_append, List.nil_append, Int.toNat_natCast, Int.reduceToNat, up_eq, up_p, up_k, sN]
  | succ n ih =>
    intro v μ hv h1 h49 h53 h51 hn
    have hfr : ∀ q k, ¬ (q = 99 ∧ k = 52) → am_up μ 99 52 (v : Int) q k = μ q k := fun q k h => am_up_no h
    have h1' : SR (am_up μ 99 52 (v : Int)) = S := by rw [sr_up (by omega)]; exact h1
    obtain ⟨μ2, k1, k2⟩ := R_fits (ρ := ρ) (cs := cs) (d := d) (L := L) (LD := LD) (p := p) (v := (v : Int)) hρ hL0 hLD hS (cB_ci hS hb2 (by omega) (by omega)) hL h1' (by rw [hfr _ _ (by omega)]; exact h49) (by rw [hfr _ _ (by omega)]; exact h53) (by rw [hfr _ _ (by omega)]; exact h51) (up_eq ..) (rn_fr hn (fun q i gq => hfr q i (by omega)))
    rw [← hF v] at k2
    have hfr2 : ∀ q k, ¬ FrT 1 q k → ¬ FrS q k → ¬ (q = 99 ∧ k = 52) → μ2 q k = μ q k := fun q k a1 a2 a3 => by rw [k1 q k a1 a2, hfr q k a3]
    obtain ⟨μ3, j1, j2, j3⟩ := ih (v + 1) μ2 (by omega) ((frw_SR k1).trans h1') (by rw [hfr2 _ _ (by omega) (by omega) (by omega)]; exact h49) (by rw [hfr2 _ _ (by omega) (by omega) (by omega)]; exact h53) (by rw [hfr2 _ _ (by omega) (by omega) (by omega)]; exact h51) (rn_fr hn (fun q i gq => hfr2 q i (by omega) (by omega) (by omega)))
    refine ⟨μ3, fun q k a1 a2 a3 => by rw [j1 q k a1 a2 a3, hfr2 q k a1 a2 (by omega)], j2, ?_⟩
    have e1 : ((v + 1 : Nat) : Int) = (v : Int) + 1 := by omega
    have e2 : bnt F (v + 1) = if F v = true then bnt F v ||| 2 ^ v else bnt F v := rfl
    have e3 := bnt_lt (F := F) v (by omega)
    rw [e1, e2] at j3
    rw [← j3]
    clear j3 e2 j1 j2
    generalize bnt F v = z at e3 ⊢
    by_cases c : F v = true
    · rw [if_pos c] at k2
      have e4 : am_or (z : Int) (am_shl 1 (v : Int)) = ((z ||| 2 ^ v : Nat) : Int) := by
        have := ib_or1 (a := z) (k := (v : Int)) (by omega) (by omega) (by omega)
        rw [Int.toNat_natCast] at this
        exact this
      rw [if_pos c]
      rw [e247_129]; simp (disch := (first | omega | (simp (disch := omega) only [sr_up, wr_up_o]; omega))) only [e247_148, ks_99, ite_self, Bool.false_eq_true, eq_self, isk_t, i20_t, w20_t, l23_t, b21_t, b22_t, w_t, bif_t, bif_f, bif_d, if_pos, if_neg, if_true, if_false, not_true_eq_false, not_false_eq_true, Option.bind_some, Option.toList_some, Option.toList_none, List.cons_append, List.nil_append, Int.toNat_natCast, Int.reduceToNat, up_eq, up_p, up_k, sN,  k2, e4 ]
    · rw [if_neg c] at k2
      have e4 : am_or (z : Int) 0 = (z : Int) := ib_or0 (by omega)
      rw [if_neg c]
      rw [e247_129]; simp (disch := (first | omega | (simp (disch := omega) only [sr_up, wr_up_o]; omega))) only [e247_148, ks_99, ite_self, Bool.false_eq_true, eq_self, isk_t, i20_t, w20_t, l23_t, b21_t, b22_t, w_t, bif_t, bif_f, bif_d, if_pos, if_neg, if_true, if_false, not_true_eq_false, not_false_eq_true, Option.bind_some, Option.toList_some, Option.toList_none, List.cons_append, List.nil_append, Int.toNat_natCast, Int.reduceToNat, up_eq, up_p, up_k, sN,  k2, e4 ]
theorem R_bentsOf (h : RAx ρ μ b w u S W) {p : Int} (hb2 : ∀ p, 0 ≤ p → p < S 0 0 → 0 ≤ S 2 p ∧ S 2 p ≤ 9) : ∃ μ', FrQ μ μ' ∧ am_E (d + 9) 247 0 [some (.inr (.inr 99)), some (.inl p), none, none, none] [] (SH, ρ, μ, cs) = some (some (.inl ((bentsV μ S p : Nat) : Int)), (SH, ρ, μ', cs)) := by
  obtain ⟨h, r2, r3, r4, r5, r6, r7, r8⟩ := h
  have h0 := h
  obtain ⟨hx, hρ, hb, hgs, hw46, hu64, hSR, hS, hX, hWR, hWI, hW, hday, h49, h51, h53⟩ := h; have hw : w = 46 ∨ w = 55 ∨ w = 64 := Or.inl hw46; have hu : u = 46 ∨ u = 55 ∨ u = 64 := Or.inr (Or.inr hu64); have hn5 := (xm_0_5 hx).trans hw46.symm; have hn7 := (xm_0_7 hx).trans hu64.symm; have b0 := hS.1; have b1 := hS.2.1
  have k := nt_km r4
  have kd := nt_d r4
  have ho : ∀ j : Nat, j < ntN μ → -1 ≤ μ 138 j ∧ μ 138 j < j := fun j hj => (r4.2.2.2.2 j (by omega)).2.1
  obtain ⟨μ1, a1, a2, a3⟩ := R_clear (ρ := ρ) (cs := cs) (d := d + 8) (p := p) hρ k.2.2 (ntN μ) 0 μ k.1 (by omega)
  obtain ⟨μ2, b1, b2, b3⟩ := R_strikes (ρ := ρ) (cs := cs) (d := d + 8) (p := p) (x2 := 0) hρ k.2.2 ho (ntN μ) (fun _ => false) μ1 (Nat.le_refl _) (fun j hj => a1 _ _ (by omega)) (fun j hj => by rw [a2 j (by omega) hj]; rfl)
  have f2 : ∀ q i, ¬ (q = 139) → μ2 q i = μ q i := fun q i hq => by rw [b1 q i (by omega), a1 q i (by omega)]
  have hn2 := nt_rn (μ1 := μ2) hS r4 (fun q i hq _ => f2 q i hq) b2
  have hL : ∀ j, j < ntN μ → ntL μ j = decide (sft (μ 138) (ntN μ) (fun _ => false) j = false ∧ μ 138 j = -1) := fun j hj => by
    unfold ntL lvN
    simp [hj]
  have c3 := R_last (ρ := ρ) (cs := cs) (d := d + 8) (p := p) (dy := μ 134) (L := ntL μ) (μ := μ2) hρ k.2.2 hn2.1 hn2.2.2.2.1 b2 (fun j hj => f2 _ _ (by omega)) hL (ntN μ) 0 (by omega)
  have f3 : ∀ q i, ¬ (q = 99 ∧ i = 51) → am_up μ2 99 51 p q i = μ2 q i := fun q i hq => am_up_no hq
  obtain ⟨μ4, d1, d2, d3⟩ := R_bent_loop (ρ := ρ) (cs := cs) (d := d) (p := p) (LD := ntD μ) (F := bentsF μ S p) hρ kd.1 kd.2 hS hb2 hL (fun v => rfl) 10 0 (am_up μ2 99 51 p) (by omega) (by rw [sr_up (by omega), ← hSR]; exact sr_ext (fun q k g0 g1 => f2 q k (by omega))) (by rw [f3 _ _ (by omega), f2 _ _ (by omega)]; exact h49) (by rw [f3 _ _ (by omega), f2 _ _ (by omega)]; exact h53) (up_eq ..) (rn_fr hn2 (fun q i gq => f3 q i (by omega)))
  refine ⟨μ4, fun q k hq => ?_, ?_⟩
  · by_cases c : q = 99 ∧ k = 51
    · obtain ⟨rfl, rfl⟩ := c
      rw [d2, h51]
    · rw [d1 q k (by omega) (by omega) (by omega), f3 q k c, f2 q k (by omega)]
  · rw [e247_0]
    exact a3.trans (b3.trans (c3.trans d3))
end BM
