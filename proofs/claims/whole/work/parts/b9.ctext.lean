/-! BOTH: text -/
section CTX
variable {ρ : Nat → Nat → Nat} {μ : Nat → Nat → Int} {cs : Nat × Nat × Nat} {d : Nat}
theorem wi_big {S : MS} {D D' : Int} {W : MW} (h : WI S D W) (hD : D ≤ D') : WI S D' W := by
  obtain ⟨a1, a2, a3, a4, a5, a6⟩ := h
  refine ⟨by omega, a2, a3, by omega, fun t h0 h1 => ?_, fun p t p0 p1 h0 h1 => ?_⟩
  · obtain ⟨g1, g2, g3⟩ := a5 t h0 h1
    exact ⟨g1, by omega, g3⟩
  · obtain ⟨g1, g2, g3, g4, g5, g6⟩ := a6 p t p0 p1 h0 h1
    exact ⟨g1, by omega, g3, g4, g5, g6⟩
theorem st_8 {S S' : MS} (h : S' 0 8 = S 0 8) : startW S' = startW S := by
  unfold startW
  rw [h]
theorem C_text (h : RA ρ μ) {x : Int} : BT ρ μ cs (fun H => am_E (d + 300) 87 0 [some (.inr (.inr 0)), some (.inl x), none, none] [] H) (fun H => am_E (d + 300) 175 0 [some (.inr (.inr 99)), some (.inl x), none] [] H) := by
  obtain ⟨b, w, u, S, W, h⟩ := h
  obtain ⟨hq, hU, hI, hN, hTp, hFl, hC, hW0⟩ := id h
  obtain ⟨hx, hρ, hb, h03, hw46, hu64, hSR, hS, hX, hWR, hWI, hXW, hday, h49, h51, h53⟩ := hq
  obtain ⟨t1, t2, t3⟩ := hTp
  by_cases hbad : x < 0 ∨ μ 0 1 < x
  · exact ⟨.inl (-2), ρ, μ, am_up μ 99 0 0, X_textN (d := d + 299) hx hbad, R_textN (d := d + 299) hρ (by rw [← t1]; exact hbad), b, w, u, S, W, ra_q h (frr_rf ρ) (fun q k hk => am_up_no (by omega))⟩
  obtain ⟨n, rfl⟩ : ∃ n : Nat, x = (n : Int) := ⟨x.toNat, by omega⟩
  subst hw46 hu64
  obtain ⟨c1, c2, c3, c4⟩ := id hC
  have hn7 : n ≤ 700 := by omega
  have hc : 23 - b = 2 ∨ 23 - b = 21 := by omega
  obtain ⟨ρ', μ1, z1, f⟩ := X_text (d := d + 291) (cs := cs) (Z := SR2 μ) (b := fun i => μ 1 i) (n := n) (μ := μ) hx hc c1 h03 (by omega) hn7 (fun i _ => rfl) c2 c3 (fun s hs => by
    have : s = 0 ∨ s = 1 ∨ s = 2 ∨ s = 3 := by omega
    rcases this with rfl | rfl | rfl | rfl
    · exact c4.1
    · exact c4.2.1
    · exact c4.2.2.1
    · exact c4.2.2.2)
  cases hp : pSF (fun i => μ 1 i) n (n + 1) (zt (SR2 μ)) 0 0 0 with
  | inl q =>
    rw [hp] at f
    obtain ⟨f1, f2, f3, f4⟩ := f
    have hρ' : RM ρ' := rm_fr hρ (fun k => f1 99 k (by omega))
    have e1 : SR2 μ1 = SR2 μ := sr2_fr (fun q k q0 q1 => f2 _ _ (by omega))
    obtain ⟨μ2, y1, g⟩ := R_text (d := d + 97) (cs := cs) (ρ := ρ') (μ := μ1) (n := n) (b := fun i => μ 1 i) hρ' (by rw [f2 _ _ (by omega)]; omega) hn7 (fun i hi => by
      rw [f2 _ _ (by omega)]
      have := t3 i (by omega)
      exact ⟨this.2, this.1⟩)
    rw [e1, hp] at g
    obtain ⟨g1, g2, g3, g4⟩ := g
    have fr : ∀ q k, ¬ ((q = 0 ∧ k = 1) ∨ (q = 41 ∧ 2 ≤ k ∧ k ≤ 6) ∨ (q = 40 ∧ 3 ≤ k ∧ k ≤ 7) ∨ (23 - b ≤ q ∧ q < 23 - b + 19) ∨ q = 44 ∨ q = 45 ∨ (q = 99 ∧ (k = 0 ∨ k = 2 ∨ (21 ≤ k ∧ k ≤ 33))) ∨ (101 ≤ q ∧ q ≤ 118 ∧ hfR (q - 101) ≤ k)) → μ2 q k = μ q k := fun q k hk => by rw [g1 q k (by omega), f2 q k (by omega)]
    have hE : SE S (SR μ2) := fun a k ha h0 h1 => by
      rw [← hSR]
      unfold SR
      rw [if_pos ha, if_pos ha]
      refine fr _ _ ?_
      have e : 101 + a - 101 = a := by omega
      rw [e]
      omega
    have hwr : ∀ s : Int, 0 ≤ s → WR μ2 s = WR μ s := fun s hs => WR_s hs (fun q k hk => fr q k (by
      have : 121 ≤ q ∧ q ≤ 130 := by
        rcases hk with z | z | z <;> omega
      omega))
    have e00 := se_0 hE 0 (by omega) (by omega)
    have e01 := se_0 hE 1 (by omega) (by omega)
    refine ⟨.inl (-1), ρ', μ1, μ2, f4, g4, b, 46, 64, SR μ2, W, ?_⟩
    refine ⟨⟨xm_t hx (fun p k a1 a2 a3 _ => f1 p k (by omega)), hρ', hb, by rw [f1 _ _ (by omega)]; exact h03, rfl, rfl, rfl, si_ext hS hE, xs_ext (xs_fr hX (fun q k q0 q1 => fr q k (by omega))) hS hE, (hwr 0 (by omega)).trans hWR, wi_ext hWI e00 e01, xw_fr hXW (fun q k q0 q1 => fr q k (by omega)), hday, ?_, ?_, ?_⟩, ?_, ?_, ?_, ?_, ?_, ?_, wi_ext hW0 e00 e01⟩
    · rw [fr _ _ (by omega)]; exact h49
    · rw [fr _ _ (by omega)]; exact h51
    · rw [fr _ _ (by omega)]; exact h53
    · exact und_ext (und_fr hU (fr _ _ (by omega)) (fr _ _ (by omega)) (fun q i q0 q1 => fr _ _ (by omega)) (fun s s0 s1 => hwr s (by omega))) hE
    · exact img_ext (img_fr hI (fr _ _ (by omega)) (fr _ _ (by omega)) (fun q k q0 q1 => fr _ _ (by omega)) (hwr 2 (by omega))) hE
    · exact nts_ext (nts_fr hN (fun k _ => fr _ _ (by omega)) (fr _ _ (by omega)) (fr _ _ (by omega)) (fun q i g => fr _ _ (by omega))) hE
    · have w1 : μ2 0 1 = 0 := by rw [g1 _ _ (by omega)]; exact z1
      exact ⟨by rw [w1, y1.2], by rw [y1.2]; omega, fun i hi => by rw [y1.2] at hi; omega⟩
    · rw [g2, g3, g1 _ _ (by omega), g1 _ _ (by omega)]
      exact f3
    · exact cst_fr hC (f1 _ _ (by omega)) (fun i => fr _ _ (by omega)) (fun q i g => fr _ _ (by omega))
  | inr z =>
    rw [hp] at f
    obtain ⟨f1, f3, f2, f5, f6, f7, f4⟩ := f
    have hρ' : RM ρ' := rm_fr hρ (fun k => f1 99 k (by omega))
    have e1 : SR2 μ1 = SR2 μ := sr2_fr (fun q k q0 q1 => f2 _ _ (by omega))
    obtain ⟨μ2, y1, g⟩ := R_text (d := d + 97) (cs := cs) (ρ := ρ') (μ := μ1) (n := n) (b := fun i => μ 1 i) hρ' (by rw [f2 _ _ (by omega)]; omega) hn7 (fun i hi => by
      rw [f2 _ _ (by omega)]
      have := t3 i (by omega)
      exact ⟨this.2, this.1⟩)
    rw [e1, hp] at g
    obtain ⟨g1, g2, g3, g5, g6, g7, g4⟩ := g
    have hSz : SI z.1 := psf_ok (n + 1) _ _ _ _ z (by omega) (zt_si _) (zt_lb _) hp
    have fr2 : ∀ q k, q < 99 → μ2 q k = μ1 q k := fun q k hk => g1 q k (by
      intro e
      rcases e with e | e | e
      · omega
      · omega
      · rcases e with e | e | e <;> omega)
    have fr9 : ∀ k, k = 49 ∨ k = 51 ∨ k = 53 → μ2 99 k = μ 99 k := fun k hk => by rw [g1 _ _ (by omega), f2 _ _ (by omega)]
    have frK : ∀ q k, 1000001 ≤ q → μ2 q k = μ q k := fun q k hk => by rw [g1 _ _ (by omega), f2 _ _ (by omega)]
    have hE : SE z.1 (SR μ2) := fun a k ha h0 h1 => by
      unfold SR
      rw [if_pos ha, g5 a k.toNat ha h1, Int.toNat_of_nonneg h0]
    have hSI := si_ext hSz hE
    have e8 := st_8 (se_0 hE 8 (by omega) (by omega))
    have ew : startW (SR μ2) 0 0 0 = 0 := by
      unfold startW
      rw [if_pos (by decide), if_neg (by decide), if_neg (by decide), if_neg (by decide)]
    refine ⟨.inl (z.2.2 : Int), ρ', μ1, μ2, f4, g4, 23 - b, 46, 64, SR μ2, startW (SR μ2), ?_⟩
    refine ⟨⟨xm_t hx (fun p k a1 a2 a3 a4 => f1 p k (by omega)), hρ', hc, f3.1, rfl, rfl, rfl, hSI, xs_ext (xs_fr f5 (fun q k q0 q1 => fr2 q k (by omega))) hSz hE, g6, wi_big (wi_start hSI) (by omega), ?_, by omega, ?_, ?_, ?_⟩, ?_, ?_, ?_, ?_, ?_, ?_, ?_⟩
    · rw [e8]; exact xw_fr f6 (fun q k q0 q1 => fr2 q k (by omega))
    · rw [fr9 _ (by omega)]; exact h49
    · rw [fr9 _ (by omega)]; exact h51
    · rw [fr9 _ (by omega)]; exact h53
    · refine ⟨?_, by omega, by omega, fun i hi => by omega⟩
      rw [fr2 _ _ (by omega), f7.2.1, g7.2.2.2]
    · refine ⟨?_, Or.inl g7.2.2.1⟩
      rw [fr2 _ _ (by omega), f7.1, g7.2.2.1]
    · refine ⟨?_, by omega, ?_, by omega, fun i hi => by omega⟩
      · rw [fr2 _ _ (by omega), f7.2.2.1, g7.1]
      · rw [fr2 _ _ (by omega), f7.2.2.2.1, g7.2.1]
    · have w1 : μ2 0 1 = 0 := by rw [fr2 _ _ (by omega)]; exact z1
      exact ⟨by rw [w1, y1.2], by rw [y1.2]; omega, fun i hi => by rw [y1.2] at hi; omega⟩
    · rw [g2, g3, fr2 _ _ (by omega), fr2 _ _ (by omega)]
      exact ⟨f7.2.2.2.2.1, f7.2.2.2.2.2⟩
    · refine ⟨by rw [f3.2]; omega, fun i hi => ?_, ?_, ?_⟩
      · rw [fr2 _ _ (by omega), f2 _ _ (by omega)]; exact c2 i hi
      · rw [frK _ _ (by omega), frK _ _ (by omega), frK _ _ (by omega), frK _ _ (by omega)]; exact c3
      · rw [frK _ _ (by omega), frK _ _ (by omega), frK _ _ (by omega), frK _ _ (by omega)]; exact c4
    · rw [ew]; exact wi_start hSI
end CTX
