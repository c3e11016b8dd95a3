/-! TEXT: the reference's lines against what a line says -/
section RLE
variable {ρ : Nat → Nat → Nat} {μ : Nat → Nat → Int} {cs : Nat × Nat × Nat} {d n a ts : Nat} {b : Nat → Int} {Z : MS}
theorem R_line (hρ : RM ρ) (h : RH μ b n a) (hn : 0 ≤ μ 99 22) (hn2 : μ 99 22 < 1000) (hZ : SR2 μ = Z) (hS : SI Z) (hl : LB Z) (hT : TD μ ts Z) (h32 : μ 99 32 = 0) (h33 : μ 99 33 = Z 0 9) : RLy ρ cs b n μ (am_E (d + 200) 163 0 [some (.inr (.inr 99)), none, none, none, none, none] [] (SH, ρ, μ, cs)) (pL b n Z ts (tok b n a)) := by
  have t0 := tok_nn b n a
  obtain ⟨w, hw⟩ := Int.eq_ofNat_of_zero_le t0
  have hw : (tok b n a).1 = (w : Int) := hw
  have hZx : ∀ i : Nat, μ 101 (10 + i) = Z 0 i := fun i => by rw [← hZ]; rfl
  obtain ⟨c0, hc0⟩ := Int.eq_ofNat_of_zero_le hS.1.1
  obtain ⟨c1, hc1⟩ := Int.eq_ofNat_of_zero_le hS.2.1.1
  obtain ⟨c2, hc2⟩ := Int.eq_ofNat_of_zero_le hS.2.2.1.1
  obtain ⟨c3, hc3⟩ := Int.eq_ofNat_of_zero_le hS.2.2.2.1.1
  obtain ⟨c4, hc4⟩ := Int.eq_ofNat_of_zero_le hS.2.2.2.2.1.1
  have b0 := hS.1.2
  have b1 := hS.2.1.2
  have b2 := hS.2.2.1.2
  have b3 := hS.2.2.2.1.2
  have b4 := hS.2.2.2.2.1.2
  by_cases w9 : 9 < w
  · obtain ⟨μ', f1, f2, f3⟩ := R_lnB (d := d + 199) (cs := cs) hρ h (by omega)
    have hp : pL b n Z ts (tok b n a) = .inl (1, (tok b n a).2.2.1) := by
      unfold pL
      rw [if_neg (by omega), if_neg (by omega), if_neg (by omega), if_neg (by omega), if_neg (by omega), if_neg (by omega), if_neg (by omega)]
    rw [hp]
    exact ⟨μ', f1, f2, f3⟩
  have hk : w = 0 ∨ w = 1 ∨ w = 2 ∨ w = 3 ∨ w = 4 ∨ (5 ≤ w ∧ w ≤ 8) ∨ w = 9 := by omega
  rcases hk with rfl | rfl | rfl | rfl | rfl | ⟨w5, w8⟩ | rfl
  · have hp : pL b n Z ts (tok b n a) = bnd (pMan b n Z (tok b n a).2.2.1 (tok b n a).2.2.2) fun z => .inr (z, ts) := by
      unfold pL
      rw [if_pos (by omega)]
    rw [hp]
    unfold pMan
    have hx := hZx 0
    have hx : μ 101 10 = Z 0 0 := hx
    have hg := R_full0 (d := d + 198) (ρ := ρ) (μ := μ) (cs := cs) hρ
    by_cases q : 7 ≤ Z 0 0
    · rw [if_pos q]
      have hf := R_full0 (d := d + 198) (ρ := ρ) (μ := μ) (cs := cs) hρ
      rw [if_pos (by omega)] at hf
      obtain ⟨μ', f1, f2, f3⟩ := R_lnF (d := d + 197) (cs := cs) hρ h hw (by omega) hf
      exact ⟨μ', f1, f2, f3⟩
    · rw [if_neg q]
      rw [if_neg (by omega)] at hg
      obtain ⟨μ2, g1, g2, g3, g4, g5, g6, g7, g8⟩ := R_head (d := d) (cs := cs) hρ h hw (by omega) hZ hT hg (fun e => by omega)
      rw [if_neg (by omega)] at g4
      rw [g8]
      refine rlo_z (R_man (d := d + 192) (cs := cs) (i := c0) hρ g2 (by omega) (by omega) g3 hc0 (by omega)) g1 g4 g5 (by rw [g6]; exact h32) (by rw [g7]; exact h33) (fun z hz => ?_)
      obtain ⟨q1, i1, hz⟩ := bnd_inr hz
      obtain ⟨q2, i2, hz⟩ := bnd_inr hz
      obtain ⟨q3, i3, hz⟩ := bnd_inr hz
      cases hz
      exact lz_zp (lz_zp (lz_zp (lz_rf Z) (by omega)) (by omega)) (by simp)
  · have hp : pL b n Z ts (tok b n a) = bnd (pThing b n Z (tok b n a).2.2.1 (tok b n a).2.2.2) fun z => .inr (z, ts) := by
      unfold pL
      rw [if_neg (by omega), if_pos (by omega)]
    rw [hp]
    unfold pThing
    have hx := hZx 1
    have hx : μ 101 11 = Z 0 1 := hx
    have hg := R_full1 (d := d + 198) (ρ := ρ) (μ := μ) (cs := cs) hρ
    by_cases q : 6 ≤ Z 0 1
    · rw [if_pos q]
      have hf := R_full1 (d := d + 198) (ρ := ρ) (μ := μ) (cs := cs) hρ
      rw [if_pos (by omega)] at hf
      obtain ⟨μ', f1, f2, f3⟩ := R_lnF (d := d + 197) (cs := cs) hρ h hw (by omega) hf
      exact ⟨μ', f1, f2, f3⟩
    · rw [if_neg q]
      rw [if_neg (by omega)] at hg
      obtain ⟨μ2, g1, g2, g3, g4, g5, g6, g7, g8⟩ := R_head (d := d) (cs := cs) hρ h hw (by omega) hZ hT hg (fun e => by omega)
      rw [if_neg (by omega)] at g4
      rw [g8]
      refine rlo_z (R_thing2 (d := d + 192) (cs := cs) (i := c1) hρ g2 (by omega) (by omega) g3 hc1 (by omega)) g1 g4 g5 (by rw [g6]; exact h32) (by rw [g7]; exact h33) (fun z hz => ?_)
      obtain ⟨q1, i1, hz⟩ := bnd_inr hz
      obtain ⟨q2, i2, hz⟩ := bnd_inr hz
      obtain ⟨q3, i3, hz⟩ := bnd_inr hz
      obtain ⟨q4, i4, hz⟩ := bnd_inr hz
      cases hz
      exact lz_zp (lz_zp (lz_zp (lz_zp (lz_rf Z) (by omega)) (by omega)) (by omega)) (by simp)
  · have hp : pL b n Z ts (tok b n a) = bnd (pSees b n Z (tok b n a).2.2.1 (tok b n a).2.2.2) fun z => .inr (z, ts) := by
      unfold pL
      rw [if_neg (by omega), if_neg (by omega), if_pos (by omega)]
    rw [hp]
    unfold pSees
    have hx := hZx 2
    have hx : μ 101 12 = Z 0 2 := hx
    have hg := R_full2 (d := d + 198) (ρ := ρ) (μ := μ) (cs := cs) hρ
    by_cases q : 10 ≤ Z 0 2
    · rw [if_pos q]
      have hf := R_full2 (d := d + 198) (ρ := ρ) (μ := μ) (cs := cs) hρ
      rw [if_pos (by omega)] at hf
      obtain ⟨μ', f1, f2, f3⟩ := R_lnF (d := d + 197) (cs := cs) hρ h hw (by omega) hf
      exact ⟨μ', f1, f2, f3⟩
    · rw [if_neg q]
      rw [if_neg (by omega)] at hg
      obtain ⟨μ2, g1, g2, g3, g4, g5, g6, g7, g8⟩ := R_head (d := d) (cs := cs) hρ h hw (by omega) hZ hT hg (fun e => by omega)
      rw [if_neg (by omega)] at g4
      rw [g8]
      refine rlo_z (R_sees (d := d + 189) (cs := cs) (i := c2) hρ g2 (by omega) (by omega) g3 hc0 (by omega) hc1 (by omega) hc2 (by omega)) g1 g4 g5 (by rw [g6]; exact h32) (by rw [g7]; exact h33) (fun z hz => ?_)
      obtain ⟨q1, i1, hz⟩ := bnd_inr hz
      obtain ⟨q2, i2, hz⟩ := bnd_inr hz
      have hz : (if seeB Z q1.1 q2.1 (Z 0 2).toNat 0 = true then _ else _) = _ := hz
      by_cases q5 : seeB Z q1.1 q2.1 (Z 0 2).toNat 0 = true
      · rw [if_pos q5] at hz; cases hz
      rw [if_neg q5] at hz
      obtain ⟨q3, i3, hz⟩ := bnd_inr hz
      cases hz
      exact lz_zp (lz_zp (lz_zp (lz_rf Z) (by omega)) (by omega)) (by simp)
  · have hp : pL b n Z ts (tok b n a) = bnd (pWay b n Z (tok b n a).2.2.1 (tok b n a).2.2.2) fun z => .inr (z, ts) := by
      unfold pL
      rw [if_neg (by omega), if_neg (by omega), if_neg (by omega), if_pos (by omega)]
    rw [hp]
    unfold pWay
    have hx := hZx 3
    have hx : μ 101 13 = Z 0 3 := hx
    have hg := R_full3 (d := d + 198) (ρ := ρ) (μ := μ) (cs := cs) hρ
    by_cases q : 12 ≤ Z 0 3
    · rw [if_pos q]
      have hf := R_full3 (d := d + 198) (ρ := ρ) (μ := μ) (cs := cs) hρ
      rw [if_pos (by omega)] at hf
      obtain ⟨μ', f1, f2, f3⟩ := R_lnF (d := d + 197) (cs := cs) hρ h hw (by omega) hf
      exact ⟨μ', f1, f2, f3⟩
    · rw [if_neg q]
      rw [if_neg (by omega)] at hg
      obtain ⟨μ2, g1, g2, g3, g4, g5, g6, g7, g8⟩ := R_head (d := d) (cs := cs) hρ h hw (by omega) hZ hT hg (fun e => by omega)
      rw [if_neg (by omega)] at g4
      rw [g8]
      refine rlo_z (R_way (d := d + 190) (cs := cs) (i := c3) hρ g2 (by omega) (by omega) g3 hc0 (by omega) hc3 (by omega)) g1 g4 g5 (by rw [g6]; exact h32) (by rw [g7]; exact h33) (fun z hz => ?_)
      obtain ⟨q1, i1, hz⟩ := bnd_inr hz
      obtain ⟨q2, i2, hz⟩ := bnd_inr hz
      have hz : (if q2.1 = q1.1 then _ else _) = _ := hz
      by_cases q5 : q2.1 = q1.1
      · rw [if_pos q5] at hz; cases hz
      rw [if_neg q5] at hz
      obtain ⟨q4, i4, hz⟩ := bnd_inr hz
      obtain ⟨q3, i3, hz⟩ := bnd_inr hz
      cases hz
      exact lz_zp (lz_zp (lz_zp (lz_zp (lz_rf Z) (by omega)) (by omega)) (by omega)) (by simp)
  · have hp : pL b n Z ts (tok b n a) = bnd (pTell b n Z (tok b n a).2.2.1 (tok b n a).2.2.2) fun z => .inr (z, ts) := by
      unfold pL
      rw [if_neg (by omega), if_neg (by omega), if_neg (by omega), if_neg (by omega), if_pos (by omega)]
    rw [hp]
    unfold pTell
    have hx := hZx 4
    have hx : μ 101 14 = Z 0 4 := hx
    have hg := R_full4 (d := d + 198) (ρ := ρ) (μ := μ) (cs := cs) hρ
    by_cases q : 12 ≤ Z 0 4
    · rw [if_pos q]
      have hf := R_full4 (d := d + 198) (ρ := ρ) (μ := μ) (cs := cs) hρ
      rw [if_pos (by omega)] at hf
      obtain ⟨μ', f1, f2, f3⟩ := R_lnF (d := d + 197) (cs := cs) hρ h hw (by omega) hf
      exact ⟨μ', f1, f2, f3⟩
    · rw [if_neg q]
      rw [if_neg (by omega)] at hg
      obtain ⟨μ2, g1, g2, g3, g4, g5, g6, g7, g8⟩ := R_head (d := d) (cs := cs) hρ h hw (by omega) hZ hT hg (fun e => by omega)
      rw [if_neg (by omega)] at g4
      rw [g8]
      refine rlo_z (R_tell2 (d := d + 190) (cs := cs) (i := c4) hρ g2 (by omega) (by omega) g3 hc0 (by omega) hc1 (by omega) hc4 (by omega)) g1 g4 g5 (by rw [g6]; exact h32) (by rw [g7]; exact h33) (fun z hz => ?_)
      obtain ⟨q1, i1, hz⟩ := bnd_inr hz
      obtain ⟨q2, i2, hz⟩ := bnd_inr hz
      obtain ⟨q3, i3, hz⟩ := bnd_inr hz
      obtain ⟨q4, i4, hz⟩ := bnd_inr hz
      cases hz
      exact lz_zp (lz_zp (lz_zp (lz_zp (lz_rf Z) (by omega)) (by omega)) (by omega)) (by simp)
  · obtain ⟨s, rfl⟩ : ∃ s, w = 5 + s := ⟨w - 5, by omega⟩
    have hs : (tok b n a).1 - 5 = (s : Int) := by omega
    have hp : pL b n Z ts (tok b n a) = bnd (pSet b n Z ts (s : Int) (tok b n a).2.2.1 (tok b n a).2.2.2) fun z => .inr (z, ts ||| 2 ^ s) := by
      unfold pL
      rw [if_neg (by omega), if_neg (by omega), if_neg (by omega), if_neg (by omega), if_neg (by omega), if_pos (by omega), hs, Int.toNat_natCast]
    rw [hp]
    unfold pSet
    rw [Int.toNat_natCast]
    by_cases q : ts.testBit s = true
    · rw [if_pos q]
      obtain ⟨μ', f1, f2, f3⟩ := R_lnT (d := d + 197) (cs := cs) hρ h hw (by omega) hT (by rw [show 5 + s - 5 = s by omega]; exact q)
      exact ⟨μ', f1, f2, f3⟩
    · rw [if_neg q]
      have hg := R_full5 (d := d + 198) (ρ := ρ) (μ := μ) (cs := cs) (w := ((5 + s : Nat) : Int)) hρ (by omega)
      obtain ⟨μ2, g1, g2, g3, g4, g5, g6, g7, g8⟩ := R_head (d := d) (cs := cs) hρ h hw (by omega) hZ hT hg (fun _ _ => by rw [show 5 + s - 5 = s by omega]; exact Bool.eq_false_iff.mpr q)
      rw [if_pos (by omega), show 5 + s - 5 = s by omega] at g4
      rw [g8, show ((5 + s : Nat) : Int) = 5 + (s : Int) by omega]
      refine rlo_z (R_set2 (d := d + 192) (cs := cs) hρ g2 (by omega) (by omega) g3 (by omega)) g1 g4 g5 (by rw [g6]; exact h32) (by rw [g7]; exact h33) (fun z hz => ?_)
      obtain ⟨q1, i1, hz⟩ := bnd_inr hz
      obtain ⟨q3, i3, hz⟩ := bnd_inr hz
      cases hz
      exact lz_zp (lz_rf Z) (by omega)
  · have hp : pL b n Z ts (tok b n a) = bnd (pLaw b n Z (tok b n a).2.2.2) fun z => .inr (z, ts) := by
      unfold pL
      rw [if_neg (by omega), if_neg (by omega), if_neg (by omega), if_neg (by omega), if_neg (by omega), if_neg (by omega), if_pos (by omega)]
    rw [hp]
    have hg := R_full5 (d := d + 198) (ρ := ρ) (μ := μ) (cs := cs) (w := ((9 : Nat) : Int)) hρ (by omega)
    obtain ⟨μ2, g1, g2, g3, g4, g5, g6, g7, g8⟩ := R_head (d := d) (cs := cs) hρ h hw (by omega) hZ hT hg (fun e => by omega)
    rw [if_neg (by omega)] at g4
    rw [g8]
    exact rlz_z (R_lawl (d := d) (cs := cs) hρ g2 (by omega) (by omega) g3 hS hl g4 (by rw [g6]; exact h32) (by rw [g7]; exact h33)) g1 g5
end RLE
