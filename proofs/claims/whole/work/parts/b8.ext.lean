/-! TEXT: what is beyond a row's half doesn't matter -/
def SE (S S' : MS) : Prop := ∀ (a : Nat) (k : Int), a < 18 → 0 ≤ k → k.toNat < hfR a → S' a k = S a k
section EXT
variable {S S' : MS}
theorem wi_ext {D : Int} {W : MW} (h : WI S D W) (h0 : S' 0 0 = S 0 0) (h1 : S' 0 1 = S 0 1) : WI S' D W := by
  unfold WI at h ⊢
  rw [h0, h1]
  exact h
theorem see_ext (hE : SE S S') {p t : Int} : ∀ (n : Nat) (k : Int), 0 ≤ k → k + n ≤ 10 → seeB S' p t n k = seeB S p t n k := by
  intro n
  induction n with
  | zero => intro k _ _; rfl
  | succ n ih =>
    intro k h0 h1
    show (decide (S' 6 k = p ∧ S' 7 k = t) || seeB S' p t n (k + 1)) = (decide (S 6 k = p ∧ S 7 k = t) || seeB S p t n (k + 1))
    rw [hE 6 k (by omega) h0 (by show k.toNat < 10; omega), hE 7 k (by omega) h0 (by show k.toNat < 10; omega), ih (k + 1) (by omega) (by omega)]
theorem wf_ext (hE : SE S S') : ∀ (m : Nat) (k : Int) (n : Nat), 0 ≤ k → k + m ≤ 64 → wfK S m k n → wfK S' m k n := by
  intro m
  induction m with
  | zero => intro k n _ _ h; exact h
  | succ m ih =>
    intro k n h0 h1 h
    have e6 := hE 16 k (by omega) h0 (by show k.toNat < 64; omega)
    have e7 := hE 17 k (by omega) h0 (by show k.toNat < 64; omega)
    unfold wfK at h ⊢
    rw [e6, e7]
    rcases h with ⟨a1, a2, a3, a4⟩ | ⟨a1, a2, a3, a4⟩ | ⟨a1, a4⟩
    · exact Or.inl ⟨a1, a2, a3, ih _ _ (by omega) (by omega) a4⟩
    · exact Or.inr (Or.inl ⟨a1, a2, a3, ih _ _ (by omega) (by omega) a4⟩)
    · exact Or.inr (Or.inr ⟨a1, ih _ _ (by omega) (by omega) a4⟩)
theorem se_0 (hE : SE S S') (i : Int) (h0 : 0 ≤ i) (h1 : i < 10) : S' 0 i = S 0 i := hE 0 i (by omega) h0 (by show i.toNat < 10; omega)
theorem si_ext (h : SI S) (hE : SE S S') : SI S' := by
  obtain ⟨n0, n1, n2, n3, n4, n5, n6, n7, n8, n9, m1, m2, m3, m4, m5, m6⟩ := h
  unfold SI
  rw [se_0 hE 0 (by omega) (by omega), se_0 hE 1 (by omega) (by omega), se_0 hE 2 (by omega) (by omega), se_0 hE 3 (by omega) (by omega), se_0 hE 4 (by omega) (by omega), se_0 hE 5 (by omega) (by omega), se_0 hE 6 (by omega) (by omega), se_0 hE 7 (by omega) (by omega), se_0 hE 8 (by omega) (by omega), se_0 hE 9 (by omega) (by omega)]
  refine ⟨n0, n1, n2, n3, n4, n5, n6, n7, n8, n9, fun k h0 h1 => ?_, fun k h0 h1 => ?_, fun k h0 h1 => ?_, fun k h0 h1 => ?_, fun k h0 h1 => ?_, fun r h0 h1 => ?_⟩
  · rw [hE 2 k (by omega) h0 (by show k.toNat < 7; omega)]; exact m1 k h0 h1
  · rw [hE 4 k (by omega) h0 (by show k.toNat < 6; omega), hE 5 k (by omega) h0 (by show k.toNat < 6; omega)]; exact m2 k h0 h1
  · rw [hE 6 k (by omega) h0 (by show k.toNat < 10; omega), hE 7 k (by omega) h0 (by show k.toNat < 10; omega)]; exact m3 k h0 h1
  · rw [hE 8 k (by omega) h0 (by show k.toNat < 12; omega), hE 9 k (by omega) h0 (by show k.toNat < 12; omega), hE 10 k (by omega) h0 (by show k.toNat < 12; omega)]; exact m4 k h0 h1
  · rw [hE 11 k (by omega) h0 (by show k.toNat < 12; omega), hE 12 k (by omega) h0 (by show k.toNat < 12; omega), hE 13 k (by omega) h0 (by show k.toNat < 12; omega)]; exact m5 k h0 h1
  · rw [hE 14 r (by omega) h0 (by show r.toNat < 3; omega), hE 15 r (by omega) h0 (by show r.toNat < 3; omega)]
    obtain ⟨g1, g2, g3, g4⟩ := m6 r h0 h1
    exact ⟨g1, g2, g3, fun hl => wf_ext hE _ _ _ g1 (by omega) (g4 hl)⟩
theorem xs_ext {μ : Nat → Nat → Int} {b : Nat} (h : XS μ b S) (hS : SI S) (hE : SE S S') : XS μ b S' := by
  obtain ⟨n0, n1, n2, n3, n4, n5, n6, n7, n8, n9, m1, m2, m3, m4, m5, m6⟩ := hS
  obtain ⟨a1, a2, a3, a4, a5, a6, a7, a8⟩ := h
  unfold XS
  rw [se_0 hE 0 (by omega) (by omega), se_0 hE 1 (by omega) (by omega), se_0 hE 2 (by omega) (by omega), se_0 hE 3 (by omega) (by omega), se_0 hE 4 (by omega) (by omega), se_0 hE 5 (by omega) (by omega), se_0 hE 6 (by omega) (by omega), se_0 hE 7 (by omega) (by omega), se_0 hE 8 (by omega) (by omega), se_0 hE 9 (by omega) (by omega)]
  refine ⟨a1, a2, fun k h0 h1 => ?_, fun k h0 h1 => ?_, fun k h0 h1 => ?_, fun k h0 h1 => ?_, fun r h0 h1 => ?_, fun r k h0 h1 h2 h3 => ?_⟩
  · rw [hE 1 k (by omega) h0 (by show k.toNat < 7; omega), hE 2 k (by omega) h0 (by show k.toNat < 7; omega)]; exact a3 k h0 h1
  · rw [hE 3 k (by omega) h0 (by show k.toNat < 6; omega), hE 4 k (by omega) h0 (by show k.toNat < 6; omega), hE 5 k (by omega) h0 (by show k.toNat < 6; omega)]
    obtain ⟨g1, g2, g3, g4, g5⟩ := a4 k h0 h1
    exact ⟨g1, g2, g3, g4, fun p p0 p1 => by rw [see_ext hE _ _ (by omega) (by omega)]; exact g5 p p0 p1⟩
  · rw [hE 8 k (by omega) h0 (by show k.toNat < 12; omega), hE 9 k (by omega) h0 (by show k.toNat < 12; omega), hE 10 k (by omega) h0 (by show k.toNat < 12; omega)]; exact a5 k h0 h1
  · rw [hE 11 k (by omega) h0 (by show k.toNat < 12; omega), hE 12 k (by omega) h0 (by show k.toNat < 12; omega), hE 13 k (by omega) h0 (by show k.toNat < 12; omega)]; exact a6 k h0 h1
  · rw [hE 14 r (by omega) h0 (by show r.toNat < 3; omega), hE 15 r (by omega) h0 (by show r.toNat < 3; omega)]; exact a7 r h0 h1
  · rw [hE 14 r (by omega) h0 (by show r.toNat < 3; omega)] at h2
    rw [hE 15 r (by omega) h0 (by show r.toNat < 3; omega)] at h3
    have g := m6 r h0 h1
    rw [hE 16 k (by omega) (by omega) (by show k.toNat < 64; omega), hE 17 k (by omega) (by omega) (by show k.toNat < 64; omega)]
    exact a8 r k h0 h1 h2 h3
theorem und_ext {μ : Nat → Nat → Int} {W : MW} (h : UND μ S W) (hE : SE S S') : UND μ S' W := by
  obtain ⟨a1, a2, a3, a4⟩ := h
  refine ⟨a1, a2, a3, fun i hi => ?_⟩
  obtain ⟨g1, g2⟩ := a4 i hi
  exact ⟨wi_ext g1 (se_0 hE 0 (by omega) (by omega)) (se_0 hE 1 (by omega) (by omega)), g2⟩
theorem img_ext {μ : Nat → Nat → Int} (h : IMG μ S) (hE : SE S S') : IMG μ S' := by
  obtain ⟨a1, a2⟩ := h
  refine ⟨a1, ?_⟩
  rcases a2 with q | ⟨q1, q2, q3, q4⟩
  · exact Or.inl q
  · exact Or.inr ⟨q1, q2, wi_ext q3 (se_0 hE 0 (by omega) (by omega)) (se_0 hE 1 (by omega) (by omega)), q4⟩
theorem nts_ext {μ : Nat → Nat → Int} (h : NTS μ S) (hE : SE S S') : NTS μ S' := by
  unfold NTS at h ⊢
  rw [se_0 hE 0 (by omega) (by omega), se_0 hE 1 (by omega) (by omega)]
  exact h
/-- what was read is well formed -/
theorem psf_ok {b : Nat → Int} {n : Nat} : ∀ (f : Nat) (Z : MS) (ts L a : Nat) (z : MS × Nat × Nat), a ≤ n → SI Z → LB Z → pSF b n f Z ts L a = .inr z → SI z.1 := by
  intro f
  induction f with
  | zero => intro Z ts L a z _ _ _ h; cases h
  | succ f ih =>
    intro Z ts L a z ha hS hl h
    unfold pSF at h
    by_cases c : (tok b n a).1 = 39
    · rw [if_pos c] at h
      cases h
      exact hS
    · rw [if_neg c] at h
      cases hp : pL b n Z ts (tok b n a) with
      | inl q => rw [hp] at h; cases h
      | inr y =>
        rw [hp] at h
        obtain ⟨o1, o2, o3, o4⟩ := pL_ok hS hl ha c hp
        exact ih _ _ _ _ z o4 o1 o2 h
end EXT
