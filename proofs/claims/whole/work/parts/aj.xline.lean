/-! TEXT: the class's law lines, any line -/
def mk1 (x : Int × Int) : Int := if x.1 = 24 then 0 else if x.1 = 13 then 1 else 2
def ksg (k : Int) : Int := if k = 28 then 43 else if k = 29 then 45 else if k = 30 then 42 else if k = 31 then 47 else if k = 32 then 60 else if k = 33 then 256 else if k = 34 then 61 else if k = 35 then 257 else if k = 36 then 258 else if k = 37 then 62 else if k = 20 then 260 else if k = 21 then 261 else 262
def mk2 (x : Int × Int) : Int := if x.1 = 24 ∨ x.1 = 13 then x.2 else ksg x.1
def zlaw (Z : MS) (r : Int) (o : List (Int × Int)) : MS := fun a k =>
  if a = 14 ∧ k.toNat = r.toNat then Z 0 9 else if a = 15 ∧ k.toNat = r.toNat then Z 0 9 + o.length else if a = 0 ∧ k.toNat = 9 then Z 0 9 + o.length
  else if a = 16 ∧ (Z 0 9).toNat ≤ k.toNat ∧ k.toNat < (Z 0 9).toNat + o.length then mk1 (o.getD (k.toNat - (Z 0 9).toNat) (0, 0)) else if a = 17 ∧ (Z 0 9).toNat ≤ k.toNat ∧ k.toNat < (Z 0 9).toNat + o.length then mk2 (o.getD (k.toNat - (Z 0 9).toNat) (0, 0)) else Z a k
theorem zl_o {Z : MS} {r k : Int} {o : List (Int × Int)} {a : Nat} (h : (a ≠ 14 ∨ k.toNat ≠ r.toNat) ∧ (a ≠ 15 ∨ k.toNat ≠ r.toNat) ∧ (a ≠ 0 ∨ k.toNat ≠ 9) ∧ (a ≠ 16 ∨ k.toNat < (Z 0 9).toNat ∨ (Z 0 9).toNat + o.length ≤ k.toNat) ∧ (a ≠ 17 ∨ k.toNat < (Z 0 9).toNat ∨ (Z 0 9).toNat + o.length ≤ k.toNat)) : zlaw Z r o a k = Z a k := by
  unfold zlaw
  rw [if_neg (by omega), if_neg (by omega), if_neg (by omega), if_neg (by omega), if_neg (by omega)]
theorem zl_14 {Z : MS} {r : Int} {o : List (Int × Int)} : zlaw Z r o 14 r = Z 0 9 := if_pos ⟨rfl, rfl⟩
theorem zl_15 {Z : MS} {r : Int} {o : List (Int × Int)} : zlaw Z r o 15 r = Z 0 9 + o.length := by
  unfold zlaw
  rw [if_neg (by omega), if_pos ⟨rfl, rfl⟩]
theorem zl_9 {Z : MS} {r : Int} {o : List (Int × Int)} : zlaw Z r o 0 9 = Z 0 9 + o.length := by
  unfold zlaw
  rw [if_neg (by omega), if_neg (by omega), if_pos ⟨rfl, rfl⟩]
theorem zl_16 {Z : MS} {r : Int} {o : List (Int × Int)} {j : Nat} (hj : j < o.length) (h0 : 0 ≤ Z 0 9) : zlaw Z r o 16 (Z 0 9 + j) = mk1 (o.getD j (0, 0)) ∧ zlaw Z r o 17 (Z 0 9 + j) = mk2 (o.getD j (0, 0)) := by
  unfold zlaw
  have e : (Z 0 9 + (j : Int)).toNat = (Z 0 9).toNat + j := by omega
  rw [e, show (Z 0 9).toNat + j - (Z 0 9).toNat = j by omega]
  constructor
  · rw [if_neg (by omega), if_neg (by omega), if_neg (by omega), if_pos (by omega)]
  · rw [if_neg (by omega), if_neg (by omega), if_neg (by omega), if_neg (by omega), if_pos (by omega)]
theorem rnk_kc {k : Int} (h : 0 < rnk k) : KC (ksg k) k ∧ (ksg k = 260 ↔ k = 20) ∧ k ≠ 24 ∧ k ≠ 13 := by
  have : k = 22 ∨ k = 21 ∨ k = 20 ∨ k = 32 ∨ k = 33 ∨ k = 34 ∨ k = 35 ∨ k = 36 ∨ k = 37 ∨ k = 28 ∨ k = 29 ∨ k = 30 ∨ k = 31 := by
    unfold rnk at h
    repeat' split at h
    all_goals omega
  rcases this with rfl | rfl | rfl | rfl | rfl | rfl | rfl | rfl | rfl | rfl | rfl | rfl | rfl <;> (unfold KC ksg; decide)
theorem wf_hgt {S : MS} : ∀ (o : List (Int × Int)) (k : Int) (h : Nat), 0 ≤ k → (∀ j, j < o.length → S 16 (k + j) = mk1 (o.getD j (0, 0)) ∧ S 17 (k + j) = mk2 (o.getD j (0, 0))) → (∀ x ∈ o, okO x) → hgt o h = some 1 → wfK S o.length k h := by
  intro o
  induction o with
  | nil => intro k h _ _ _ hh; exact (Option.some.inj hh)
  | cons x r ih =>
    intro k h hk hj hok hh
    have e0 := hj 0 (by simp)
    have e16 : S 16 k = mk1 x := by have := e0.1; rw [show k + ((0 : Nat) : Int) = k by omega] at this; exact this
    have e17 : S 17 k = mk2 x := by have := e0.2; rw [show k + ((0 : Nat) : Int) = k by omega] at this; exact this
    have hrec := fun h => ih (k + 1) h (by omega) (fun j hj2 => by
      have := hj (j + 1) (by simp; omega)
      rw [show k + ((j + 1 : Nat) : Int) = k + 1 + (j : Int) by omega] at this
      exact this) (fun y hy => hok y (List.mem_cons_of_mem _ hy))
    have hh : (stp x.1 h).bind (hgt r) = some 1 := hh
    have hx := hok x List.mem_cons_self
    rcases hx with ⟨q1, q2, q3⟩ | ⟨q1, q2, q3⟩ | q
    · refine Or.inr (Or.inr ⟨Or.inl ⟨?_, ?_, ?_⟩, ?_⟩)
      · rw [e16]; unfold mk1; rw [if_pos q1]
      · rw [e17]; unfold mk2; rw [if_pos (Or.inl q1)]; exact q2
      · rw [e17]; unfold mk2; rw [if_pos (Or.inl q1)]; exact q3
      · unfold stp at hh
        rw [if_pos (Or.inl q1)] at hh
        exact hrec _ hh
    · refine Or.inr (Or.inr ⟨Or.inr ⟨?_, ?_, ?_⟩, ?_⟩)
      · rw [e16]; unfold mk1; rw [if_neg (by omega), if_pos q1]
      · rw [e17]; unfold mk2; rw [if_pos (Or.inr q1)]; exact q2
      · rw [e17]; unfold mk2; rw [if_pos (Or.inr q1)]; exact q3
      · unfold stp at hh
        rw [if_pos (Or.inr q1)] at hh
        exact hrec _ hh
    · obtain ⟨g1, g2, g3, g4⟩ := rnk_kc q
      have m1 : S 16 k = 2 := by rw [e16]; unfold mk1; rw [if_neg g3, if_neg g4]
      have m2 : S 17 k = ksg x.1 := by rw [e17]; unfold mk2; rw [if_neg (by omega)]
      unfold stp at hh
      rw [if_neg (by omega)] at hh
      by_cases c : x.1 = 20
      · rw [if_pos c] at hh
        by_cases c2 : 1 ≤ h
        · rw [if_pos c2] at hh
          exact Or.inl ⟨m1, by rw [m2]; exact g2.mpr c, c2, hrec _ hh⟩
        · rw [if_neg c2] at hh; cases hh
      · rw [if_neg c] at hh
        by_cases c2 : 2 ≤ h
        · rw [if_pos c2] at hh
          exact Or.inr (Or.inl ⟨m1, by rw [m2]; exact fun e => c (g2.mp e), c2, hrec _ hh⟩)
        · rw [if_neg c2] at hh; cases hh
/-- no law's row reaches behind the knots so far -/
def LB (Z : MS) : Prop := ∀ r, 0 ≤ r → r < 3 → Z 15 r ≤ Z 0 9
theorem si_law {Z : MS} (h : SI Z) (hl : LB Z) {r : Int} (r0 : 0 ≤ r) (r1 : r < 3) {o : List (Int × Int)} (hn : Z 0 9 + o.length ≤ 64) (hh : hgt o 0 = some 1) (hok : ∀ x ∈ o, okO x) : SI (zlaw Z r o) ∧ LB (zlaw Z r o) := by
  obtain ⟨n0, n1, n2, n3, n4, n5, n6, n7, n8, n9, m1, m2, m3, m4, m5, m6⟩ := h
  refine ⟨⟨?_, ?_, ?_, ?_, ?_, ?_, ?_, ?_, ?_, ?_, fun k h0 h1 => ?_, fun k h0 h1 => ?_, fun k h0 h1 => ?_, fun k h0 h1 => ?_, fun k h0 h1 => ?_, fun q h0 h1 => ?_⟩, fun q h0 h1 => ?_⟩
  · simp (disch := omega) only [zl_o]; exact n0
  · simp (disch := omega) only [zl_o]; exact n1
  · simp (disch := omega) only [zl_o]; exact n2
  · simp (disch := omega) only [zl_o]; exact n3
  · simp (disch := omega) only [zl_o]; exact n4
  · simp (disch := omega) only [zl_o]; exact n5
  · simp (disch := omega) only [zl_o]; exact n6
  · simp (disch := omega) only [zl_o]; exact n7
  · simp (disch := omega) only [zl_o]; exact n8
  · rw [zl_9]; omega
  · simp (disch := omega) only [zl_o] at h1 ⊢; exact m1 k h0 h1
  · simp (disch := omega) only [zl_o] at h1 ⊢; exact m2 k h0 h1
  · simp (disch := omega) only [zl_o] at h1 ⊢; exact m3 k h0 h1
  · simp (disch := omega) only [zl_o] at h1 ⊢; exact m4 k h0 h1
  · simp (disch := omega) only [zl_o] at h1 ⊢; exact m5 k h0 h1
  · by_cases c : q = r
    · subst c
      rw [zl_14, zl_15]
      refine ⟨by omega, by omega, by omega, fun _ => ?_⟩
      rw [show (Z 0 9 + (o.length : Int) - Z 0 9).toNat = o.length by omega]
      exact wf_hgt o _ 0 n9.1 (fun j hj => zl_16 hj n9.1) hok hh
    · obtain ⟨g1, g2, g3, g4⟩ := m6 q h0 h1
      have hlq := hl q h0 h1
      rw [zl_o (by omega), zl_o (by omega)]
      refine ⟨g1, g2, g3, fun z => wfK_c _ _ _ (fun j j0 j1 => ?_) (g4 z)⟩
      constructor
      · exact zl_o (by omega)
      · exact zl_o (by omega)
  · by_cases c : q = r
    · subst c
      rw [zl_15, zl_9]; exact Int.le_refl _
    · rw [zl_o (by omega), zl_9]
      have := hl q h0 h1
      omega
theorem xs_law {μ μ' : Nat → Nat → Int} {c r B : Nat} {Z : MS} {o : List (Int × Int)} (h : XS μ c Z) (hS : SI Z) (hl : LB Z) (hr : r < 3) (hB : Z 0 9 = (B : Int)) (hok : ∀ x ∈ o, okO x) (hf : ∀ q k, c ≤ q → q < c + 19 → ¬ (q = c + 14 ∧ k < 2) → ¬ (q = c + 15 ∧ B ≤ k) → ¬ (q = c + 16 ∧ B ≤ k) → ¬ (q = c + 17 ∧ k = r) → ¬ (q = c + 18 ∧ k = r) → μ' q k = μ q k) (e1 : μ' (c + 14) 0 = ((B + o.length : Nat) : Int)) (e2 : μ' (c + 17) r = (B : Int)) (e3 : μ' (c + 18) r = ((B + o.length : Nat) : Int)) (e4 : OS (μ' (c + 15)) (μ' (c + 16)) B o) : XS μ' c (zlaw Z r o) := by
  obtain ⟨⟨a1, a2, a3, a4⟩, ⟨a5, a6, a7, a8, a9⟩, c1, c2, c3, c4, c5, c6⟩ := h
  refine ⟨⟨?_, ?_, ?_, ?_⟩, ⟨?_, ?_, ?_, ?_, ?_⟩, fun k h0 h1 => ?_, fun k h0 h1 => ?_, fun k h0 h1 => ?_, fun k h0 h1 => ?_, fun k h0 h1 => ?_, fun q k h0 h1 h2 h3 => ?_⟩
  · simp (disch := omega) only [zl_o, hf]; exact a1
  · simp (disch := omega) only [zl_o, hf]; exact a2
  · simp (disch := omega) only [zl_o, hf]; exact a3
  · simp (disch := omega) only [zl_o, hf]; exact a4
  · simp (disch := omega) only [zl_o, hf]; exact a5
  · simp (disch := omega) only [zl_o, hf]; exact a6
  · simp (disch := omega) only [zl_o, hf]; exact a7
  · simp (disch := omega) only [zl_o, hf]; exact a8
  · rw [zl_9, e1]; omega
  · simp (disch := omega) only [zl_o] at h1 ⊢; simp (disch := omega) only [hf]; exact c1 k h0 h1
  · simp (disch := omega) only [zl_o] at h1 ⊢
    simp (disch := omega) only [hf]
    have g := c2 k h0 h1
    refine ⟨g.1, g.2.1, g.2.2.1, g.2.2.2.1, fun p p0 p1 => ?_⟩
    rw [g.2.2.2.2 p p0 p1]
    exact (seeB_c _ 0 (by omega) (fun j _ _ => ⟨zl_o (by omega), zl_o (by omega)⟩)).symm
  · simp (disch := omega) only [zl_o] at h1 ⊢; simp (disch := omega) only [hf]; exact c3 k h0 h1
  · simp (disch := omega) only [zl_o] at h1 ⊢; simp (disch := omega) only [hf]; exact c4 k h0 h1
  · by_cases q : k = (r : Int)
    · subst q
      rw [zl_14, zl_15, Int.toNat_natCast, e2, e3]
      omega
    · rw [zl_o (by omega), zl_o (by omega), hf _ _ (by omega) (by omega) (by omega) (by omega) (by omega) (by omega) (by omega), hf _ _ (by omega) (by omega) (by omega) (by omega) (by omega) (by omega) (by omega)]
      exact c5 k h0 h1
  · by_cases e : q = (r : Int)
    · subst e
      rw [zl_14] at h2
      rw [zl_15] at h3
      obtain ⟨j, rfl⟩ : ∃ j : Nat, k = Z 0 9 + j := ⟨(k - Z 0 9).toNat, by omega⟩
      have hj : j < o.length := by omega
      obtain ⟨z1, z2⟩ := zl_16 (r := (r : Int)) hj hS.2.2.2.2.2.2.2.2.2.1.1
      rw [z1, z2]
      have hm := e4 j hj
      have et : (Z 0 9 + (j : Int)).toNat = B + j := by omega
      rw [et, hm.1, hm.2]
      have hx := hok (o.getD j (0, 0)) (by
        rw [List.getD_eq_getElem?_getD, List.getElem?_eq_getElem hj]
        exact List.getElem_mem hj)
      generalize o.getD j (0, 0) = x at hx
      refine ⟨fun q => ?_, fun q => ?_, fun q => ?_⟩
      · have : x.1 = 24 := by
          unfold mk1 at q
          by_cases g : x.1 = 24
          · exact g
          · rw [if_neg g] at q
            by_cases g2 : x.1 = 13
            · rw [if_pos g2] at q; omega
            · rw [if_neg g2] at q; omega
        exact ⟨this, by unfold mk2; rw [if_pos (Or.inl this)]⟩
      · have : x.1 = 13 := by
          unfold mk1 at q
          by_cases g : x.1 = 24
          · rw [if_pos g] at q; omega
          · rw [if_neg g] at q
            by_cases g2 : x.1 = 13
            · exact g2
            · rw [if_neg g2] at q; omega
        exact ⟨this, by unfold mk2; rw [if_pos (Or.inr this)]⟩
      · have hne : x.1 ≠ 24 ∧ x.1 ≠ 13 := by
          unfold mk1 at q
          by_cases g : x.1 = 24
          · rw [if_pos g] at q; omega
          · rw [if_neg g] at q
            by_cases g2 : x.1 = 13
            · rw [if_pos g2] at q; omega
            · exact ⟨g, g2⟩
        have hr : 0 < rnk x.1 := by
          rcases hx with g | g | g
          · omega
          · omega
          · exact g
        unfold mk2
        rw [if_neg (by omega)]
        exact (rnk_kc hr).1
    · have hlq := hl q h0 h1
      have hq0 := (hS.2.2.2.2.2.2.2.2.2.2.2.2.2.2.2 q h0 h1).1
      rw [zl_o (by omega)] at h2 h3
      rw [zl_o (by omega), zl_o (by omega), hf _ _ (by omega) (by omega) (by omega) (by omega) (by omega) (by omega) (by omega), hf _ _ (by omega) (by omega) (by omega) (by omega) (by omega) (by omega) (by omega)]
      exact c6 q k h0 h1 h2 h3
