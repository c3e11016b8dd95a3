/-! TEXT: the class's story while it is read -/
theorem seeB_c {Z Z' : MS} {p t : Int} : ∀ (n : Nat) (k : Int), 0 ≤ k → (∀ j, k ≤ j → j < k + n → Z' 6 j = Z 6 j ∧ Z' 7 j = Z 7 j) → seeB Z' p t n k = seeB Z p t n k := by
  intro n
  induction n with
  | zero => intro k _ _; rfl
  | succ n ih =>
    intro k hk h
    show (decide (Z' 6 k = p ∧ Z' 7 k = t) || seeB Z' p t n (k + 1)) = (decide (Z 6 k = p ∧ Z 7 k = t) || seeB Z p t n (k + 1))
    rw [(h k (by omega) (by omega)).1, (h k (by omega) (by omega)).2, ih (k + 1) (by omega) (fun j h0 h1 => h j (by omega) (by omega))]
theorem seeB_snoc {Z : MS} {p t : Int} : ∀ (n : Nat) (k : Int), seeB Z p t (n + 1) k = (seeB Z p t n k || decide (Z 6 (k + n) = p ∧ Z 7 (k + n) = t)) := by
  intro n
  induction n with
  | zero =>
    intro k
    show (decide (Z 6 k = p ∧ Z 7 k = t) || false) = (false || decide (Z 6 (k + (0 : Nat)) = p ∧ Z 7 (k + (0 : Nat)) = t))
    rw [show k + ((0 : Nat) : Int) = k by omega, Bool.or_false, Bool.false_or]
  | succ n ih =>
    intro k
    show (decide (Z 6 k = p ∧ Z 7 k = t) || seeB Z p t (n + 1) (k + 1)) = ((decide (Z 6 k = p ∧ Z 7 k = t) || seeB Z p t n (k + 1)) || decide (Z 6 (k + (n + 1 : Nat)) = p ∧ Z 7 (k + (n + 1 : Nat)) = t))
    rw [ih, Bool.or_assoc, show k + 1 + (n : Int) = k + ((n + 1 : Nat) : Int) by omega]
theorem zb_an1 {z k : Int} (h0 : 0 ≤ z) (h1 : z < 2147483648) (k0 : 0 ≤ k) (k1 : k < 31) : am_and z (am_shl 1 k) = if z.toNat.testBit k.toNat = true then ((2 ^ k.toNat : Nat) : Int) else 0 := by
  rw [ib_one k0 k1]
  have h := nb_and (a := z.toNat) (b := 2 ^ k.toNat) (by omega) (Nat.pow_lt_pow_right (by decide) (by omega) |> fun q => Nat.lt_of_lt_of_le q (by decide : 2 ^ 31 ≤ 2147483648))
  rw [Int.toNat_of_nonneg h0] at h
  rw [h]
  have e : z.toNat &&& 2 ^ k.toNat = if z.toNat.testBit k.toNat = true then 2 ^ k.toNat else 0 := by
    apply Nat.eq_of_testBit_eq
    intro i
    rw [Nat.testBit_and, Nat.testBit_two_pow]
    by_cases q : k.toNat = i
    · subst q
      cases hb : z.toNat.testBit k.toNat <;> simp
    · cases hb : z.toNat.testBit k.toNat <;> simp [q, Nat.testBit_two_pow]
  rw [e]
  cases z.toNat.testBit k.toNat <;> simp
section XSU
variable {μ μ' : Nat → Nat → Int} {c i : Nat} {Z : MS}
theorem xs_man (h : XS μ c Z) (hS : SI Z) (hi : Z 0 0 = (i : Int)) {v w : Int} (hf : ∀ q k, c ≤ q → q < c + 19 → ¬ (q = c + 1 ∧ k = i) → ¬ (q = c + 2 ∧ k = i) → ¬ (q = c ∧ k = 0) → μ' q k = μ q k) (e1 : μ' (c + 1) i = v) (e2 : μ' (c + 2) i = w) (e3 : μ' c 0 = (i : Int) + 1) : XS μ' c (zp (zp (zp Z 1 (Z 0 0) v) 2 (Z 0 0) w) 0 0 (Z 0 0 + 1)) := by
  obtain ⟨⟨a1, a2, a3, a4⟩, ⟨a5, a6, a7, a8, a9⟩, c1, c2, c3, c4, c5, c6⟩ := h
  rw [hi]
  refine ⟨⟨?_, ?_, ?_, ?_⟩, ⟨?_, ?_, ?_, ?_, ?_⟩, fun k h0 h1 => ?_, fun k h0 h1 => ?_, fun k h0 h1 => ?_, fun k h0 h1 => ?_, fun k h0 h1 => ?_, fun r k h0 h1 h2 h3 => ?_⟩
  · rw [e3, zp_eq]
  · simp (disch := omega) only [zp_ne, hf]; exact a2
  · simp (disch := omega) only [zp_ne, hf]; exact a3
  · simp (disch := omega) only [zp_ne, hf]; exact a4
  · simp (disch := omega) only [zp_ne, hf]; exact a5
  · simp (disch := omega) only [zp_ne, hf]; exact a6
  · simp (disch := omega) only [zp_ne, hf]; exact a7
  · simp (disch := omega) only [zp_ne, hf]; exact a8
  · simp (disch := omega) only [zp_ne, hf]; exact a9
  · rw [zp_eq] at h1
    by_cases q : k = (i : Int)
    · subst q
      rw [Int.toNat_natCast, e1, e2]
      simp (disch := omega) only [zp_ne, zp_eq, and_self]
    · simp (disch := omega) only [zp_ne, hf]; exact c1 k h0 (by omega)
  · rw [zp_ne (by omega), zp_ne (by omega), zp_ne (by omega)] at h1
    simp (disch := omega) only [zp_ne, hf]
    have g := c2 k h0 h1
    refine ⟨g.1, g.2.1, g.2.2.1, g.2.2.2.1, fun p p0 p1 => ?_⟩
    rw [g.2.2.2.2 p p0 p1]
    exact (seeB_c _ 0 (by omega) (fun j _ _ => ⟨by simp (disch := omega) only [zp_ne], by simp (disch := omega) only [zp_ne]⟩)).symm
  · rw [zp_ne (by omega), zp_ne (by omega), zp_ne (by omega)] at h1
    simp (disch := omega) only [zp_ne, hf]; exact c3 k h0 h1
  · rw [zp_ne (by omega), zp_ne (by omega), zp_ne (by omega)] at h1
    simp (disch := omega) only [zp_ne, hf]; exact c4 k h0 h1
  · simp (disch := omega) only [zp_ne, hf]; exact c5 k h0 h1
  · rw [zp_ne (by omega), zp_ne (by omega), zp_ne (by omega)] at h2 h3
    simp (disch := omega) only [zp_ne, hf]; exact c6 r k h0 h1 h2 h3
theorem xs_thing (h : XS μ c Z) (hS : SI Z) (hi : Z 0 1 = (i : Int)) {v w x : Int} (hf : ∀ q k, c ≤ q → q < c + 19 → ¬ (q = c + 3 ∧ k = i) → ¬ (q = c + 4 ∧ k = i) → ¬ (q = c + 5 ∧ k = i) → ¬ (q = c + 6 ∧ k = i) → ¬ (q = c ∧ k = 3) → μ' q k = μ q k) (e1 : μ' (c + 3) i = v) (e2 : μ' (c + 4) i = w) (e3 : μ' (c + 5) i = x) (e4 : μ' (c + 6) i = 0) (e5 : μ' c 3 = (i : Int) + 1) : XS μ' c (zp (zp (zp (zp Z 3 (Z 0 1) v) 4 (Z 0 1) w) 5 (Z 0 1) x) 0 1 (Z 0 1 + 1)) := by
  obtain ⟨⟨a1, a2, a3, a4⟩, ⟨a5, a6, a7, a8, a9⟩, c1, c2, c3, c4, c5, c6⟩ := h
  have hsee : ∀ p, seeB Z p (i : Int) (Z 0 2).toNat 0 = false := by
    intro p
    have gen : ∀ (m : Nat) (k : Int), 0 ≤ k → k + m ≤ Z 0 2 → seeB Z p (i : Int) m k = false := by
      intro m
      induction m with
      | zero => intro k _ _; rfl
      | succ m ih =>
        intro k hk hm
        show (decide (Z 6 k = p ∧ Z 7 k = (i : Int)) || seeB Z p i m (k + 1)) = false
        have hb := hS.2.2.2.2.2.2.2.2.2.2.2.2.1 k hk (by omega)
        rw [ih (k + 1) (by omega) (by omega), Bool.or_false, decide_eq_false_iff_not]
        intro e
        omega
    have := hS.2.2.1
    exact gen _ 0 (by omega) (by omega)
  rw [hi]
  refine ⟨⟨?_, ?_, ?_, ?_⟩, ⟨?_, ?_, ?_, ?_, ?_⟩, fun k h0 h1 => ?_, fun k h0 h1 => ?_, fun k h0 h1 => ?_, fun k h0 h1 => ?_, fun k h0 h1 => ?_, fun r k h0 h1 h2 h3 => ?_⟩
  · simp (disch := omega) only [zp_ne, hf]; exact a1
  · rw [e5, zp_eq]
  · simp (disch := omega) only [zp_ne, hf]; exact a3
  · simp (disch := omega) only [zp_ne, hf]; exact a4
  · simp (disch := omega) only [zp_ne, hf]; exact a5
  · simp (disch := omega) only [zp_ne, hf]; exact a6
  · simp (disch := omega) only [zp_ne, hf]; exact a7
  · simp (disch := omega) only [zp_ne, hf]; exact a8
  · simp (disch := omega) only [zp_ne, hf]; exact a9
  · rw [zp_ne (by omega), zp_ne (by omega), zp_ne (by omega), zp_ne (by omega)] at h1
    simp (disch := omega) only [zp_ne, hf]; exact c1 k h0 h1
  · rw [zp_eq] at h1
    have es : ∀ p, seeB (zp (zp (zp (zp Z 3 (i : Int) v) 4 i w) 5 i x) 0 1 ((i : Int) + 1)) p k ((zp (zp (zp (zp Z 3 (i : Int) v) 4 i w) 5 i x) 0 1 ((i : Int) + 1)) 0 2).toNat 0 = seeB Z p k (Z 0 2).toNat 0 := fun p => by
      have e9 : (zp (zp (zp (zp Z 3 (i : Int) v) 4 i w) 5 i x) 0 1 ((i : Int) + 1)) 0 2 = Z 0 2 := by simp (disch := omega) only [zp_ne]
      rw [e9]
      exact seeB_c _ 0 (by omega) (fun j _ _ => ⟨by simp (disch := omega) only [zp_ne], by simp (disch := omega) only [zp_ne]⟩)
    by_cases q : k = (i : Int)
    · subst q
      rw [Int.toNat_natCast, e1, e2, e3, e4]
      refine ⟨by simp (disch := omega) only [zp_ne, zp_eq], by simp (disch := omega) only [zp_ne, zp_eq], by simp (disch := omega) only [zp_ne, zp_eq], by omega, fun p _ _ => ?_⟩
      rw [es p, hsee p]
      simp
    · have g := c2 k h0 (by omega)
      rw [hf _ _ (by omega) (by omega) (by omega) (by omega) (by omega) (by omega) (by omega), hf _ _ (by omega) (by omega) (by omega) (by omega) (by omega) (by omega) (by omega), hf _ _ (by omega) (by omega) (by omega) (by omega) (by omega) (by omega) (by omega), hf _ _ (by omega) (by omega) (by omega) (by omega) (by omega) (by omega) (by omega)]
      refine ⟨by simp (disch := omega) only [zp_ne]; exact g.1, by simp (disch := omega) only [zp_ne]; exact g.2.1, by simp (disch := omega) only [zp_ne]; exact g.2.2.1, g.2.2.2.1, fun p p0 p1 => ?_⟩
      rw [es p]
      exact g.2.2.2.2 p p0 p1
  · rw [zp_ne (by omega), zp_ne (by omega), zp_ne (by omega), zp_ne (by omega)] at h1
    simp (disch := omega) only [zp_ne, hf]; exact c3 k h0 h1
  · rw [zp_ne (by omega), zp_ne (by omega), zp_ne (by omega), zp_ne (by omega)] at h1
    simp (disch := omega) only [zp_ne, hf]; exact c4 k h0 h1
  · simp (disch := omega) only [zp_ne, hf]; exact c5 k h0 h1
  · rw [zp_ne (by omega), zp_ne (by omega), zp_ne (by omega), zp_ne (by omega)] at h2 h3
    simp (disch := omega) only [zp_ne, hf]; exact c6 r k h0 h1 h2 h3
theorem xs_sees (h : XS μ c Z) (hS : SI Z) (hi : Z 0 2 = (i : Int)) {p t : Nat} (hp : p < 7) (ht : (t : Int) < Z 0 1) (hf : ∀ q k, c ≤ q → q < c + 19 → ¬ (q = c + 6 ∧ k = t) → μ' q k = μ q k) (e1 : μ' (c + 6) t = (((μ (c + 6) t).toNat ||| 2 ^ p : Nat) : Int)) : XS μ' c (zp (zp (zp Z 6 (Z 0 2) p) 7 (Z 0 2) t) 0 2 (Z 0 2 + 1)) := by
  obtain ⟨⟨a1, a2, a3, a4⟩, ⟨a5, a6, a7, a8, a9⟩, c1, c2, c3, c4, c5, c6⟩ := h
  rw [hi]
  refine ⟨⟨?_, ?_, ?_, ?_⟩, ⟨?_, ?_, ?_, ?_, ?_⟩, fun k h0 h1 => ?_, fun k h0 h1 => ?_, fun k h0 h1 => ?_, fun k h0 h1 => ?_, fun k h0 h1 => ?_, fun r k h0 h1 h2 h3 => ?_⟩
  · simp (disch := omega) only [zp_ne, hf]; exact a1
  · simp (disch := omega) only [zp_ne, hf]; exact a2
  · simp (disch := omega) only [zp_ne, hf]; exact a3
  · simp (disch := omega) only [zp_ne, hf]; exact a4
  · simp (disch := omega) only [zp_ne, hf]; exact a5
  · simp (disch := omega) only [zp_ne, hf]; exact a6
  · simp (disch := omega) only [zp_ne, hf]; exact a7
  · simp (disch := omega) only [zp_ne, hf]; exact a8
  · simp (disch := omega) only [zp_ne, hf]; exact a9
  · rw [zp_ne (by omega), zp_ne (by omega), zp_ne (by omega)] at h1
    simp (disch := omega) only [zp_ne, hf]; exact c1 k h0 h1
  · rw [zp_ne (by omega), zp_ne (by omega), zp_ne (by omega)] at h1
    have g := c2 k h0 h1
    have b2 := hS.2.2.1
    have es : ∀ x, seeB (zp (zp (zp Z 6 (i : Int) p) 7 i t) 0 2 ((i : Int) + 1)) x k ((zp (zp (zp Z 6 (i : Int) p) 7 i t) 0 2 ((i : Int) + 1)) 0 2).toNat 0 = (seeB Z x k (Z 0 2).toNat 0 || decide ((p : Int) = x ∧ (t : Int) = k)) := fun x => by
      rw [zp_eq, hi, show ((i : Int) + 1).toNat = i + 1 by omega, seeB_snoc, Int.toNat_natCast, Int.zero_add]
      congr 1
      · exact seeB_c _ 0 (by omega) (fun j _ _ => ⟨by simp (disch := omega) only [zp_ne], by simp (disch := omega) only [zp_ne]⟩)
      · simp (disch := omega) only [zp_ne, zp_eq]
    rw [hf _ _ (by omega) (by omega) (by omega), hf _ _ (by omega) (by omega) (by omega), hf _ _ (by omega) (by omega) (by omega)]
    by_cases q : k = (t : Int)
    · subst q
      rw [Int.toNat_natCast] at g ⊢
      rw [e1]
      have hlt : (μ (c + 6) t).toNat ||| 2 ^ p < 2 ^ 7 := Nat.or_lt_two_pow (by have := g.2.2.2.1; omega) (Nat.pow_lt_pow_right (by decide) hp)
      have h27 : (2 : Nat) ^ 7 = 128 := by decide
      refine ⟨by simp (disch := omega) only [zp_ne]; exact g.1, by simp (disch := omega) only [zp_ne]; exact g.2.1, by simp (disch := omega) only [zp_ne]; exact g.2.2.1, ⟨by omega, by omega⟩, fun x x0 x1 => ?_⟩
      rw [es x, Int.toNat_natCast, Nat.testBit_or, Nat.testBit_two_pow, g.2.2.2.2 x x0 x1]
      congr 1
      by_cases q2 : p = x.toNat
      · rw [decide_eq_true q2, decide_eq_true ⟨by omega, rfl⟩]
      · rw [decide_eq_false q2, decide_eq_false (fun z => q2 (by omega))]
    · rw [hf _ _ (by omega) (by omega) (by omega)]
      refine ⟨by simp (disch := omega) only [zp_ne]; exact g.1, by simp (disch := omega) only [zp_ne]; exact g.2.1, by simp (disch := omega) only [zp_ne]; exact g.2.2.1, g.2.2.2.1, fun x x0 x1 => ?_⟩
      rw [es x, g.2.2.2.2 x x0 x1, decide_eq_false (fun z => q z.2.symm), Bool.or_false]
  · rw [zp_ne (by omega), zp_ne (by omega), zp_ne (by omega)] at h1
    simp (disch := omega) only [zp_ne, hf]; exact c3 k h0 h1
  · rw [zp_ne (by omega), zp_ne (by omega), zp_ne (by omega)] at h1
    simp (disch := omega) only [zp_ne, hf]; exact c4 k h0 h1
  · simp (disch := omega) only [zp_ne, hf]; exact c5 k h0 h1
  · rw [zp_ne (by omega), zp_ne (by omega), zp_ne (by omega)] at h2 h3
    simp (disch := omega) only [zp_ne, hf]; exact c6 r k h0 h1 h2 h3
theorem xs_way (h : XS μ c Z) (hi : Z 0 3 = (i : Int)) {v w x : Int} (hf : ∀ q k, c ≤ q → q < c + 19 → ¬ (q = c + 7 ∧ k = i) → ¬ (q = c + 8 ∧ k = i) → ¬ (q = c + 9 ∧ k = i) → ¬ (q = c ∧ k = 8) → μ' q k = μ q k) (e1 : μ' (c + 7) i = v) (e2 : μ' (c + 8) i = w) (e3 : μ' (c + 9) i = x) (e5 : μ' c 8 = (i : Int) + 1) : XS μ' c (zp (zp (zp (zp Z 8 (Z 0 3) v) 9 (Z 0 3) w) 10 (Z 0 3) x) 0 3 (Z 0 3 + 1)) := by
  obtain ⟨⟨a1, a2, a3, a4⟩, ⟨a5, a6, a7, a8, a9⟩, c1, c2, c3, c4, c5, c6⟩ := h
  rw [hi]
  refine ⟨⟨?_, ?_, ?_, ?_⟩, ⟨?_, ?_, ?_, ?_, ?_⟩, fun k h0 h1 => ?_, fun k h0 h1 => ?_, fun k h0 h1 => ?_, fun k h0 h1 => ?_, fun k h0 h1 => ?_, fun r k h0 h1 h2 h3 => ?_⟩
  · simp (disch := omega) only [zp_ne, hf]; exact a1
  · simp (disch := omega) only [zp_ne, hf]; exact a2
  · rw [e5, zp_eq]
  · simp (disch := omega) only [zp_ne, hf]; exact a4
  · simp (disch := omega) only [zp_ne, hf]; exact a5
  · simp (disch := omega) only [zp_ne, hf]; exact a6
  · simp (disch := omega) only [zp_ne, hf]; exact a7
  · simp (disch := omega) only [zp_ne, hf]; exact a8
  · simp (disch := omega) only [zp_ne, hf]; exact a9
  · rw [zp_ne (by omega), zp_ne (by omega), zp_ne (by omega), zp_ne (by omega)] at h1
    simp (disch := omega) only [zp_ne, hf]; exact c1 k h0 h1
  · rw [zp_ne (by omega), zp_ne (by omega), zp_ne (by omega), zp_ne (by omega)] at h1
    simp (disch := omega) only [zp_ne, hf]
    have g := c2 k h0 h1
    refine ⟨g.1, g.2.1, g.2.2.1, g.2.2.2.1, fun p p0 p1 => ?_⟩
    rw [g.2.2.2.2 p p0 p1]
    exact (seeB_c _ 0 (by omega) (fun j _ _ => ⟨by simp (disch := omega) only [zp_ne], by simp (disch := omega) only [zp_ne]⟩)).symm
  · rw [zp_eq] at h1
    by_cases q : k = (i : Int)
    · subst q
      rw [Int.toNat_natCast, e1, e2, e3]
      simp (disch := omega) only [zp_ne, zp_eq, and_self]
    · simp (disch := omega) only [zp_ne, hf]; exact c3 k h0 (by omega)
  · rw [zp_ne (by omega), zp_ne (by omega), zp_ne (by omega), zp_ne (by omega)] at h1
    simp (disch := omega) only [zp_ne, hf]; exact c4 k h0 h1
  · simp (disch := omega) only [zp_ne, hf]; exact c5 k h0 h1
  · rw [zp_ne (by omega), zp_ne (by omega), zp_ne (by omega), zp_ne (by omega)] at h2 h3
    simp (disch := omega) only [zp_ne, hf]; exact c6 r k h0 h1 h2 h3
theorem xs_tell (h : XS μ c Z) (hi : Z 0 4 = (i : Int)) {v w x : Int} (hf : ∀ q k, c ≤ q → q < c + 19 → ¬ (q = c + 10 ∧ k = i) → ¬ (q = c + 11 ∧ k = i) → ¬ (q = c + 12 ∧ k = i) → ¬ (q = c ∧ k = 12) → μ' q k = μ q k) (e1 : μ' (c + 10) i = v) (e2 : μ' (c + 11) i = w) (e3 : μ' (c + 12) i = x) (e5 : μ' c 12 = (i : Int) + 1) : XS μ' c (zp (zp (zp (zp Z 11 (Z 0 4) v) 12 (Z 0 4) w) 13 (Z 0 4) x) 0 4 (Z 0 4 + 1)) := by
  obtain ⟨⟨a1, a2, a3, a4⟩, ⟨a5, a6, a7, a8, a9⟩, c1, c2, c3, c4, c5, c6⟩ := h
  rw [hi]
  refine ⟨⟨?_, ?_, ?_, ?_⟩, ⟨?_, ?_, ?_, ?_, ?_⟩, fun k h0 h1 => ?_, fun k h0 h1 => ?_, fun k h0 h1 => ?_, fun k h0 h1 => ?_, fun k h0 h1 => ?_, fun r k h0 h1 h2 h3 => ?_⟩
  · simp (disch := omega) only [zp_ne, hf]; exact a1
  · simp (disch := omega) only [zp_ne, hf]; exact a2
  · simp (disch := omega) only [zp_ne, hf]; exact a3
  · rw [e5, zp_eq]
  · simp (disch := omega) only [zp_ne, hf]; exact a5
  · simp (disch := omega) only [zp_ne, hf]; exact a6
  · simp (disch := omega) only [zp_ne, hf]; exact a7
  · simp (disch := omega) only [zp_ne, hf]; exact a8
  · simp (disch := omega) only [zp_ne, hf]; exact a9
  · rw [zp_ne (by omega), zp_ne (by omega), zp_ne (by omega), zp_ne (by omega)] at h1
    simp (disch := omega) only [zp_ne, hf]; exact c1 k h0 h1
  · rw [zp_ne (by omega), zp_ne (by omega), zp_ne (by omega), zp_ne (by omega)] at h1
    simp (disch := omega) only [zp_ne, hf]
    have g := c2 k h0 h1
    refine ⟨g.1, g.2.1, g.2.2.1, g.2.2.2.1, fun p p0 p1 => ?_⟩
    rw [g.2.2.2.2 p p0 p1]
    exact (seeB_c _ 0 (by omega) (fun j _ _ => ⟨by simp (disch := omega) only [zp_ne], by simp (disch := omega) only [zp_ne]⟩)).symm
  · rw [zp_ne (by omega), zp_ne (by omega), zp_ne (by omega), zp_ne (by omega)] at h1
    simp (disch := omega) only [zp_ne, hf]; exact c3 k h0 h1
  · rw [zp_eq] at h1
    by_cases q : k = (i : Int)
    · subst q
      rw [Int.toNat_natCast, e1, e2, e3]
      simp (disch := omega) only [zp_ne, zp_eq, and_self]
    · simp (disch := omega) only [zp_ne, hf]; exact c4 k h0 (by omega)
  · simp (disch := omega) only [zp_ne, hf]; exact c5 k h0 h1
  · rw [zp_ne (by omega), zp_ne (by omega), zp_ne (by omega), zp_ne (by omega)] at h2 h3
    simp (disch := omega) only [zp_ne, hf]; exact c6 r k h0 h1 h2 h3
theorem xs_set (h : XS μ c Z) {s : Nat} (hs : s < 4) {v : Int} (hf : ∀ q k, c ≤ q → q < c + 19 → ¬ (q = c + 13 ∧ k = s) → μ' q k = μ q k) (e1 : μ' (c + 13) s = v) : XS μ' c (zp Z 0 (5 + s) v) := by
  obtain ⟨⟨a1, a2, a3, a4⟩, ⟨a5, a6, a7, a8, a9⟩, c1, c2, c3, c4, c5, c6⟩ := h
  refine ⟨⟨?_, ?_, ?_, ?_⟩, ⟨?_, ?_, ?_, ?_, ?_⟩, fun k h0 h1 => ?_, fun k h0 h1 => ?_, fun k h0 h1 => ?_, fun k h0 h1 => ?_, fun k h0 h1 => ?_, fun r k h0 h1 h2 h3 => ?_⟩
  · simp (disch := omega) only [zp_ne, hf]; exact a1
  · simp (disch := omega) only [zp_ne, hf]; exact a2
  · simp (disch := omega) only [zp_ne, hf]; exact a3
  · simp (disch := omega) only [zp_ne, hf]; exact a4
  · rcases (show s = 0 ∨ s ≠ 0 by omega) with rfl | q
    · rw [e1]; exact zp_eq.symm
    · simp (disch := omega) only [zp_ne, hf]; exact a5
  · rcases (show s = 1 ∨ s ≠ 1 by omega) with rfl | q
    · rw [e1]; exact zp_eq.symm
    · simp (disch := omega) only [zp_ne, hf]; exact a6
  · rcases (show s = 2 ∨ s ≠ 2 by omega) with rfl | q
    · rw [e1]; exact zp_eq.symm
    · simp (disch := omega) only [zp_ne, hf]; exact a7
  · rcases (show s = 3 ∨ s ≠ 3 by omega) with rfl | q
    · rw [e1]; exact zp_eq.symm
    · simp (disch := omega) only [zp_ne, hf]; exact a8
  · simp (disch := omega) only [zp_ne, hf]; exact a9
  · rw [zp_ne (by omega)] at h1
    simp (disch := omega) only [zp_ne, hf]; exact c1 k h0 h1
  · rw [zp_ne (by omega)] at h1
    simp (disch := omega) only [zp_ne, hf]
    have g := c2 k h0 h1
    refine ⟨g.1, g.2.1, g.2.2.1, g.2.2.2.1, fun p p0 p1 => ?_⟩
    rw [g.2.2.2.2 p p0 p1]
    exact (seeB_c _ 0 (by omega) (fun j _ _ => ⟨by simp (disch := omega) only [zp_ne], by simp (disch := omega) only [zp_ne]⟩)).symm
  · rw [zp_ne (by omega)] at h1
    simp (disch := omega) only [zp_ne, hf]; exact c3 k h0 h1
  · rw [zp_ne (by omega)] at h1
    simp (disch := omega) only [zp_ne, hf]; exact c4 k h0 h1
  · simp (disch := omega) only [zp_ne, hf]; exact c5 k h0 h1
  · rw [zp_ne (by omega)] at h2 h3
    simp (disch := omega) only [zp_ne, hf]; exact c6 r k h0 h1 h2 h3
end XSU
