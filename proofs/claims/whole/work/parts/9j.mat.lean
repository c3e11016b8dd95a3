/-! MATCH: most pairs, and the first choice of them; the reference -/
/-- from a base on: more by a man -/
def gMx (f : Nat → Nat) (ok : Nat → Bool) (base : Nat) : Nat → Nat
  | 0 => base
  | x + 1 => if ok x = true ∧ gMx f ok base x < 1 + f x then 1 + f x else gMx f ok base x
def okM (wb : Nat → Nat) (t k x : Nat) : Bool := (wb t).testBit x && !(k.testBit x)
/-- how many pairs are left, from the thing t on -/
def gM (wb : Nat → Nat) : Nat → Nat → Nat → Nat
  | 0, _, _ => 0
  | n + 1, t, k => gMx (fun x => gM wb n (t + 1) (k ||| 2 ^ x)) (okM wb t k) (gM wb n (t + 1) k) 7
def chX (f : Nat → Nat) (ok : Nat → Bool) (G : Nat) : Nat → Nat → Int
  | 0, _ => -2
  | n + 1, x => if ok x = true ∧ 1 + f x = G then (x : Int) else chX f ok G n (x + 1)
def chT (wb : Nat → Nat) (n t k : Nat) : Int := chX (fun x => gM wb n (t + 1) (k ||| 2 ^ x)) (okM wb t k) (gM wb (n + 1) t k) 7 0
def chM (wb : Nat → Nat) : Nat → Nat → Nat → Nat → Int
  | 0, _, _, _ => -2
  | n + 1, t, k, i => if i = t then chT wb n t k else chM wb n (t + 1) (if 0 ≤ chT wb n t k then k ||| 2 ^ (chT wb n t k).toNat else k) i
/-- the most by a man so far, and that man -/
def mX (f : Nat → Nat) (ok : Nat → Bool) : Nat → Int
  | 0 => -1
  | x + 1 => if ok x = true ∧ mX f ok x < 1 + (f x : Int) then 1 + (f x : Int) else mX f ok x
def aX (f : Nat → Nat) (ok : Nat → Bool) : Nat → Int
  | 0 => -2
  | x + 1 => if ok x = true ∧ mX f ok x < 1 + (f x : Int) then (x : Int) else aX f ok x
theorem mX_is {f : Nat → Nat} {ok : Nat → Bool} : ∀ x, (mX f ok x = -1 ∧ aX f ok x = -2 ∧ ∀ y, y < x → ok y = false) ∨ (∃ a, a < x ∧ ok a = true ∧ mX f ok x = 1 + (f a : Int) ∧ aX f ok x = (a : Int) ∧ (∀ y, y < a → ok y = true → f y < f a) ∧ ∀ y, y < x → ok y = true → f y ≤ f a)
  | 0 => Or.inl ⟨rfl, rfl, fun y hy => by omega⟩
  | x + 1 => by
    have e1 : mX f ok (x + 1) = if ok x = true ∧ mX f ok x < 1 + (f x : Int) then 1 + (f x : Int) else mX f ok x := rfl
    have e2 : aX f ok (x + 1) = if ok x = true ∧ mX f ok x < 1 + (f x : Int) then (x : Int) else aX f ok x := rfl
    rw [e1, e2]
    rcases mX_is (f := f) (ok := ok) x with ⟨i1, i2, i3⟩ | ⟨a, i1, i2, i3, i4, i5, i6⟩
    · by_cases c : ok x = true
      · rw [if_pos ⟨c, by omega⟩, if_pos ⟨c, by omega⟩]
        refine Or.inr ⟨x, by omega, c, rfl, rfl, fun y hy g => ?_, fun y hy g => ?_⟩
        · rw [i3 y hy] at g; cases g
        · by_cases e : y = x
          · subst e; exact Nat.le_refl _
          · rw [i3 y (by omega)] at g; cases g
      · rw [if_neg (fun g => c g.1), if_neg (fun g => c g.1)]
        refine Or.inl ⟨i1, i2, fun y hy => ?_⟩
        by_cases e : y = x
        · subst e; simpa using c
        · exact i3 y (by omega)
    · by_cases c : ok x = true ∧ mX f ok x < 1 + (f x : Int)
      · rw [if_pos c, if_pos c]
        refine Or.inr ⟨x, by omega, c.1, rfl, rfl, fun y hy g => ?_, fun y hy g => ?_⟩
        · have := i6 y hy g; have := c.2; omega
        · by_cases e : y = x
          · subst e; exact Nat.le_refl _
          · have := i6 y (by omega) g; have := c.2; omega
      · rw [if_neg c, if_neg c]
        refine Or.inr ⟨a, by omega, i2, i3, i4, i5, fun y hy g => ?_⟩
        by_cases e : y = x
        · subst e
          have : ¬ mX f ok y < 1 + (f y : Int) := fun q => c ⟨g, q⟩
          omega
        · exact i6 y (by omega) g
theorem gMx_is {f : Nat → Nat} {ok : Nat → Bool} {base : Nat} : ∀ x, (gMx f ok base x : Int) = if (base : Int) < mX f ok x then mX f ok x else (base : Int)
  | 0 => by
    show (base : Int) = if (base : Int) < -1 then -1 else (base : Int)
    rw [if_neg (by omega)]
  | x + 1 => by
    have i := gMx_is (f := f) (ok := ok) (base := base) x
    show ((if ok x = true ∧ gMx f ok base x < 1 + f x then 1 + f x else gMx f ok base x : Nat) : Int) = if (base : Int) < (if ok x = true ∧ mX f ok x < 1 + (f x : Int) then 1 + (f x : Int) else mX f ok x) then (if ok x = true ∧ mX f ok x < 1 + (f x : Int) then 1 + (f x : Int) else mX f ok x) else (base : Int)
    by_cases c : ok x = true
    · simp only [c, true_and]
      generalize mX f ok x = z at i ⊢
      generalize gMx f ok base x = y at i ⊢
      split at i <;> split <;> split <;> (try split) <;> omega
    · simp only [c, false_and, if_false]
      exact i
theorem chX_is {f : Nat → Nat} {ok : Nat → Bool} {G : Nat} : ∀ n x, (∃ y, x ≤ y ∧ y < x + n ∧ ok y = true ∧ 1 + f y = G ∧ chX f ok G n x = (y : Int) ∧ ∀ z, x ≤ z → z < y → ¬ (ok z = true ∧ 1 + f z = G)) ∨ (chX f ok G n x = -2 ∧ ∀ z, x ≤ z → z < x + n → ¬ (ok z = true ∧ 1 + f z = G))
  | 0, x => Or.inr ⟨rfl, fun z h0 h1 => by omega⟩
  | n + 1, x => by
    have e : chX f ok G (n + 1) x = if ok x = true ∧ 1 + f x = G then (x : Int) else chX f ok G n (x + 1) := rfl
    rw [e]
    by_cases c : ok x = true ∧ 1 + f x = G
    · rw [if_pos c]
      exact Or.inl ⟨x, Nat.le_refl x, by omega, c.1, c.2, rfl, fun z h0 h1 => by omega⟩
    · rw [if_neg c]
      rcases chX_is (f := f) (ok := ok) (G := G) n (x + 1) with ⟨y, i1, i2, i3, i4, i5, i6⟩ | ⟨i1, i2⟩
      · refine Or.inl ⟨y, by omega, by omega, i3, i4, i5, fun z h0 h1 => ?_⟩
        by_cases q : z = x
        · subst q; exact c
        · exact i6 z (by omega) h1
      · refine Or.inr ⟨i1, fun z h0 h1 => ?_⟩
        by_cases q : z = x
        · subst q; exact c
        · exact i2 z (by omega) (by omega)
/-- the first choice is the first man of the most -/
theorem chX_aX {f : Nat → Nat} {ok : Nat → Bool} {base : Nat} : chX f ok (gMx f ok base 7) 7 0 = if (base : Int) ≤ mX f ok 7 then aX f ok 7 else -2 := by
  have g := gMx_is (f := f) (ok := ok) (base := base) 7
  have hc := chX_is (f := f) (ok := ok) (G := gMx f ok base 7) 7 0
  rcases mX_is (f := f) (ok := ok) 7 with ⟨i1, i2, i3⟩ | ⟨a, i1, i2, i3, i4, i5, i6⟩
  · rw [if_neg (by omega)]
    rcases hc with ⟨y, j1, j2, j3, -⟩ | ⟨j1, -⟩
    · rw [i3 y (by omega)] at j3; cases j3
    · exact j1
  · by_cases c : (base : Int) ≤ mX f ok 7
    · rw [if_pos c, i4]
      have hG : 1 + f a = gMx f ok base 7 := by split at g <;> omega
      rcases hc with ⟨y, j1, j2, j3, j4, j5, j6⟩ | ⟨j1, j2⟩
      · rw [j5]
        have e1 : ¬ a < y := fun q => j6 a (by omega) q ⟨i2, hG⟩
        have e2 : ¬ y < a := fun q => by have := i5 y q j3; omega
        omega
      · exact absurd ⟨i2, hG⟩ (j2 a (by omega) (by omega))
    · rw [if_neg c]
      rcases hc with ⟨y, j1, j2, j3, j4, j5, j6⟩ | ⟨j1, j2⟩
      · have := i6 y (by omega) j3
        rw [if_neg (by omega)] at g
        omega
      · exact j1
theorem gM_b {wb : Nat → Nat} : ∀ n t k, gM wb n t k ≤ n
  | 0, _, _ => Nat.le_refl 0
  | n + 1, t, k => by
    have h : ∀ x, gMx (fun x => gM wb n (t + 1) (k ||| 2 ^ x)) (okM wb t k) (gM wb n (t + 1) k) x ≤ n + 1 := by
      intro x
      induction x with
      | zero => have := gM_b (wb := wb) n (t + 1) k; show gM wb n (t + 1) k ≤ n + 1; omega
      | succ x ih =>
        have := gM_b (wb := wb) n (t + 1) (k ||| 2 ^ x)
        show (if okM wb t k x = true ∧ gMx (fun x => gM wb n (t + 1) (k ||| 2 ^ x)) (okM wb t k) (gM wb n (t + 1) k) x < 1 + gM wb n (t + 1) (k ||| 2 ^ x) then 1 + gM wb n (t + 1) (k ||| 2 ^ x) else gMx (fun x => gM wb n (t + 1) (k ||| 2 ^ x)) (okM wb t k) (gM wb n (t + 1) k) x) ≤ n + 1
        split <;> omega
    exact h 7
theorem mX_e {f : Nat → Nat} {ok : Nat → Bool} {M : Nat} (h : ∀ y, M ≤ y → ok y = false) : ∀ e, mX f ok (M + e) = mX f ok M ∧ aX f ok (M + e) = aX f ok M
  | 0 => ⟨rfl, rfl⟩
  | e + 1 => by
    have i := mX_e (f := f) h e
    have q := h (M + e) (by omega)
    show (if ok (M + e) = true ∧ mX f ok (M + e) < 1 + (f (M + e) : Int) then 1 + (f (M + e) : Int) else mX f ok (M + e)) = _ ∧ (if ok (M + e) = true ∧ mX f ok (M + e) < 1 + (f (M + e) : Int) then ((M + e : Nat) : Int) else aX f ok (M + e)) = _
    rw [if_neg (by rw [q]; simp), if_neg (by rw [q]; simp)]
    exact i
section MT
variable {ρ : Nat → Nat → Nat} {cs : Nat × Nat × Nat} {d : Nat} {S : MS} {wb : Nat → Nat}
/-- what a call of the recursion leaves -/
def MS1 (wb : Nat → Nat) (T n t k : Nat) (c b0 : Int) (μ μ1 : Nat → Nat → Int) : Prop := (∀ q i, ¬ (q = 132 ∧ t ≤ i) → ¬ (q = 133) → ¬ (q = 99 ∧ i = 57) → μ1 q i = μ q i) ∧ ((b0 < c + gM wb n t k ∧ μ1 99 57 = c + gM wb n t k ∧ ∀ i, i < T → μ1 133 i = if i < t then μ 132 i else chM wb n t k i) ∨ (c + gM wb n t k ≤ b0 ∧ μ1 99 57 = b0 ∧ ∀ i, i < T → μ1 133 i = μ 133 i))
/-- what holds before the man x is tried -/
def MS2 (f : Nat → Nat) (ok : Nat → Bool) (ch : Nat → Nat → Int) (T t k x : Nat) (c b0 : Int) (μ μ1 : Nat → Nat → Int) : Prop := (∀ q i, ¬ (q = 132 ∧ t ≤ i) → ¬ (q = 133) → ¬ (q = 99 ∧ i = 57) → μ1 q i = μ q i) ∧ ((1 ≤ mX f ok x ∧ b0 < c + mX f ok x ∧ μ1 99 57 = c + mX f ok x ∧ ∀ i, i < T → μ1 133 i = if i < t then μ 132 i else if i = t then aX f ok x else ch (k ||| 2 ^ (aX f ok x).toNat) i) ∨ (¬ (1 ≤ mX f ok x ∧ b0 < c + mX f ok x) ∧ μ1 99 57 = b0 ∧ ∀ i, i < T → μ1 133 i = μ 133 i))
theorem R_copyBest (hρ : RM ρ) {t k : Nat} {c : Int} (ht : t ≤ 6) : ∀ (n x : Nat) (μ : Nat → Nat → Int), x + n = t → ∃ μ1, (∀ q i, ¬ (q = 133 ∧ x ≤ i ∧ i < t) → μ1 q i = μ q i) ∧ (∀ i, x ≤ i → i < t → μ1 133 i = μ 132 i) ∧ am_E (d + 1) 232 27 [some (.inr (.inr 99)), some (.inl (t : Int)), some (.inl (k : Int)), some (.inl c), some (.inl (x : Int))] [] (SH, ρ, μ, cs) = some (none, (SH, ρ, μ1, cs)) := by
  intro n
  induction n with
  | zero =>
    intro x μ hx
    refine ⟨μ, fun _ _ _ => rfl, fun i h0 h1 => by omega, ?_⟩
    rw [e232_27]; simp (disch := (first | omega | (simp (disch := omega) only [sr_up, wr_up_o]; omega))) only [ks_132, ks_133, ks_99, rm_matchBest hρ, rm_matchNow hρ, ite_self, Bool.false_eq_true, eq_self, isk_t, i20_t, w20_t, l23_t, b21_t, b22_t, w_t, bif_t, bif_f, bif_d, if_pos, if_neg, if_true, if_false, not_true_eq_false, not_false_eq_true, Option.bind_some, Option.toList_some, Option.toList_none, List.cons_append, List.nil_append, Int.toNat_natCast, Int.reduceToNat, up_eq, up_p, up_k, sN]
  | succ n ih =>
    intro x μ hx
    obtain ⟨μ1, f1, f2, f3⟩ := ih (x + 1) (am_up μ 133 x (μ 132 x)) (by omega)
    refine ⟨μ1, fun q i h => by rw [f1 q i (by omega), am_up_no (by omega)], fun i h0 h1 => ?_, ?_⟩
    · by_cases e : i = x
      · subst e; rw [f1 _ _ (by omega), up_eq]
      · rw [f2 i (by omega) h1, up_p (by omega)]
    · have e1 : ((x + 1 : Nat) : Int) = (x : Int) + 1 := by omega
      rw [e1] at f3
      rw [← f3]
      rw [e232_27]; simp (disch := (first | omega | (simp (disch := omega) only [sr_up, wr_up_o]; omega))) only [ks_132, ks_133, ks_99, rm_matchBest hρ, rm_matchNow hρ, ite_self, Bool.false_eq_true, eq_self, isk_t, i20_t, w20_t, l23_t, b21_t, b22_t, w_t, bif_t, bif_f, bif_d, if_pos, if_neg, if_true, if_false, not_true_eq_false, not_false_eq_true, Option.bind_some, Option.toList_some, Option.toList_none, List.cons_append, List.nil_append, Int.toNat_natCast, Int.reduceToNat, up_eq, up_p, up_k, sN]
theorem R_match0 (hρ : RM ρ) {T k : Nat} {c b0 : Int} {μ : Nat → Nat → Int} (hT : T ≤ 6) (hs : μ 101 1 = (T : Int)) (hb : μ 99 57 = b0) : ∃ μ1, MS1 wb T 0 T k c b0 μ μ1 ∧ am_E (d + 1) 232 0 [some (.inr (.inr 99)), some (.inl (T : Int)), some (.inl (k : Int)), some (.inl c), none] [] (SH, ρ, μ, cs) = some (none, (SH, ρ, μ1, cs)) := by
  by_cases q : b0 < c
  · obtain ⟨μ1, f1, f2, f3⟩ := R_copyBest (ρ := ρ) (cs := cs) (d := d) (t := T) (k := k) (c := c) hρ hT T 0 (am_up μ 99 57 c) (by omega)
    refine ⟨μ1, ⟨fun q i h1 h2 h3 => by rw [f1 q i (by omega), am_up_no h3], Or.inl ⟨?_, ?_, fun i hi => ?_⟩⟩, ?_⟩
    · show b0 < c + ((0 : Nat) : Int); omega
    · rw [f1 _ _ (by omega), up_eq]; show c = c + ((0 : Nat) : Int); omega
    · rw [f2 i (by omega) hi, if_pos hi, up_p (by omega)]
    · have f4 : am_E (d + 1) 232 27 [some (.inr (.inr 99)), some (.inl (T : Int)), some (.inl (k : Int)), some (.inl c), some (.inl 0)] [] (SH, ρ, am_up μ 99 57 c, cs) = some (none, (SH, ρ, μ1, cs)) := f3
      rw [← f4]
      rw [e232_0]; simp (disch := (first | omega | (simp (disch := omega) only [sr_up, wr_up_o]; omega))) only [ks_101, ks_99, rm_number hρ, ite_self, Bool.false_eq_true, eq_self, isk_t, i20_t, w20_t, l23_t, b21_t, b22_t, w_t, bif_t, bif_f, bif_d, if_pos, if_neg, if_true, if_false, not_true_eq_false, not_false_eq_true, Option.bind_some, Option.toList_some, Option.toList_none, List.cons_append, List.nil_append, Int.toNat_natCast, Int.reduceToNat, up_eq, up_p, up_k, sN,  hs, hb ]
  · refine ⟨μ, ⟨fun _ _ _ _ _ => rfl, Or.inr ⟨?_, hb, fun _ _ => rfl⟩⟩, ?_⟩
    · show c + ((0 : Nat) : Int) ≤ b0; omega
    · rw [e232_0]; simp (disch := (first | omega | (simp (disch := omega) only [sr_up, wr_up_o]; omega))) only [ks_101, ks_99, rm_number hρ, ite_self, Bool.false_eq_true, eq_self, isk_t, i20_t, w20_t, l23_t, b21_t, b22_t, w_t, bif_t, bif_f, bif_d, if_pos, if_neg, if_true, if_false, not_true_eq_false, not_false_eq_true, Option.bind_some, Option.toList_some, Option.toList_none, List.cons_append, List.nil_append, Int.toNat_natCast, Int.reduceToNat, up_eq, up_p, up_k, sN,  hs, hb ]
theorem R_match1 (hρ : RM ρ) {T n t k M : Nat} {c b0 : Int} {μ : Nat → Nat → Int} (hT : T ≤ 6) (ht : t + (n + 1) = T) (hM : M ≤ 7) (hk : k < 128) (c0 : 0 ≤ c) (c1 : c ≤ t) (hwM : ∀ x, M ≤ x → (wb t).testBit x = false) (hw7 : wb t < 128) (hs0 : μ 101 0 = (M : Int)) (h131 : ∀ i, i < T → μ 131 i = (wb i : Int))
    (IH : ∀ (k : Nat) (c b0 : Int) (μ : Nat → Nat → Int), k < 128 → 0 ≤ c → c ≤ ((t + 1 : Nat) : Int) → μ 101 0 = (M : Int) → μ 101 1 = (T : Int) → (∀ i, i < T → μ 131 i = (wb i : Int)) → μ 99 57 = b0 → ∃ μ1, MS1 wb T n (t + 1) k c b0 μ μ1 ∧ am_E (d + 1) 232 0 [some (.inr (.inr 99)), some (.inl ((t + 1 : Nat) : Int)), some (.inl (k : Int)), some (.inl c), none] [] (SH, ρ, μ, cs) = some (none, (SH, ρ, μ1, cs))) (hs1 : μ 101 1 = (T : Int)) :
    ∀ (j x : Nat) (μx : Nat → Nat → Int), x + j = M → MS2 (fun x => gM wb n (t + 1) (k ||| 2 ^ x)) (okM wb t k) (chM wb n (t + 1)) T t k x c b0 μ μx → ∃ μ1, MS1 wb T (n + 1) t k c b0 μ μ1 ∧ am_E (d + 2) 232 57 [some (.inr (.inr 99)), some (.inl (t : Int)), some (.inl (k : Int)), some (.inl c), some (.inl (x : Int))] [] (SH, ρ, μx, cs) = some (none, (SH, ρ, μ1, cs)) := by
  have et : ((t + 1 : Nat) : Int) = (t : Int) + 1 := by omega
  intro j
  induction j with
  | zero =>
    intro x μx hx hI
    have hx' : x = M := by omega
    subst hx'
    obtain ⟨fr, hI⟩ := hI
    have z0 : μx 101 0 = (x : Int) := by rw [fr _ _ (by omega) (by omega) (by omega)]; exact hs0
    have z1 : μx 101 1 = (T : Int) := by rw [fr _ _ (by omega) (by omega) (by omega)]; exact hs1
    obtain ⟨μ1, ⟨g1, g2⟩, g3⟩ := IH k c (μx 99 57) (am_up μx 132 t (-2)) hk c0 (by omega) (by rw [up_p (by omega)]; exact z0) (by rw [up_p (by omega)]; exact z1) (fun i hi => by rw [up_p (by omega), fr _ _ (by omega) (by omega) (by omega)]; exact h131 i hi) (up_p (by omega))
    rw [et] at g3
    refine ⟨μ1, ⟨fun q i h1 h2 h3 => by rw [g1 q i (by omega) h2 h3, am_up_no (by omega), fr q i h1 h2 h3], ?_⟩, ?_⟩
    · clear g3 IH g1
      have hok : ∀ y, x ≤ y → okM wb t k y = false := fun y hy => by unfold okM; rw [hwM y hy]; rfl
      have e7 := mX_e (f := fun x => gM wb n (t + 1) (k ||| 2 ^ x)) hok (7 - x)
      rw [show x + (7 - x) = 7 by omega] at e7
      have hG := gMx_is (f := fun x => gM wb n (t + 1) (k ||| 2 ^ x)) (ok := okM wb t k) (base := gM wb n (t + 1) k) 7
      have hch : chT wb n t k = if ((gM wb n (t + 1) k : Nat) : Int) ≤ mX (fun x => gM wb n (t + 1) (k ||| 2 ^ x)) (okM wb t k) 7 then aX (fun x => gM wb n (t + 1) (k ||| 2 ^ x)) (okM wb t k) 7 else -2 := chX_aX
      have hGM : gM wb (n + 1) t k = gMx (fun x => gM wb n (t + 1) (k ||| 2 ^ x)) (okM wb t k) (gM wb n (t + 1) k) 7 := rfl
      have hcM : ∀ i, chM wb (n + 1) t k i = if i = t then chT wb n t k else chM wb n (t + 1) (if 0 ≤ chT wb n t k then k ||| 2 ^ (chT wb n t k).toNat else k) i := fun i => rfl
      have hmx := mX_is (f := fun x => gM wb n (t + 1) (k ||| 2 ^ x)) (ok := okM wb t k) x
      rw [hGM]
      rw [e7.1] at hG
      rw [e7.1, e7.2] at hch
      clear hGM e7
      generalize hmv : mX (fun x => gM wb n (t + 1) (k ||| 2 ^ x)) (okM wb t k) x = mv at *
      generalize hav : aX (fun x => gM wb n (t + 1) (k ||| 2 ^ x)) (okM wb t k) x = av at *
      generalize gMx (fun x => gM wb n (t + 1) (k ||| 2 ^ x)) (okM wb t k) (gM wb n (t + 1) k) 7 = G at hG ⊢
      generalize hbs : gM wb n (t + 1) k = base at *
      have hmv2 : mv = -1 ∨ (1 ≤ mv ∧ 0 ≤ av) := by
        rcases hmx with ⟨q1, -⟩ | ⟨a, q1, q2, q3, q4, -⟩
        · exact Or.inl q1
        · exact Or.inr ⟨by omega, by omega⟩
      rcases hI with ⟨i1, i2, i3, i4⟩ | ⟨i1, i2, i3⟩
      · rcases g2 with ⟨k1, k2, k3⟩ | ⟨k1, k2, k3⟩
        · rw [if_neg (by omega)] at hG hch
          refine Or.inl ⟨by omega, by omega, fun i hi => ?_⟩
          rw [k3 i hi, hcM, hch]
          by_cases b1 : i < t
          · rw [if_pos (by omega), if_pos b1, am_up_no (by omega), fr _ _ (by omega) (by omega) (by omega)]
          · rw [if_neg b1]
            by_cases b2 : i = t
            · subst b2; rw [if_pos (by omega), if_pos rfl, up_eq]
            · rw [if_neg (by omega), if_neg b2, if_neg (by omega)]
        · rw [if_pos (by omega)] at hch
          refine Or.inl ⟨by split at hG <;> omega, by split at hG <;> omega, fun i hi => ?_⟩
          rw [k3 i hi, up_p (by omega), i4 i hi, hcM, hch, if_pos (show 0 ≤ av by omega)]
      · rcases g2 with ⟨k1, k2, k3⟩ | ⟨k1, k2, k3⟩
        · rw [if_neg (by omega)] at hG hch
          refine Or.inl ⟨by omega, by omega, fun i hi => ?_⟩
          rw [k3 i hi, hcM, hch]
          by_cases b1 : i < t
          · rw [if_pos (by omega), if_pos b1, am_up_no (by omega), fr _ _ (by omega) (by omega) (by omega)]
          · rw [if_neg b1]
            by_cases b2 : i = t
            · subst b2; rw [if_pos (by omega), if_pos rfl, up_eq]
            · rw [if_neg (by omega), if_neg b2, if_neg (by omega)]
        · refine Or.inr ⟨by split at hG <;> omega, by omega, fun i hi => by rw [k3 i hi, up_p (by omega), i3 i hi]⟩
    · rw [e232_57]; simp (disch := (first | omega | (simp (disch := omega) only [sr_up, wr_up_o]; omega))) only [e232_142, ks_101, ks_131, ks_132, ks_99, rm_matchNow hρ, rm_number hρ, rm_wouldBe hρ, ite_self, Bool.false_eq_true, eq_self, isk_t, i20_t, w20_t, l23_t, b21_t, b22_t, w_t, bif_t, bif_f, bif_d, if_pos, if_neg, if_true, if_false, not_true_eq_false, not_false_eq_true, Option.bind_some, Option.toList_some, Option.toList_none, List.cons_append, List.nil_append, Int.toNat_natCast, Int.reduceToNat, up_eq, up_p, up_k, sN,  z0, g3 ]
  | succ j ih =>
    intro x μx hx hI
    have z0 : μx 101 0 = (M : Int) := by rw [hI.1 _ _ (by omega) (by omega) (by omega)]; exact hs0
    have z1 : μx 101 1 = (T : Int) := by rw [hI.1 _ _ (by omega) (by omega) (by omega)]; exact hs1
    have z2 : ∀ i, i < T → μx 131 i = (wb i : Int) := fun i hi => by rw [hI.1 _ _ (by omega) (by omega) (by omega)]; exact h131 i hi
    have zt := z2 t (by omega)
    have e1 : ((x + 1 : Nat) : Int) = (x : Int) + 1 := by omega
    have bw : am_and (am_shr (wb t : Int) (x : Int)) 1 = if (wb t).testBit x = true then 1 else 0 := nb_bit (by omega) (by omega)
    have bk : am_and (am_shr (k : Int) (x : Int)) 1 = if k.testBit x = true then 1 else 0 := nb_bit (by omega) (by omega)
    have eM : mX (fun x => gM wb n (t + 1) (k ||| 2 ^ x)) (okM wb t k) (x + 1) = if okM wb t k x = true ∧ mX (fun x => gM wb n (t + 1) (k ||| 2 ^ x)) (okM wb t k) x < 1 + ((gM wb n (t + 1) (k ||| 2 ^ x) : Nat) : Int) then 1 + ((gM wb n (t + 1) (k ||| 2 ^ x) : Nat) : Int) else mX (fun x => gM wb n (t + 1) (k ||| 2 ^ x)) (okM wb t k) x := rfl
    have eA : aX (fun x => gM wb n (t + 1) (k ||| 2 ^ x)) (okM wb t k) (x + 1) = if okM wb t k x = true ∧ mX (fun x => gM wb n (t + 1) (k ||| 2 ^ x)) (okM wb t k) x < 1 + ((gM wb n (t + 1) (k ||| 2 ^ x) : Nat) : Int) then (x : Int) else aX (fun x => gM wb n (t + 1) (k ||| 2 ^ x)) (okM wb t k) x := rfl
    have skip : okM wb t k x = false → MS2 (fun x => gM wb n (t + 1) (k ||| 2 ^ x)) (okM wb t k) (chM wb n (t + 1)) T t k (x + 1) c b0 μ μx := fun g => by
      unfold MS2
      rw [eM, eA, if_neg (by rw [g]; simp), if_neg (by rw [g]; simp)]
      exact hI
    by_cases c2 : (wb t).testBit x = true
    · rw [if_pos c2] at bw
      by_cases c3 : k.testBit x = true
      · rw [if_pos c3] at bk
        obtain ⟨μ1, k1, k2⟩ := ih (x + 1) μx (by omega) (skip (by unfold okM; rw [c2, c3]; rfl))
        refine ⟨μ1, k1, ?_⟩
        rw [e1] at k2
        rw [← k2]
        clear k2 ih IH skip
        rw [e232_57]; simp (disch := (first | omega | (simp (disch := omega) only [sr_up, wr_up_o]; omega))) only [e232_119, ks_101, ks_131, ks_132, ks_99, rm_matchNow hρ, rm_number hρ, rm_wouldBe hρ, ite_self, Bool.false_eq_true, eq_self, isk_t, i20_t, w20_t, l23_t, b21_t, b22_t, w_t, bif_t, bif_f, bif_d, if_pos, if_neg, if_true, if_false, not_true_eq_false, not_false_eq_true, Option.bind_some, Option.toList_some, Option.toList_none, List.cons_append, List.nil_append, Int.toNat_natCast, Int.reduceToNat, up_eq, up_p, up_k, sN,  z0, zt, bw, bk ]
      · rw [if_neg c3] at bk
        have hok : okM wb t k x = true := by unfold okM; rw [c2]; simp [c3]
        have hkx : k ||| 2 ^ x < 128 := Nat.or_lt_two_pow (n := 7) hk (Nat.pow_lt_pow_right (by decide) (by omega))
        obtain ⟨μ2, ⟨g1, g2⟩, g3⟩ := IH (k ||| 2 ^ x) (c + 1) (μx 99 57) (am_up μx 132 t (x : Int)) hkx (by omega) (by omega) (by rw [up_p (by omega)]; exact z0) (by rw [up_p (by omega)]; exact z1) (fun i hi => by rw [up_p (by omega)]; exact z2 i hi) (up_p (by omega))
        have hI2 : MS2 (fun x => gM wb n (t + 1) (k ||| 2 ^ x)) (okM wb t k) (chM wb n (t + 1)) T t k (x + 1) c b0 μ μ2 := by
          obtain ⟨fr, hI⟩ := hI
          refine ⟨fun q i h1 h2 h3 => by rw [g1 q i (by omega) h2 h3, am_up_no (by omega), fr q i h1 h2 h3], ?_⟩
          rw [eM, eA]
          clear eM eA skip ih IH g3
          generalize hmv : mX (fun x => gM wb n (t + 1) (k ||| 2 ^ x)) (okM wb t k) x = mv at hI ⊢
          generalize hav : aX (fun x => gM wb n (t + 1) (k ||| 2 ^ x)) (okM wb t k) x = av at hI ⊢
          generalize hFv : gM wb n (t + 1) (k ||| 2 ^ x) = F at g2 ⊢
          by_cases c4 : mv < 1 + (F : Int)
          · rw [if_pos ⟨hok, c4⟩, if_pos ⟨hok, c4⟩]
            rcases g2 with ⟨k1, k2, k3⟩ | ⟨k1, k2, k3⟩
            · refine Or.inl ⟨by omega, ?_, by omega, fun i hi => ?_⟩
              · rcases hI with ⟨i1, i2, i3, i4⟩ | ⟨i1, i2, i3⟩ <;> omega
              · rw [k3 i hi, Int.toNat_natCast]
                by_cases b1 : i < t
                · rw [if_pos (by omega), if_pos b1, am_up_no (by omega), fr _ _ (by omega) (by omega) (by omega)]
                · rw [if_neg b1]
                  by_cases b2 : i = t
                  · subst b2; rw [if_pos (by omega), if_pos rfl, up_eq]
                  · rw [if_neg (by omega), if_neg b2]
            · rcases hI with ⟨i1, i2, i3, i4⟩ | ⟨i1, i2, i3⟩
              · omega
              · exact Or.inr ⟨by omega, by omega, fun i hi => by rw [k3 i hi, up_p (by omega), i3 i hi]⟩
          · rw [if_neg (fun g => c4 g.2), if_neg (fun g => c4 g.2)]
            rcases g2 with ⟨k1, k2, k3⟩ | ⟨k1, k2, k3⟩
            · rcases hI with ⟨i1, i2, i3, i4⟩ | ⟨i1, i2, i3⟩ <;> omega
            · rcases hI with ⟨i1, i2, i3, i4⟩ | ⟨i1, i2, i3⟩
              · exact Or.inl ⟨i1, i2, by omega, fun i hi => by rw [k3 i hi, up_p (by omega), i4 i hi]⟩
              · exact Or.inr ⟨i1, by omega, fun i hi => by rw [k3 i hi, up_p (by omega), i3 i hi]⟩
        obtain ⟨μ1, k1, k2⟩ := ih (x + 1) μ2 (by omega) hI2
        refine ⟨μ1, k1, ?_⟩
        have e4 : am_or (k : Int) (am_shl 1 (x : Int)) = ((k ||| 2 ^ x : Nat) : Int) := by
          have := ib_or1 (a := k) (k := (x : Int)) (by omega) (by omega) (by omega)
          rw [Int.toNat_natCast] at this
          exact this
        rw [e1] at k2
        rw [et] at g3
        rw [← k2]
        clear k2 ih IH skip hI2
        rw [e232_57]; simp (disch := (first | omega | (simp (disch := omega) only [sr_up, wr_up_o]; omega))) only [e232_119, ks_101, ks_131, ks_132, ks_99, rm_matchNow hρ, rm_number hρ, rm_wouldBe hρ, ite_self, Bool.false_eq_true, eq_self, isk_t, i20_t, w20_t, l23_t, b21_t, b22_t, w_t, bif_t, bif_f, bif_d, if_pos, if_neg, if_true, if_false, not_true_eq_false, not_false_eq_true, Option.bind_some, Option.toList_some, Option.toList_none, List.cons_append, List.nil_append, Int.toNat_natCast, Int.reduceToNat, up_eq, up_p, up_k, sN,  z0, zt, bw, bk, e4, g3 ]
    · rw [if_neg c2] at bw
      obtain ⟨μ1, k1, k2⟩ := ih (x + 1) μx (by omega) (skip (by unfold okM; simp [c2]))
      refine ⟨μ1, k1, ?_⟩
      rw [e1] at k2
      rw [← k2]
      clear k2 ih IH skip
      rw [e232_57]; simp (disch := (first | omega | (simp (disch := omega) only [sr_up, wr_up_o]; omega))) only [e232_119, ks_101, ks_131, ks_132, ks_99, rm_matchNow hρ, rm_number hρ, rm_wouldBe hρ, ite_self, Bool.false_eq_true, eq_self, isk_t, i20_t, w20_t, l23_t, b21_t, b22_t, w_t, bif_t, bif_f, bif_d, if_pos, if_neg, if_true, if_false, not_true_eq_false, not_false_eq_true, Option.bind_some, Option.toList_some, Option.toList_none, List.cons_append, List.nil_append, Int.toNat_natCast, Int.reduceToNat, up_eq, up_p, up_k, sN,  z0, zt, bw ]
theorem R_matches (hρ : RM ρ) {T M : Nat} (hT : T ≤ 6) (hM : M ≤ 7) (hwM : ∀ t x, M ≤ x → (wb t).testBit x = false) (hw7 : ∀ t, wb t < 128) : ∀ (n t : Nat), t + n = T → ∀ (k : Nat) (c b0 : Int) (μ : Nat → Nat → Int), k < 128 → 0 ≤ c → c ≤ (t : Int) → μ 101 0 = (M : Int) → μ 101 1 = (T : Int) → (∀ i, i < T → μ 131 i = (wb i : Int)) → μ 99 57 = b0 → ∃ μ1, MS1 wb T n t k c b0 μ μ1 ∧ am_E (d + 1 + n) 232 0 [some (.inr (.inr 99)), some (.inl (t : Int)), some (.inl (k : Int)), some (.inl c), none] [] (SH, ρ, μ, cs) = some (none, (SH, ρ, μ1, cs)) := by
  intro n
  induction n with
  | zero =>
    intro t ht k c b0 μ hk c0 c1 h0 h1 h2 hb
    have ht' : t = T := by omega
    subst ht'
    exact R_match0 hρ hT h1 hb
  | succ n ih =>
    intro t ht k c b0 μ hk c0 c1 h0 h1 h2 hb
    have e : d + 1 + n = (d + n) + 1 := by omega
    rw [e] at ih
    obtain ⟨μ1, k1, k2⟩ := R_match1 (d := d + n) (b0 := b0) hρ hT ht hM hk c0 c1 (hwM t) (hw7 t) h0 h2 (fun k c b0 μ a1 a2 a3 a4 a5 a6 a7 => ih (t + 1) (by omega) k c b0 μ a1 a2 a3 a4 a5 a6 a7) h1 M 0 μ (by omega) ⟨fun _ _ _ _ _ => rfl, Or.inr ⟨fun g => by have g := g.1; exact absurd g (show ¬ (1 : Int) ≤ -1 by omega), hb, fun _ _ => rfl⟩⟩
    refine ⟨μ1, k1, ?_⟩
    rw [show d + 1 + (n + 1) = d + n + 2 by omega, ← k2]
    rw [e232_0]; simp (disch := (first | omega | (simp (disch := omega) only [sr_up, wr_up_o]; omega))) only [ks_101, ks_99, rm_number hρ, ite_self, Bool.false_eq_true, eq_self, isk_t, i20_t, w20_t, l23_t, b21_t, b22_t, w_t, bif_t, bif_f, bif_d, if_pos, if_neg, if_true, if_false, not_true_eq_false, not_false_eq_true, Option.bind_some, Option.toList_some, Option.toList_none, List.cons_append, List.nil_append, Int.toNat_natCast, Int.reduceToNat, up_eq, up_p, up_k, sN,  h1 ]
    all_goals rfl
end MT
