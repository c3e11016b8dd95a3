/-! THE CLASS: a world begins, becomes like another; a course begins -/
theorem xw_cp {μ μ' : Nat → Nat → Int} {v w : Nat} {W : MW} (h : XW μ v W) (h0 : ∀ k, k < 4 → μ' w k = μ v k) (h1 : ∀ k, k < 6 → μ' (w + 1) k = μ (v + 1) k) (h2 : ∀ k, k < 7 → μ' (w + 2) k = μ (v + 2) k) (h3 : ∀ k, k < 6 → μ' (w + 3) k = μ (v + 3) k) (h4 : ∀ i, 4 ≤ i → i ≤ 8 → ∀ k, k < 42 → μ' (w + i) k = μ (v + i) k) : XW μ' w W := by
  obtain ⟨⟨a1, a2, a3, a4⟩, c1, c2, c3⟩ := h
  refine ⟨⟨?_, ?_, ?_, ?_⟩, fun t g0 g1 => ?_, fun p g0 g1 => ?_, fun p t g0 g1 g2 g3 => ?_⟩
  · rw [h0 _ (by omega)]; exact a1
  · rw [h0 _ (by omega)]; exact a2
  · rw [h0 _ (by omega)]; exact a3
  · rw [h0 _ (by omega)]; exact a4
  · rw [h1 _ (by omega), h3 _ (by omega)]; exact c1 t g0 g1
  · rw [h2 _ (by omega)]; exact c2 p g0 g1
  · have hc := cI_lt g0 g1 g2 g3
    rw [h2 _ (by omega), h3 _ (by omega), h4 4 (by omega) (by omega) _ (by omega), h4 5 (by omega) (by omega) _ (by omega), h4 6 (by omega) (by omega) _ (by omega), h4 7 (by omega) (by omega) _ (by omega), h4 8 (by omega) (by omega) _ (by omega)]
    exact c3 p t g0 g1 g2 g3
theorem xw_start {μ : Nat → Nat → Int} {w : Nat} {S : MS} (h0 : μ w 0 = 0 ∧ μ w 1 = S 0 8 ∧ μ w 2 = 0 ∧ μ w 3 = 0) (h1 : ∀ k, k < 6 → μ (w + 1) k = -2 ∧ μ (w + 3) k = 0) (h2 : ∀ k, k < 7 → μ (w + 2) k = 0) : XW μ w (startW S) := by
  refine ⟨⟨h0.1, h0.2.1, h0.2.2.1, h0.2.2.2⟩, fun t g0 g1 => ?_, fun p g0 g1 => ?_, fun p t g0 g1 g2 g3 => ?_⟩
  · have e : startW S 4 0 t = -2 := by unfold startW; rw [if_pos (by omega), if_neg (by omega), if_pos (by omega)]
    rw [e, (h1 t.toNat (by omega)).1, (h1 t.toNat (by omega)).2]; omega
  · rw [h2 _ (by omega)]; omega
  · have e5 : startW S 5 p t = -1 := by unfold startW; rw [if_pos (by omega), if_neg (by omega), if_neg (by omega), if_pos rfl]
    have e8 : startW S 8 p t = -2 := by unfold startW; rw [if_pos (by omega), if_neg (by omega), if_pos (by omega)]
    rw [h2 _ (by omega), (h1 t.toNat (by omega)).2, e5, e8]
    simp
theorem cp_at {f : Nat → Nat → Int} {a b n q j : Nat} : am_cp f a b 0 0 n q j = if q = b ∧ j < n then f a j else f q j := by
  unfold am_cp
  by_cases c : q = b ∧ j < n
  · rw [if_pos c, if_pos (by omega), show 0 + (j - 0) = j by omega]
  · rw [if_neg c, if_neg (by omega)]
theorem cp_in {f : Nat → Nat → Int} {a b n j : Nat} (h : j < n) : am_cp f a b 0 0 n b j = f a j := by rw [cp_at]; exact if_pos ⟨rfl, h⟩
theorem cp_out {f : Nat → Nat → Int} {a b n q j : Nat} (h : q ≠ b) : am_cp f a b 0 0 n q j = f q j := by rw [cp_at]; exact if_neg (fun g => h g.1)
theorem cpk_t {la lb n : Nat} {m : Int} (h0 : 0 ≤ m) (h1 : m ≤ n) (hm : m = (n : Int)) (ha : n ≤ la) (hb : n ≤ lb) : am_cpk (20, la) (20, lb) 0 0 m = true := by
  subst hm
  simp [am_cpk]
  omega
def FrC (μ μ' : Nat → Nat → Int) : Prop := ∀ q k, q ≠ 73 → q ≠ 76 → μ' q k = μ q k
/-- only what is tried aside -/
def FrA (μ μ' : Nat → Nat → Int) : Prop := ∀ q k, ¬ (64 ≤ q ∧ q ≤ 76) → μ' q k = μ q k
theorem fra_rf (μ : Nat → Nat → Int) : FrA μ μ := fun _ _ _ => rfl
theorem fra_tr {a b c : Nat → Nat → Int} (h1 : FrA a b) (h2 : FrA b c) : FrA a c := fun q k h => (h2 q k h).trans (h1 q k h)
theorem fra_x {a b : Nat → Nat → Int} (h : FrX 64 a b) : FrA a b := fun q k hq => h q k (by omega) (by omega) (by omega)
theorem fra_v {a b : Nat → Nat → Int} (h : FrV 64 a b) : FrA a b := fun q k hq => h q k (by omega)
theorem fra_c {a b : Nat → Nat → Int} (h : FrC a b) : FrA a b := fun q k hq => h q k (by omega) (by omega)
theorem fra_z {a b : Nat → Nat → Int} (h : FrZ a b) : FrA a b := fun q k hq => h q k (by omega) (by omega)
theorem xs_a {μ μ' : Nat → Nat → Int} {b : Nat} {S : MS} (h : XS μ b S) (hb : b = 2 ∨ b = 21) (hf : FrA μ μ') : XS μ' b S := xs_fr h (fun q k h0 h1 => hf q k (by omega))
theorem xw_a {μ μ' : Nat → Nat → Int} {w : Nat} {W : MW} (h : XW μ w W) (hw : w = 46 ∨ w = 55) (hf : FrA μ μ') : XW μ' w W := xw_fr h (fun q k h0 h1 => hf q k (by omega))
def CRS (ρ ρ' : Nat → Nat → Nat) (b w : Nat) : Prop := XM ρ' ∧ RM ρ' ∧ (∀ p k, ¬ (p = 73 ∧ k < 2) → ρ' p k = ρ p k) ∧ ρ' 73 0 = b ∧ ρ' 73 1 = w
theorem xm_fr {ρ ρ' : Nat → Nat → Nat} (h : XM ρ) (hf : ∀ p k, ¬ (p = 73 ∧ k < 2) → p < 99 → (p = 0 → k ≠ 3 ∧ k ≠ 4) → ρ' p k = ρ p k) : XM ρ' := by
  unfold XM at h ⊢
  simp only [hf 0 0 (by omega) (by omega) (by omega), hf 0 2 (by omega) (by omega) (by omega), hf 0 5 (by omega) (by omega) (by omega), hf 0 6 (by omega) (by omega) (by omega), hf 0 7 (by omega) (by omega) (by omega), hf 0 9 (by omega) (by omega) (by omega), hf 0 10 (by omega) (by omega) (by omega), hf 0 11 (by omega) (by omega) (by omega), hf 0 12 (by omega) (by omega) (by omega), hf 0 13 (by omega) (by omega) (by omega), hf 0 14 (by omega) (by omega) (by omega), hf 0 15 (by omega) (by omega) (by omega)]
  simp only [hf 2 1 (by omega) (by omega) (by omega), hf 2 2 (by omega) (by omega) (by omega), hf 2 4 (by omega) (by omega) (by omega), hf 2 5 (by omega) (by omega) (by omega), hf 2 6 (by omega) (by omega) (by omega), hf 2 7 (by omega) (by omega) (by omega), hf 2 9 (by omega) (by omega) (by omega), hf 2 10 (by omega) (by omega) (by omega), hf 2 11 (by omega) (by omega) (by omega), hf 2 13 (by omega) (by omega) (by omega), hf 2 14 (by omega) (by omega) (by omega), hf 2 15 (by omega) (by omega) (by omega), hf 2 16 (by omega) (by omega) (by omega), hf 2 17 (by omega) (by omega) (by omega), hf 16 2 (by omega) (by omega) (by omega), hf 16 3 (by omega) (by omega) (by omega), hf 16 4 (by omega) (by omega) (by omega), hf 16 5 (by omega) (by omega) (by omega), hf 21 1 (by omega) (by omega) (by omega), hf 21 2 (by omega) (by omega) (by omega), hf 21 4 (by omega) (by omega) (by omega), hf 21 5 (by omega) (by omega) (by omega), hf 21 6 (by omega) (by omega) (by omega), hf 21 7 (by omega) (by omega) (by omega), hf 21 9 (by omega) (by omega) (by omega), hf 21 10 (by omega) (by omega) (by omega), hf 21 11 (by omega) (by omega) (by omega), hf 21 13 (by omega) (by omega) (by omega), hf 21 14 (by omega) (by omega) (by omega), hf 21 15 (by omega) (by omega) (by omega), hf 21 16 (by omega) (by omega) (by omega), hf 21 17 (by omega) (by omega) (by omega), hf 35 2 (by omega) (by omega) (by omega), hf 35 3 (by omega) (by omega) (by omega), hf 35 4 (by omega) (by omega) (by omega), hf 35 5 (by omega) (by omega) (by omega), hf 40 0 (by omega) (by omega) (by omega), hf 40 1 (by omega) (by omega) (by omega), hf 41 0 (by omega) (by omega) (by omega), hf 44 0 (by omega) (by omega) (by omega), hf 44 1 (by omega) (by omega) (by omega), hf 46 4 (by omega) (by omega) (by omega), hf 46 5 (by omega) (by omega) (by omega), hf 46 6 (by omega) (by omega) (by omega), hf 46 7 (by omega) (by omega) (by omega), hf 46 8 (by omega) (by omega) (by omega), hf 46 9 (by omega) (by omega) (by omega), hf 46 10 (by omega) (by omega) (by omega), hf 46 11 (by omega) (by omega) (by omega), hf 55 4 (by omega) (by omega) (by omega), hf 55 5 (by omega) (by omega) (by omega), hf 55 6 (by omega) (by omega) (by omega), hf 55 7 (by omega) (by omega) (by omega), hf 55 8 (by omega) (by omega) (by omega), hf 55 9 (by omega) (by omega) (by omega), hf 55 10 (by omega) (by omega) (by omega), hf 55 11 (by omega) (by omega) (by omega), hf 64 4 (by omega) (by omega) (by omega), hf 64 5 (by omega) (by omega) (by omega), hf 64 6 (by omega) (by omega) (by omega), hf 64 7 (by omega) (by omega) (by omega), hf 64 8 (by omega) (by omega) (by omega), hf 64 9 (by omega) (by omega) (by omega), hf 64 10 (by omega) (by omega) (by omega), hf 64 11 (by omega) (by omega) (by omega), hf 73 4 (by omega) (by omega) (by omega), hf 73 5 (by omega) (by omega) (by omega), hf 73 6 (by omega) (by omega) (by omega), hf 77 1 (by omega) (by omega) (by omega), hf 77 2 (by omega) (by omega) (by omega), hf 77 3 (by omega) (by omega) (by omega), hf 77 4 (by omega) (by omega) (by omega), hf 77 5 (by omega) (by omega) (by omega), hf 77 6 (by omega) (by omega) (by omega), hf 77 7 (by omega) (by omega) (by omega), hf 77 8 (by omega) (by omega) (by omega), hf 77 9 (by omega) (by omega) (by omega), hf 87 2 (by omega) (by omega) (by omega), hf 87 3 (by omega) (by omega) (by omega), hf 87 4 (by omega) (by omega) (by omega), hf 87 5 (by omega) (by omega) (by omega), hf 87 6 (by omega) (by omega) (by omega), hf 87 7 (by omega) (by omega) (by omega), hf 87 8 (by omega) (by omega) (by omega)]
  exact h
theorem rm_fr {ρ ρ' : Nat → Nat → Nat} (h : RM ρ) (hf : ∀ k, ρ' 99 k = ρ 99 k) : RM ρ' := by
  unfold RM at h ⊢
  simp only [hf]
  exact h
theorem crs_up {ρ : Nat → Nat → Nat} (hx : XM ρ) (hρ : RM ρ) {b w : Nat} : CRS ρ (am_up (am_up ρ 73 0 b) 73 1 w) b w := by
  have hf : ∀ p k, ¬ (p = 73 ∧ k < 2) → am_up (am_up ρ 73 0 b) 73 1 w p k = ρ p k := fun p k h => by rw [am_up_no (by omega), am_up_no (by omega)]
  refine ⟨xm_fr hx (fun p k h _ _ => hf p k h), rm_fr hρ (fun k => hf 99 k (by omega)), hf, ?_, up_eq⟩
  rw [up_k (by omega), up_eq]
/-- a course as it goes, talking so -/
def GC (S : MS) (C : MC) (k : Nat) : Prop := C.2.2.1 = k ∧ C.2.1 = true ∧ (∀ p : Int, 0 ≤ p → p < S 0 0 → C.1 p = S 2 p) ∧ (∀ t : Int, 0 ≤ t → t < 6 → C.2.2.2.2.2 t = true) ∧ (∀ p : Int, 0 ≤ p → p < 7 → C.2.2.2.1 p = false) ∧ (∀ p : Int, 0 ≤ p → p < 7 → C.2.2.2.2.1 p = false)
def kG (S : MS) : Nat := if 50 ≤ S 0 7 then 1 else 2
def kN (S : MS) : Nat := if 0 < S 0 7 ∧ S 0 7 < 100 then 0 else kG S
section XSET
variable {ρ : Nat → Nat → Nat} {cs : Nat × Nat × Nat} {d b w : Nat} {S : MS}
theorem X_restart_1 (hx : XM ρ) (hw : w = 46 ∨ w = 55 ∨ w = 64) {sd : Int} : ∀ (j k : Nat) (μ : Nat → Nat → Int), k + j = 6 → ∃ μ1, (∀ q i, ¬ ((q = w + 1 ∨ q = w + 3) ∧ k ≤ i ∧ i < 6) → μ1 q i = μ q i) ∧ (∀ i, k ≤ i → i < 6 → μ1 (w + 1) i = -2 ∧ μ1 (w + 3) i = 0) ∧ am_E d 73 23 [some (.inr (.inr w)), some (.inl sd), some (.inl (k : Int))] [] (SH, ρ, μ, cs) = am_E d 73 52 [some (.inr (.inr w)), some (.inl sd), some (.inl 0)] [] (SH, ρ, μ1, cs) := by
  intro j
  induction j with
  | zero =>
    intro k μ h
    refine ⟨μ, fun _ _ _ => rfl, fun i h1 h2 => by omega, ?_⟩
    rw [e73_23]; simp (disch := omega) only [xk_wd0 hw, xk_wd1 hw, xk_wd2 hw, xk_wd3 hw, xk_wd4 hw, xk_wd5 hw, xk_wd6 hw, xk_wd7 hw, xk_wd8 hw, xm_wd10 hx hw, xm_wd11 hx hw, xm_wd4 hx hw, xm_wd5 hx hw, xm_wd6 hx hw, xm_wd7 hx hw, xm_wd8 hx hw, xm_wd9 hx hw, Bool.false_eq_true, eq_self, isk_t, i20_t, w20_t, l23_t, b21_t, b22_t, w_t, bif_t, bif_f, bif_d, if_pos, if_neg, if_true, if_false, not_true_eq_false, not_false_eq_true, Option.bind_some, Option.toList_some, Option.toList_none, List.cons_append, List.nil_append, Int.toNat_natCast, Int.reduceToNat, up_eq, up_p, up_k, sN]
  | succ j ih =>
    intro k μ h
    obtain ⟨μ1, g1, g2, g3⟩ := ih (k + 1) (am_up (am_up μ (w + 1) k (-2)) (w + 3) k 0) (by omega)
    refine ⟨μ1, fun q i hq => ?_, fun i h1 h2 => ?_, ?_⟩
    · rw [g1 q i (by omega), am_up_no (by omega), am_up_no (by omega)]
    · by_cases c : i = k
      · subst c
        rw [g1 _ _ (by omega), g1 _ _ (by omega)]
        constructor <;> simp (disch := omega) only [up_eq, up_p]
      · exact g2 i (by omega) h2
    · have e2 : ((k + 1 : Nat) : Int) = (k : Int) + 1 := by omega
      rw [e2] at g3
      rw [← g3]
      rw [e73_23]; simp (disch := omega) only [e73_37, xk_wd0 hw, xk_wd1 hw, xk_wd2 hw, xk_wd3 hw, xk_wd4 hw, xk_wd5 hw, xk_wd6 hw, xk_wd7 hw, xk_wd8 hw, xm_wd10 hx hw, xm_wd11 hx hw, xm_wd4 hx hw, xm_wd5 hx hw, xm_wd6 hx hw, xm_wd7 hx hw, xm_wd8 hx hw, xm_wd9 hx hw, Bool.false_eq_true, eq_self, isk_t, i20_t, w20_t, l23_t, b21_t, b22_t, w_t, bif_t, bif_f, bif_d, if_pos, if_neg, if_true, if_false, not_true_eq_false, not_false_eq_true, Option.bind_some, Option.toList_some, Option.toList_none, List.cons_append, List.nil_append, Int.toNat_natCast, Int.reduceToNat, up_eq, up_p, up_k, sN]
theorem X_restart_2 (hx : XM ρ) (hw : w = 46 ∨ w = 55 ∨ w = 64) {sd : Int} : ∀ (j k : Nat) (μ : Nat → Nat → Int), k + j = 7 → ∃ μ1, (∀ q i, ¬ (q = w + 2 ∧ k ≤ i ∧ i < 7) → μ1 q i = μ q i) ∧ (∀ i, k ≤ i → i < 7 → μ1 (w + 2) i = 0) ∧ am_E d 73 52 [some (.inr (.inr w)), some (.inl sd), some (.inl (k : Int))] [] (SH, ρ, μ, cs) = some (none, (SH, ρ, μ1, cs)) := by
  intro j
  induction j with
  | zero =>
    intro k μ h
    refine ⟨μ, fun _ _ _ => rfl, fun i h1 h2 => by omega, ?_⟩
    rw [e73_52]; simp (disch := omega) only [xk_wd0 hw, xk_wd1 hw, xk_wd2 hw, xk_wd3 hw, xk_wd4 hw, xk_wd5 hw, xk_wd6 hw, xk_wd7 hw, xk_wd8 hw, xm_wd10 hx hw, xm_wd11 hx hw, xm_wd4 hx hw, xm_wd5 hx hw, xm_wd6 hx hw, xm_wd7 hx hw, xm_wd8 hx hw, xm_wd9 hx hw, Bool.false_eq_true, eq_self, isk_t, i20_t, w20_t, l23_t, b21_t, b22_t, w_t, bif_t, bif_f, bif_d, if_pos, if_neg, if_true, if_false, not_true_eq_false, not_false_eq_true, Option.bind_some, Option.toList_some, Option.toList_none, List.cons_append, List.nil_append, Int.toNat_natCast, Int.reduceToNat, up_eq, up_p, up_k, sN]
  | succ j ih =>
    intro k μ h
    obtain ⟨μ1, g1, g2, g3⟩ := ih (k + 1) (am_up μ (w + 2) k 0) (by omega)
    refine ⟨μ1, fun q i hq => ?_, fun i h1 h2 => ?_, ?_⟩
    · rw [g1 q i (by omega), am_up_no (by omega)]
    · by_cases c : i = k
      · subst c
        rw [g1 _ _ (by omega), up_eq]
      · exact g2 i (by omega) h2
    · have e2 : ((k + 1 : Nat) : Int) = (k : Int) + 1 := by omega
      rw [e2] at g3
      rw [← g3]
      rw [e73_52]; simp (disch := omega) only [xk_wd0 hw, xk_wd1 hw, xk_wd2 hw, xk_wd3 hw, xk_wd4 hw, xk_wd5 hw, xk_wd6 hw, xk_wd7 hw, xk_wd8 hw, xm_wd10 hx hw, xm_wd11 hx hw, xm_wd4 hx hw, xm_wd5 hx hw, xm_wd6 hx hw, xm_wd7 hx hw, xm_wd8 hx hw, xm_wd9 hx hw, Bool.false_eq_true, eq_self, isk_t, i20_t, w20_t, l23_t, b21_t, b22_t, w_t, bif_t, bif_f, bif_d, if_pos, if_neg, if_true, if_false, not_true_eq_false, not_false_eq_true, Option.bind_some, Option.toList_some, Option.toList_none, List.cons_append, List.nil_append, Int.toNat_natCast, Int.reduceToNat, up_eq, up_p, up_k, sN]
theorem X_restart (hx : XM ρ) (hw : w = 46 ∨ w = 55 ∨ w = 64) {μ : Nat → Nat → Int} : ∃ μ1, FrV w μ μ1 ∧ XW μ1 w (startW S) ∧ am_E d 73 0 [some (.inr (.inr w)), some (.inl (S 0 8)), none] [] (SH, ρ, μ, cs) = some (none, (SH, ρ, μ1, cs)) := by
  obtain ⟨μ1, g1, g2, g3⟩ := X_restart_1 (ρ := ρ) (cs := cs) (d := d) (sd := S 0 8) hx hw 6 0 (am_up (am_up (am_up (am_up μ w 0 0) w 1 (S 0 8)) w 2 0) w 3 0) rfl
  obtain ⟨μ2, k1, k2, k3⟩ := X_restart_2 (ρ := ρ) (cs := cs) (d := d) (sd := S 0 8) hx hw 7 0 μ1 rfl
  refine ⟨μ2, fun q k hq => ?_, ?_, ?_⟩
  · rw [k1 q k (by omega), g1 q k (by omega), up_p (by omega), up_p (by omega), up_p (by omega), up_p (by omega)]
  · refine xw_start ⟨?_, ?_, ?_, ?_⟩ (fun k hk => ?_) (fun k hk => k2 k (by omega) hk)
    · rw [k1 _ _ (by omega), g1 _ _ (by omega)]; simp (disch := omega) only [up_eq, up_k]
    · rw [k1 _ _ (by omega), g1 _ _ (by omega)]; simp (disch := omega) only [up_eq, up_k]
    · rw [k1 _ _ (by omega), g1 _ _ (by omega)]; simp (disch := omega) only [up_eq, up_k]
    · rw [k1 _ _ (by omega), g1 _ _ (by omega)]; simp (disch := omega) only [up_eq, up_k]
    · rw [k1 _ _ (by omega), k1 _ _ (by omega)]; exact g2 k (by omega) hk
  · simp (disch := omega) only [e73_0, xk_wd0 hw, xk_wd1 hw, xk_wd2 hw, xk_wd3 hw, xk_wd4 hw, xk_wd5 hw, xk_wd6 hw, xk_wd7 hw, xk_wd8 hw, xm_wd10 hx hw, xm_wd11 hx hw, xm_wd4 hx hw, xm_wd5 hx hw, xm_wd6 hx hw, xm_wd7 hx hw, xm_wd8 hx hw, xm_wd9 hx hw, Bool.false_eq_true, eq_self, isk_t, i20_t, w20_t, l23_t, b21_t, b22_t, w_t, bif_t, bif_f, bif_d, if_pos, if_neg, if_true, if_false, not_true_eq_false, not_false_eq_true, Option.bind_some, Option.toList_some, Option.toList_none, List.cons_append, List.nil_append, Int.toNat_natCast, Int.reduceToNat, up_eq, up_p, up_k, sN]
    exact g3.trans k3
theorem X_becomeLike (hx : XM ρ) {v : Nat} (hw : w = 46 ∨ w = 55 ∨ w = 64) (hv : v = 46 ∨ v = 55 ∨ v = 64) (hne : v ≠ w) {μ : Nat → Nat → Int} {W : MW} (hV : XW μ v W) : ∃ μ1, FrV w μ μ1 ∧ XW μ1 w W ∧ am_E (d + 1) 74 0 [some (.inr (.inr w)), some (.inr (.inr v))] [] (SH, ρ, μ, cs) = some (none, (SH, ρ, μ1, cs)) := by
  refine ⟨am_cp (am_cp (am_cp (am_cp (am_cp (am_cp (am_cp (am_cp (am_up (am_up (am_up (am_up μ w 0 (μ v 0)) w 1 (μ v 1)) w 2 (μ v 2)) w 3 (μ v 3)) (v + 1) (w + 1) 0 0 6) (v + 2) (w + 2) 0 0 7) (v + 3) (w + 3) 0 0 6) (v + 4) (w + 4) 0 0 42) (v + 5) (w + 5) 0 0 42) (v + 6) (w + 6) 0 0 42) (v + 7) (w + 7) 0 0 42) (v + 8) (w + 8) 0 0 42, fun q k hq => ?_, ?_, ?_⟩
  · simp (disch := omega) only [cp_out, up_p]
  · refine xw_cp hV (fun k hk => ?_) (fun k hk => ?_) (fun k hk => ?_) (fun k hk => ?_) (fun i h0 h1 k hk => ?_)
    · simp (disch := omega) only [cp_out]
      have h : k = 0 ∨ k = 1 ∨ k = 2 ∨ k = 3 := by omega
      rcases h with rfl | rfl | rfl | rfl <;> simp (disch := omega) only [up_eq, up_k]
    · simp (disch := omega) only [cp_out, cp_in, up_p]
    · simp (disch := omega) only [cp_out, cp_in, up_p]
    · simp (disch := omega) only [cp_out, cp_in, up_p]
    · have h : i = 4 ∨ i = 5 ∨ i = 6 ∨ i = 7 ∨ i = 8 := by omega
      rcases h with rfl | rfl | rfl | rfl | rfl <;> simp (disch := omega) only [cp_out, cp_in, up_p]
  · have a4 := xm_wd4 hx hv
    have a5 := xm_wd5 hx hv
    have a6 := xm_wd6 hx hv
    have a7 := xm_wd7 hx hv
    have a8 := xm_wd8 hx hv
    have a9 := xm_wd9 hx hv
    have a10 := xm_wd10 hx hv
    have a11 := xm_wd11 hx hv
    simp (disch := omega) only [e74_0, e74_47, e74_122, xk_wd0 hw, xk_wd1 hw, xk_wd2 hw, xk_wd3 hw, xk_wd4 hw, xk_wd5 hw, xk_wd6 hw, xk_wd7 hw, xk_wd8 hw, xm_wd10 hx hw, xm_wd11 hx hw, xm_wd4 hx hw, xm_wd5 hx hw, xm_wd6 hx hw, xm_wd7 hx hw, xm_wd8 hx hw, xm_wd9 hx hw, Bool.false_eq_true, eq_self, isk_t, i20_t, w20_t, l23_t, b21_t, b22_t, w_t, bif_t, bif_f, bif_d, if_pos, if_neg, if_true, if_false, not_true_eq_false, not_false_eq_true, Option.bind_some, Option.toList_some, Option.toList_none, List.cons_append, List.nil_append, Int.toNat_natCast, Int.reduceToNat, up_eq, up_p, up_k, sN,  a4, a5, a6, a7, a8, a9, a10, a11, xk_wd0 hv, xk_wd1 hv, xk_wd2 hv, xk_wd3 hv, xk_wd4 hv, xk_wd5 hv, xk_wd6 hv, xk_wd7 hv, xk_wd8 hv, cpk_t (n := 6), cpk_t (n := 7), cpk_t (n := 42) ]
theorem xc_of {μ μ' : Nat → Nat → Int} {C : MC} {k : Nat} (hX : XS μ b S) (hS : SI S) (hG : GC S C k) (h2 : μ' 73 2 = (k : Int)) (h3 : μ' 73 3 = 1) (h7 : μ' 73 7 = 63) (h8 : μ' 73 8 = 0) (h9 : μ' 73 9 = 0) (h6 : ∀ i, i < 7 → μ' 76 i = μ (b + 2) i) : XC μ' S C := by
  obtain ⟨g1, g2, g3, g4, g5, g6⟩ := hG
  have b0 := hS.1
  refine ⟨by rw [h2, g1], by rw [h3, if_pos g2], fun p p0 p1 => ?_, ⟨by omega, by omega, fun t t0 t1 => ?_⟩, ⟨by omega, by omega, fun p p0 p1 => ?_⟩, ⟨by omega, by omega, fun p p0 p1 => ?_⟩⟩
  · rw [h6 _ (by omega), (hX.2.2.1 p p0 p1).2, g3 p p0 p1]
  · rw [h7, g4 t t0 t1]
    have e63 : (63 : Int).toNat = 2 ^ 6 - 1 := rfl
    rw [e63, Nat.testBit_two_pow_sub_one]
    exact decide_eq_true (by omega)
  · rw [h8, g5 p p0 p1]
    exact Nat.zero_testBit _
  · rw [h9, g6 p p0 p1]
    exact Nat.zero_testBit _
theorem X_asItGoes (hx : XM ρ) (hρ : RM ρ) (hb : b = 2 ∨ b = 21) {μ : Nat → Nat → Int} (hX : XS μ b S) (hS : SI S) : ∃ ρ' μ', CRS ρ ρ' b w ∧ FrC μ μ' ∧ (∀ C, GC S C (kG S) → XC μ' S C) ∧ am_E (d + 1) 1 0 [some (.inr (.inr 73)), some (.inr (.inr b)), some (.inr (.inr w))] [] (SH, ρ, μ, cs) = some (none, (SH, ρ', μ', cs)) := by
  have e7 := hX.2.1.2.2.1
  refine ⟨am_up (am_up ρ 73 0 b) 73 1 w, am_cp (am_up (am_up (am_up (am_up (am_up μ 73 2 (kG S : Int)) 73 3 1) 73 7 63) 73 8 0) 73 9 0) (b + 2) 76 0 0 7, crs_up hx hρ, fun q k h1 h2 => ?_, fun C hC => ?_, ?_⟩
  · simp (disch := omega) only [cp_out, up_p]
  · refine xc_of hX hS hC ?_ ?_ ?_ ?_ ?_ (fun i hi => ?_)
    · simp (disch := omega) only [cp_out, up_eq, up_k]
    · simp (disch := omega) only [cp_out, up_eq, up_k]
    · simp (disch := omega) only [cp_out, up_eq, up_k]
    · simp (disch := omega) only [cp_out, up_eq, up_k]
    · simp (disch := omega) only [cp_out, up_eq, up_k]
    · simp (disch := omega) only [cp_in, up_p]
  · by_cases q : S 0 7 < 50
    · have ek : (kG S : Int) = 2 := by unfold kG; rw [if_neg (by omega)]; rfl
      simp (disch := omega) only [e1_0, e1_41, xk_0, xk_1, xk_40, xk_41, xk_42, xk_43, xk_44, xk_45, xk_46, xk_47, xk_48, xk_49, xk_50, xk_51, xk_52, xk_53, xk_54, xk_55, xk_56, xk_57, xk_58, xk_59, xk_60, xk_61, xk_62, xk_63, xk_64, xk_65, xk_66, xk_67, xk_68, xk_69, xk_70, xk_71, xk_72, xk_73, xk_74, xk_75, xk_76, xk_77, xk_78, xk_79, xk_80, xk_81, xk_82, xk_83, xk_84, xk_85, xk_86, xk_87, xk_88, xk_89, xk_90, xk_91, xk_92, xk_93, xk_94, xk_95, xk_96, xk_97, xk_98, xk_st0 hb, xk_st1 hb, xk_st10 hb, xk_st11 hb, xk_st12 hb, xk_st13 hb, xk_st14 hb, xk_st15 hb, xk_st16 hb, xk_st17 hb, xk_st18 hb, xk_st2 hb, xk_st3 hb, xk_st4 hb, xk_st5 hb, xk_st6 hb, xk_st7 hb, xk_st8 hb, xk_st9 hb, xm_0_0 hx, xm_0_10 hx, xm_0_11 hx, xm_0_12 hx, xm_0_13 hx, xm_0_14 hx, xm_0_15 hx, xm_0_2 hx, xm_0_5 hx, xm_0_6 hx, xm_0_7 hx, xm_0_9 hx, xm_40_0 hx, xm_40_1 hx, xm_41_0 hx, xm_44_0 hx, xm_44_1 hx, xm_73_4 hx, xm_73_5 hx, xm_73_6 hx, xm_77_1 hx, xm_77_2 hx, xm_77_3 hx, xm_77_4 hx, xm_77_5 hx, xm_77_6 hx, xm_77_7 hx, xm_77_8 hx, xm_77_9 hx, xm_87_2 hx, xm_87_3 hx, xm_87_4 hx, xm_87_5 hx, xm_87_6 hx, xm_87_7 hx, xm_87_8 hx, xm_lw2 hx hb, xm_lw3 hx hb, xm_lw4 hx hb, xm_lw5 hx hb, xm_st1 hx hb, xm_st10 hx hb, xm_st11 hx hb, xm_st13 hx hb, xm_st14 hx hb, xm_st15 hx hb, xm_st16 hx hb, xm_st17 hx hb, xm_st2 hx hb, xm_st4 hx hb, xm_st5 hx hb, xm_st6 hx hb, xm_st7 hx hb, xm_st9 hx hb, Bool.false_eq_true, eq_self, isk_t, i20_t, w20_t, l23_t, b21_t, b22_t, w_t, bif_t, bif_f, bif_d, if_pos, if_neg, if_true, if_false, not_true_eq_false, not_false_eq_true, Option.bind_some, Option.toList_some, Option.toList_none, List.cons_append, List.nil_append, Int.toNat_natCast, Int.reduceToNat, up_eq, up_p, up_k, sN,  e7, ek, cpk_t (n := 7), true_or, or_true, decide_true, Bool.and_self ]
    · have ek : (kG S : Int) = 1 := by unfold kG; rw [if_pos (by omega)]; rfl
      simp (disch := omega) only [e1_0, e1_41, xk_0, xk_1, xk_40, xk_41, xk_42, xk_43, xk_44, xk_45, xk_46, xk_47, xk_48, xk_49, xk_50, xk_51, xk_52, xk_53, xk_54, xk_55, xk_56, xk_57, xk_58, xk_59, xk_60, xk_61, xk_62, xk_63, xk_64, xk_65, xk_66, xk_67, xk_68, xk_69, xk_70, xk_71, xk_72, xk_73, xk_74, xk_75, xk_76, xk_77, xk_78, xk_79, xk_80, xk_81, xk_82, xk_83, xk_84, xk_85, xk_86, xk_87, xk_88, xk_89, xk_90, xk_91, xk_92, xk_93, xk_94, xk_95, xk_96, xk_97, xk_98, xk_st0 hb, xk_st1 hb, xk_st10 hb, xk_st11 hb, xk_st12 hb, xk_st13 hb, xk_st14 hb, xk_st15 hb, xk_st16 hb, xk_st17 hb, xk_st18 hb, xk_st2 hb, xk_st3 hb, xk_st4 hb, xk_st5 hb, xk_st6 hb, xk_st7 hb, xk_st8 hb, xk_st9 hb, xm_0_0 hx, xm_0_10 hx, xm_0_11 hx, xm_0_12 hx, xm_0_13 hx, xm_0_14 hx, xm_0_15 hx, xm_0_2 hx, xm_0_5 hx, xm_0_6 hx, xm_0_7 hx, xm_0_9 hx, xm_40_0 hx, xm_40_1 hx, xm_41_0 hx, xm_44_0 hx, xm_44_1 hx, xm_73_4 hx, xm_73_5 hx, xm_73_6 hx, xm_77_1 hx, xm_77_2 hx, xm_77_3 hx, xm_77_4 hx, xm_77_5 hx, xm_77_6 hx, xm_77_7 hx, xm_77_8 hx, xm_77_9 hx, xm_87_2 hx, xm_87_3 hx, xm_87_4 hx, xm_87_5 hx, xm_87_6 hx, xm_87_7 hx, xm_87_8 hx, xm_lw2 hx hb, xm_lw3 hx hb, xm_lw4 hx hb, xm_lw5 hx hb, xm_st1 hx hb, xm_st10 hx hb, xm_st11 hx hb, xm_st13 hx hb, xm_st14 hx hb, xm_st15 hx hb, xm_st16 hx hb, xm_st17 hx hb, xm_st2 hx hb, xm_st4 hx hb, xm_st5 hx hb, xm_st6 hx hb, xm_st7 hx hb, xm_st9 hx hb, Bool.false_eq_true, eq_self, isk_t, i20_t, w20_t, l23_t, b21_t, b22_t, w_t, bif_t, bif_f, bif_d, if_pos, if_neg, if_true, if_false, not_true_eq_false, not_false_eq_true, Option.bind_some, Option.toList_some, Option.toList_none, List.cons_append, List.nil_append, Int.toNat_natCast, Int.reduceToNat, up_eq, up_p, up_k, sN,  e7, ek, cpk_t (n := 7), true_or, or_true, decide_true, Bool.and_self ]
theorem X_byNumbers (hx : XM ρ) (hρ : RM ρ) (hb : b = 2 ∨ b = 21) {μ : Nat → Nat → Int} (hX : XS μ b S) (hS : SI S) : ∃ ρ' μ', CRS ρ ρ' b w ∧ FrC μ μ' ∧ (∀ C, GC S C (kN S) → XC μ' S C) ∧ am_E (d + 2) 2 0 [some (.inr (.inr 73)), some (.inr (.inr b)), some (.inr (.inr w)), none] [] (SH, ρ, μ, cs) = some (none, (SH, ρ', μ', cs)) := by
  have b7 := hS.2.2.2.2.2.2.2.1
  have e7 := hX.2.1.2.2.1
  refine ⟨am_up (am_up ρ 73 0 b) 73 1 w, am_up (am_cp (am_up (am_up (am_up (am_up (am_up μ 73 2 (kG S : Int)) 73 3 1) 73 7 63) 73 8 0) 73 9 0) (b + 2) 76 0 0 7) 73 2 (kN S : Int), crs_up hx hρ, fun q k h1 h2 => ?_, fun C hC => ?_, ?_⟩
  · simp (disch := omega) only [cp_out, up_p]
  · refine xc_of hX hS hC ?_ ?_ ?_ ?_ ?_ (fun i hi => ?_)
    · simp (disch := omega) only [cp_out, up_eq, up_k]
    · simp (disch := omega) only [cp_out, up_eq, up_k]
    · simp (disch := omega) only [cp_out, up_eq, up_k]
    · simp (disch := omega) only [cp_out, up_eq, up_k]
    · simp (disch := omega) only [cp_out, up_eq, up_k]
    · simp (disch := omega) only [cp_in, up_p]
  · have hu : ∀ v : Int, am_up (am_cp (am_up (am_up (am_up (am_up (am_up μ 73 2 v) 73 3 1) 73 7 63) 73 8 0) 73 9 0) (b + 2) 76 0 0 7) 73 2 v = am_cp (am_up (am_up (am_up (am_up (am_up μ 73 2 v) 73 3 1) 73 7 63) 73 8 0) 73 9 0) (b + 2) 76 0 0 7 := fun v => by
      funext q k
      by_cases c : q = 73 ∧ k = 2
      · obtain ⟨rfl, rfl⟩ := c
        simp (disch := omega) only [cp_out, up_eq, up_k]
      · rw [am_up_no c]
    by_cases q : S 0 7 < 50
    · have ek : (kG S : Int) = 2 := by unfold kG; rw [if_neg (by omega)]; rfl
      by_cases q2 : S 0 7 ≤ 0
      · have en : (kN S : Int) = 2 := by unfold kN; rw [if_neg (by omega)]; exact ek
        rw [ek, en, hu]
        simp (disch := omega) only [e2_0, e2_6, e1_0, e1_41, xk_0, xk_1, xk_40, xk_41, xk_42, xk_43, xk_44, xk_45, xk_46, xk_47, xk_48, xk_49, xk_50, xk_51, xk_52, xk_53, xk_54, xk_55, xk_56, xk_57, xk_58, xk_59, xk_60, xk_61, xk_62, xk_63, xk_64, xk_65, xk_66, xk_67, xk_68, xk_69, xk_70, xk_71, xk_72, xk_73, xk_74, xk_75, xk_76, xk_77, xk_78, xk_79, xk_80, xk_81, xk_82, xk_83, xk_84, xk_85, xk_86, xk_87, xk_88, xk_89, xk_90, xk_91, xk_92, xk_93, xk_94, xk_95, xk_96, xk_97, xk_98, xk_st0 hb, xk_st1 hb, xk_st10 hb, xk_st11 hb, xk_st12 hb, xk_st13 hb, xk_st14 hb, xk_st15 hb, xk_st16 hb, xk_st17 hb, xk_st18 hb, xk_st2 hb, xk_st3 hb, xk_st4 hb, xk_st5 hb, xk_st6 hb, xk_st7 hb, xk_st8 hb, xk_st9 hb, xm_0_0 hx, xm_0_10 hx, xm_0_11 hx, xm_0_12 hx, xm_0_13 hx, xm_0_14 hx, xm_0_15 hx, xm_0_2 hx, xm_0_5 hx, xm_0_6 hx, xm_0_7 hx, xm_0_9 hx, xm_40_0 hx, xm_40_1 hx, xm_41_0 hx, xm_44_0 hx, xm_44_1 hx, xm_73_4 hx, xm_73_5 hx, xm_73_6 hx, xm_77_1 hx, xm_77_2 hx, xm_77_3 hx, xm_77_4 hx, xm_77_5 hx, xm_77_6 hx, xm_77_7 hx, xm_77_8 hx, xm_77_9 hx, xm_87_2 hx, xm_87_3 hx, xm_87_4 hx, xm_87_5 hx, xm_87_6 hx, xm_87_7 hx, xm_87_8 hx, xm_lw2 hx hb, xm_lw3 hx hb, xm_lw4 hx hb, xm_lw5 hx hb, xm_st1 hx hb, xm_st10 hx hb, xm_st11 hx hb, xm_st13 hx hb, xm_st14 hx hb, xm_st15 hx hb, xm_st16 hx hb, xm_st17 hx hb, xm_st2 hx hb, xm_st4 hx hb, xm_st5 hx hb, xm_st6 hx hb, xm_st7 hx hb, xm_st9 hx hb, Bool.false_eq_true, eq_self, isk_t, i20_t, w20_t, l23_t, b21_t, b22_t, w_t, bif_t, bif_f, bif_d, if_pos, if_neg, if_true, if_false, not_true_eq_false, not_false_eq_true, Option.bind_some, Option.toList_some, Option.toList_none, List.cons_append, List.nil_append, Int.toNat_natCast, Int.reduceToNat, up_eq, up_p, up_k, sN,  e7, cpk_t (n := 7), true_or, or_true, decide_true, Bool.and_self, cp_out ]
      · have en : (kN S : Int) = 0 := by unfold kN; rw [if_pos (by omega)]; rfl
        rw [ek, en]
        simp (disch := omega) only [e2_0, e2_6, e1_0, e1_41, xk_0, xk_1, xk_40, xk_41, xk_42, xk_43, xk_44, xk_45, xk_46, xk_47, xk_48, xk_49, xk_50, xk_51, xk_52, xk_53, xk_54, xk_55, xk_56, xk_57, xk_58, xk_59, xk_60, xk_61, xk_62, xk_63, xk_64, xk_65, xk_66, xk_67, xk_68, xk_69, xk_70, xk_71, xk_72, xk_73, xk_74, xk_75, xk_76, xk_77, xk_78, xk_79, xk_80, xk_81, xk_82, xk_83, xk_84, xk_85, xk_86, xk_87, xk_88, xk_89, xk_90, xk_91, xk_92, xk_93, xk_94, xk_95, xk_96, xk_97, xk_98, xk_st0 hb, xk_st1 hb, xk_st10 hb, xk_st11 hb, xk_st12 hb, xk_st13 hb, xk_st14 hb, xk_st15 hb, xk_st16 hb, xk_st17 hb, xk_st18 hb, xk_st2 hb, xk_st3 hb, xk_st4 hb, xk_st5 hb, xk_st6 hb, xk_st7 hb, xk_st8 hb, xk_st9 hb, xm_0_0 hx, xm_0_10 hx, xm_0_11 hx, xm_0_12 hx, xm_0_13 hx, xm_0_14 hx, xm_0_15 hx, xm_0_2 hx, xm_0_5 hx, xm_0_6 hx, xm_0_7 hx, xm_0_9 hx, xm_40_0 hx, xm_40_1 hx, xm_41_0 hx, xm_44_0 hx, xm_44_1 hx, xm_73_4 hx, xm_73_5 hx, xm_73_6 hx, xm_77_1 hx, xm_77_2 hx, xm_77_3 hx, xm_77_4 hx, xm_77_5 hx, xm_77_6 hx, xm_77_7 hx, xm_77_8 hx, xm_77_9 hx, xm_87_2 hx, xm_87_3 hx, xm_87_4 hx, xm_87_5 hx, xm_87_6 hx, xm_87_7 hx, xm_87_8 hx, xm_lw2 hx hb, xm_lw3 hx hb, xm_lw4 hx hb, xm_lw5 hx hb, xm_st1 hx hb, xm_st10 hx hb, xm_st11 hx hb, xm_st13 hx hb, xm_st14 hx hb, xm_st15 hx hb, xm_st16 hx hb, xm_st17 hx hb, xm_st2 hx hb, xm_st4 hx hb, xm_st5 hx hb, xm_st6 hx hb, xm_st7 hx hb, xm_st9 hx hb, Bool.false_eq_true, eq_self, isk_t, i20_t, w20_t, l23_t, b21_t, b22_t, w_t, bif_t, bif_f, bif_d, if_pos, if_neg, if_true, if_false, not_true_eq_false, not_false_eq_true, Option.bind_some, Option.toList_some, Option.toList_none, List.cons_append, List.nil_append, Int.toNat_natCast, Int.reduceToNat, up_eq, up_p, up_k, sN,  e7, cpk_t (n := 7), true_or, or_true, decide_true, Bool.and_self, cp_out ]
    · have ek : (kG S : Int) = 1 := by unfold kG; rw [if_pos (by omega)]; rfl
      by_cases q2 : 100 ≤ S 0 7
      · have en : (kN S : Int) = 1 := by unfold kN; rw [if_neg (by omega)]; exact ek
        rw [ek, en, hu]
        simp (disch := omega) only [e2_0, e2_6, e1_0, e1_41, xk_0, xk_1, xk_40, xk_41, xk_42, xk_43, xk_44, xk_45, xk_46, xk_47, xk_48, xk_49, xk_50, xk_51, xk_52, xk_53, xk_54, xk_55, xk_56, xk_57, xk_58, xk_59, xk_60, xk_61, xk_62, xk_63, xk_64, xk_65, xk_66, xk_67, xk_68, xk_69, xk_70, xk_71, xk_72, xk_73, xk_74, xk_75, xk_76, xk_77, xk_78, xk_79, xk_80, xk_81, xk_82, xk_83, xk_84, xk_85, xk_86, xk_87, xk_88, xk_89, xk_90, xk_91, xk_92, xk_93, xk_94, xk_95, xk_96, xk_97, xk_98, xk_st0 hb, xk_st1 hb, xk_st10 hb, xk_st11 hb, xk_st12 hb, xk_st13 hb, xk_st14 hb, xk_st15 hb, xk_st16 hb, xk_st17 hb, xk_st18 hb, xk_st2 hb, xk_st3 hb, xk_st4 hb, xk_st5 hb, xk_st6 hb, xk_st7 hb, xk_st8 hb, xk_st9 hb, xm_0_0 hx, xm_0_10 hx, xm_0_11 hx, xm_0_12 hx, xm_0_13 hx, xm_0_14 hx, xm_0_15 hx, xm_0_2 hx, xm_0_5 hx, xm_0_6 hx, xm_0_7 hx, xm_0_9 hx, xm_40_0 hx, xm_40_1 hx, xm_41_0 hx, xm_44_0 hx, xm_44_1 hx, xm_73_4 hx, xm_73_5 hx, xm_73_6 hx, xm_77_1 hx, xm_77_2 hx, xm_77_3 hx, xm_77_4 hx, xm_77_5 hx, xm_77_6 hx, xm_77_7 hx, xm_77_8 hx, xm_77_9 hx, xm_87_2 hx, xm_87_3 hx, xm_87_4 hx, xm_87_5 hx, xm_87_6 hx, xm_87_7 hx, xm_87_8 hx, xm_lw2 hx hb, xm_lw3 hx hb, xm_lw4 hx hb, xm_lw5 hx hb, xm_st1 hx hb, xm_st10 hx hb, xm_st11 hx hb, xm_st13 hx hb, xm_st14 hx hb, xm_st15 hx hb, xm_st16 hx hb, xm_st17 hx hb, xm_st2 hx hb, xm_st4 hx hb, xm_st5 hx hb, xm_st6 hx hb, xm_st7 hx hb, xm_st9 hx hb, Bool.false_eq_true, eq_self, isk_t, i20_t, w20_t, l23_t, b21_t, b22_t, w_t, bif_t, bif_f, bif_d, if_pos, if_neg, if_true, if_false, not_true_eq_false, not_false_eq_true, Option.bind_some, Option.toList_some, Option.toList_none, List.cons_append, List.nil_append, Int.toNat_natCast, Int.reduceToNat, up_eq, up_p, up_k, sN,  e7, cpk_t (n := 7), true_or, or_true, decide_true, Bool.and_self, cp_out ]
      · have en : (kN S : Int) = 0 := by unfold kN; rw [if_pos (by omega)]; rfl
        rw [ek, en]
        simp (disch := omega) only [e2_0, e2_6, e1_0, e1_41, xk_0, xk_1, xk_40, xk_41, xk_42, xk_43, xk_44, xk_45, xk_46, xk_47, xk_48, xk_49, xk_50, xk_51, xk_52, xk_53, xk_54, xk_55, xk_56, xk_57, xk_58, xk_59, xk_60, xk_61, xk_62, xk_63, xk_64, xk_65, xk_66, xk_67, xk_68, xk_69, xk_70, xk_71, xk_72, xk_73, xk_74, xk_75, xk_76, xk_77, xk_78, xk_79, xk_80, xk_81, xk_82, xk_83, xk_84, xk_85, xk_86, xk_87, xk_88, xk_89, xk_90, xk_91, xk_92, xk_93, xk_94, xk_95, xk_96, xk_97, xk_98, xk_st0 hb, xk_st1 hb, xk_st10 hb, xk_st11 hb, xk_st12 hb, xk_st13 hb, xk_st14 hb, xk_st15 hb, xk_st16 hb, xk_st17 hb, xk_st18 hb, xk_st2 hb, xk_st3 hb, xk_st4 hb, xk_st5 hb, xk_st6 hb, xk_st7 hb, xk_st8 hb, xk_st9 hb, xm_0_0 hx, xm_0_10 hx, xm_0_11 hx, xm_0_12 hx, xm_0_13 hx, xm_0_14 hx, xm_0_15 hx, xm_0_2 hx, xm_0_5 hx, xm_0_6 hx, xm_0_7 hx, xm_0_9 hx, xm_40_0 hx, xm_40_1 hx, xm_41_0 hx, xm_44_0 hx, xm_44_1 hx, xm_73_4 hx, xm_73_5 hx, xm_73_6 hx, xm_77_1 hx, xm_77_2 hx, xm_77_3 hx, xm_77_4 hx, xm_77_5 hx, xm_77_6 hx, xm_77_7 hx, xm_77_8 hx, xm_77_9 hx, xm_87_2 hx, xm_87_3 hx, xm_87_4 hx, xm_87_5 hx, xm_87_6 hx, xm_87_7 hx, xm_87_8 hx, xm_lw2 hx hb, xm_lw3 hx hb, xm_lw4 hx hb, xm_lw5 hx hb, xm_st1 hx hb, xm_st10 hx hb, xm_st11 hx hb, xm_st13 hx hb, xm_st14 hx hb, xm_st15 hx hb, xm_st16 hx hb, xm_st17 hx hb, xm_st2 hx hb, xm_st4 hx hb, xm_st5 hx hb, xm_st6 hx hb, xm_st7 hx hb, xm_st9 hx hb, Bool.false_eq_true, eq_self, isk_t, i20_t, w20_t, l23_t, b21_t, b22_t, w_t, bif_t, bif_f, bif_d, if_pos, if_neg, if_true, if_false, not_true_eq_false, not_false_eq_true, Option.bind_some, Option.toList_some, Option.toList_none, List.cons_append, List.nil_append, Int.toNat_natCast, Int.reduceToNat, up_eq, up_p, up_k, sN,  e7, cpk_t (n := 7), true_or, or_true, decide_true, Bool.and_self, cp_out ]
end XSET
