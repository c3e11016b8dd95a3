/-! BENTS: which bents of a man leave the notes so -/
/-- the course from the text, with one man bent otherwise -/
def cB (S : MS) (p v : Int) : MC := (fun q => if q = p then v else S 2 q, true, kG S, fun _ => false, fun _ => false, fun _ => true)
/-- only some things are looked at -/
def tkT (C : MC) (T : Nat) : MC := (C.1, C.2.1, C.2.2.1, C.2.2.2.1, C.2.2.2.2.1, fun t => T.testBit t.toNat)
def fitF (Q : Int → MW → Bool) (S : MS) (C : MC) : Nat → Int → MW → Bool
  | 0, _, _ => true
  | n + 1, k, V => Q k (dayW S C V) && fitF Q S C n (k + 1) (dayW S C V)
/-- a number's bits, from below -/
def bnt (F : Nat → Bool) : Nat → Nat
  | 0 => 0
  | v + 1 => if F v = true then bnt F v ||| 2 ^ v else bnt F v
theorem bnt_lt {F : Nat → Bool} : ∀ n, n ≤ 10 → bnt F n < 1024
  | 0, _ => by show 0 < 1024; omega
  | n + 1, h => by
    show (if F n = true then bnt F n ||| 2 ^ n else bnt F n) < 1024
    split
    · exact Nat.or_lt_two_pow (n := 10) (bnt_lt n (by omega)) (Nat.pow_lt_pow_right (by decide) (by omega))
    · exact bnt_lt n (by omega)
theorem bnt_bit {F : Nat → Bool} (j : Nat) : ∀ n, (bnt F n).testBit j = (decide (j < n) && F j)
  | 0 => by show (0 : Nat).testBit j = _; simp
  | n + 1 => by
    show (if F n = true then bnt F n ||| 2 ^ n else bnt F n).testBit j = _
    have i := bnt_bit (F := F) j n
    by_cases e : F n = true
    · rw [if_pos e, Nat.testBit_or, i, Nat.testBit_two_pow]
      by_cases e2 : j = n
      · subst e2; simp [e]
      · have : (j < n + 1) = (j < n) := by apply propext; omega
        have e3 : ¬ n = j := fun g => e2 g.symm
        simp [this, e3]
    · rw [if_neg e, i]
      by_cases e2 : j = n
      · subst e2; simp [e]
      · have : (j < n + 1) = (j < n) := by apply propext; omega
        simp [this]
def soQ (L : Nat → Bool) (dy mn th ht is : Nat → Int) (N : Nat) (k : Int) (V : MW) : Bool := soF (soP L dy mn th ht is k V) N 0
theorem soQ_ag {L : Nat → Bool} {dy mn th ht is : Nat → Int} {N : Nat} {k : Int} {V V' : MW} (h : ∀ j, L j = true → AG (th j) V V') : soQ L dy mn th ht is N k V' = soQ L dy mn th ht is N k V := by
  refine soF_x (N := N) (fun j _ => ?_) N 0 (by omega)
  unfold soP
  by_cases e : L j = true
  · rw [(h j e).2.2 5 (mn j) (by omega) (by omega)]
  · simp [e]
theorem fitF_ag {L : Nat → Bool} {dy mn th ht is : Nat → Int} {N : Nat} {S : MS} {C C' : MC} (hC : ∀ j, L j = true → CE (th j) C C') : ∀ (n : Nat) (k : Int) (V V' : MW), (∀ j, L j = true → AG (th j) V V') → fitF (soQ L dy mn th ht is N) S C' n k V' = fitF (soQ L dy mn th ht is N) S C n k V
  | 0, _, _, _, _ => rfl
  | n + 1, k, V, V', h => by
    have h1 : ∀ j, L j = true → AG (th j) (dayW S C V) (dayW S C' V') := fun j hj => day_ag (hC j hj) (h j hj)
    show (soQ L dy mn th ht is N k (dayW S C' V') && fitF (soQ L dy mn th ht is N) S C' n (k + 1) (dayW S C' V')) = (soQ L dy mn th ht is N k (dayW S C V) && fitF (soQ L dy mn th ht is N) S C n (k + 1) (dayW S C V))
    rw [soQ_ag h1, fitF_ag hC n (k + 1) _ _ h1]
section BN
variable {ρ : Nat → Nat → Nat} {μ : Nat → Nat → Int} {cs : Nat × Nat × Nat} {d b w u : Nat} {S : MS} {W V : MW} {C : MC} {N a : Nat} {dy mn th ht is o : Nat → Int} {L g : Nat → Bool}
theorem cB_ci (hS : SI S) (hb2 : ∀ p, 0 ≤ p → p < S 0 0 → 0 ≤ S 2 p ∧ S 2 p ≤ 9) {p v : Int} (v0 : 0 ≤ v) (v1 : v ≤ 9) : CI S (cB S p v) := fun q q0 q1 => by
  show 0 ≤ (if q = p then v else S 2 q) ∧ (if q = p then v else S 2 q) ≤ 9
  split
  · exact ⟨v0, v1⟩
  · exact hb2 q q0 q1
theorem R_fits_loop (hρ : RM ρ) {LD : Int} (hLD : LD ≤ 60) (hS : SI S) (hC : CI S C) (hA : ∀ t, C.2.2.2.2.2 t = true) (hL : ∀ j, j < N → L j = decide (g j = false ∧ o j = -1)) : ∀ (n : Nat) (k D : Int) (V : MW) (μ : Nat → Nat → Int), WI S D V → D + n < 20000 → SR μ = S → CR μ 0 = C → WR μ 1 = V → 0 ≤ μ 99 53 → μ 99 53 < 128 → RN μ N o g dy mn th ht is → 0 ≤ k → k + n = LD + 1 → ∃ μ1, FrW 1 μ μ1 ∧ am_E (d + 8) 246 7 [some (.inr (.inr 99)), some (.inl LD), some (.inl k)] [] (SH, ρ, μ, cs) = some (some (.inl (if fitF (soQ L dy mn th ht is N) S C n k V = true then 1 else 0)), (SH, ρ, μ1, cs)) := by
  intro n
  induction n with
  | zero =>
    intro k D V μ hW hD h1 h2 h3 hh0 hh hn hk0 hk
    refine ⟨μ, frw_rf 1 μ, ?_⟩
    rw [e246_7]; simp (disch := (first | omega | (simp (disch := omega) only [sr_up, wr_up_o]; omega))) only [ks_99, ite_self, Bool.false_eq_true, eq_self, isk_t, i20_t, w20_t, l23_t, b21_t, b22_t, w_t, bif_t, bif_f, bif_d, if_pos, if_neg, if_true, if_false, not_true_eq_false, not_false_eq_true, Option.bind_some, Option.toList_some, Option.toList_none, List.cons_append, List.nil_append, Int.toNat_natCast, Int.reduceToNat, up_eq, up_p, up_k, sN]
    all_goals rfl
  | succ n ih =>
    intro k D V μ hW hD h1 h2 h3 hh0 hh hn hk0 hk
    obtain ⟨μ1, g1, g2, g3⟩ := R_passes (ρ := ρ) (cs := cs) (d := d) (b := 0) (s := 1) hρ (by omega) (by omega) hS hC (show D < 20000 by omega) hW hA h1 h2 h3 hh0 hh
    have hn1 : RN μ1 N o g dy mn th ht is := rn_fr hn (fun q i gq => g1 q i (by omega) (by omega))
    obtain ⟨μ2, k1, k3⟩ := ih (k + 1) (D + 1) _ μ1 (wi_dayW hS hC hW) (by omega) ((frw_SR g1).trans h1) ((frw_CR g1 0).trans h2) g2 (by rw [g1 99 53 (by omega) (by omega)]; exact hh0) (by rw [g1 99 53 (by omega) (by omega)]; exact hh) hn1 (by omega) (by omega)
    have e4 := R_so (ρ := ρ) (cs := cs) (d := d + 6) (L := L) (day := k) hρ hn1 g2 hL N 0 (by omega)
    have e5 : am_E (d + 7) 245 0 [some (.inr (.inr 99)), some (.inl k), none] [] (SH, ρ, μ1, cs) = some (some (.inl (if soQ L dy mn th ht is N k (dayW S C V) = true then 1 else 0)), (SH, ρ, μ1, cs)) := by
      rw [e245_0]
      exact e4
    clear e4
    have e6 : fitF (soQ L dy mn th ht is N) S C (n + 1) k V = (soQ L dy mn th ht is N k (dayW S C V) && fitF (soQ L dy mn th ht is N) S C n (k + 1) (dayW S C V)) := rfl
    rw [e6]
    by_cases c : soQ L dy mn th ht is N k (dayW S C V) = true
    · rw [c, Bool.true_and]
      rw [if_pos c] at e5
      refine ⟨μ2, frw_tr g1 k1, ?_⟩
      rw [← k3]
      rw [e246_7]; simp (disch := (first | omega | (simp (disch := omega) only [sr_up, wr_up_o]; omega))) only [e246_18, e246_23, ks_99, ite_self, Bool.false_eq_true, eq_self, isk_t, i20_t, w20_t, l23_t, b21_t, b22_t, w_t, bif_t, bif_f, bif_d, if_pos, if_neg, if_true, if_false, not_true_eq_false, not_false_eq_true, Option.bind_some, Option.toList_some, Option.toList_none, List.cons_append, List.nil_append, Int.toNat_natCast, Int.reduceToNat, up_eq, up_p, up_k, sN,  g3, e5 ]
    · have c' : soQ L dy mn th ht is N k (dayW S C V) = false := by simpa using c
      rw [c', Bool.false_and]
      rw [if_neg c] at e5
      refine ⟨μ1, g1, ?_⟩
      rw [e246_7]; simp (disch := (first | omega | (simp (disch := omega) only [sr_up, wr_up_o]; omega))) only [e246_18, e246_23, ks_99, ite_self, Bool.false_eq_true, eq_self, isk_t, i20_t, w20_t, l23_t, b21_t, b22_t, w_t, bif_t, bif_f, bif_d, if_pos, if_neg, if_true, if_false, not_true_eq_false, not_false_eq_true, Option.bind_some, Option.toList_some, Option.toList_none, List.cons_append, List.nil_append, Int.toNat_natCast, Int.reduceToNat, up_eq, up_p, up_k, sN,  g3, e5 ]
      all_goals rfl
/-- the course of the reference, with one man bent otherwise -/
theorem CR_cB (h1 : SR μ = S) (h49 : μ 99 49 = 0) (h53 : μ 99 53 = 0) {p v : Int} (h51 : μ 99 51 = p) (h52 : μ 99 52 = v) : CR μ 0 = cB S p v := by
  unfold CR cB
  have eb : bendR μ = fun q => if q = p then v else S 2 q := by
    funext q
    unfold bendR
    rw [h49, h51, h52, h1, if_neg (by omega)]
  rw [eb, h49, h53, h1]
  simp [kG]
theorem R_fits (hρ : RM ρ) {LD : Int} (hL0 : 0 ≤ LD) (hLD : LD ≤ 60) (hS : SI S) {p v : Int} (hC : CI S (cB S p v)) (hL : ∀ j, j < N → L j = decide (g j = false ∧ o j = -1)) (h1 : SR μ = S) (h49 : μ 99 49 = 0) (h53 : μ 99 53 = 0) (h51 : μ 99 51 = p) (h52 : μ 99 52 = v) (hn : RN μ N o g dy mn th ht is) : ∃ μ1, FrW 1 μ μ1 ∧ am_E (d + 8) 246 0 [some (.inr (.inr 99)), some (.inl LD), none] [] (SH, ρ, μ, cs) = some (some (.inl (if fitF (soQ L dy mn th ht is N) S (cB S p v) LD.toNat 1 (startW S) = true then 1 else 0)), (SH, ρ, μ1, cs)) := by
  obtain ⟨μ1, g1, g2, g3⟩ := R_starts (ρ := ρ) (cs := cs) (d := d + 7) (s := 1) hρ (by omega) (by omega) h1
  obtain ⟨μ2, k1, k2⟩ := R_fits_loop (ρ := ρ) (cs := cs) (d := d) (LD := LD) hρ hLD hS hC (fun _ => rfl) hL LD.toNat 1 0 (startW S) μ1 (wi_start hS) (by omega) ((frw_SR g1).trans h1) ((frw_CR g1 0).trans (CR_cB h1 h49 h53 h51 h52)) g2 (by rw [g1 99 53 (by omega) (by omega)]; omega) (by rw [g1 99 53 (by omega) (by omega)]; omega) (rn_fr hn (fun q i gq => g1 q i (by omega) (by omega))) (by omega) (by omega)
  refine ⟨μ2, frw_tr g1 k1, ?_⟩
  rw [← k2]
  rw [e246_0]; simp (disch := (first | omega | (simp (disch := omega) only [sr_up, wr_up_o]; omega))) only [e246_5, ks_99, ite_self, Bool.false_eq_true, eq_self, isk_t, i20_t, w20_t, l23_t, b21_t, b22_t, w_t, bif_t, bif_f, bif_d, if_pos, if_neg, if_true, if_false, not_true_eq_false, not_false_eq_true, Option.bind_some, Option.toList_some, Option.toList_none, List.cons_append, List.nil_append, Int.toNat_natCast, Int.reduceToNat, up_eq, up_p, up_k, sN,  g3 ]
end BN
