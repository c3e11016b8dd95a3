/-! THE CLASS: a course -/
theorem wp_comm {W : MW} {a a' : Nat} {p t v p' t' v' : Int} (h : a ≠ a') : wp (wp W a p t v) a' p' t' v' = wp (wp W a' p' t' v') a p t v := by
  funext a1 p1 t1
  unfold wp
  by_cases q : a1 = a' ∧ p1 = p' ∧ t1 = t'
  · rw [if_pos q, if_neg (by omega), if_pos q]
  · rw [if_neg q]
    by_cases q2 : a1 = a ∧ p1 = p ∧ t1 = t
    · rw [if_pos q2, if_pos q2]
    · rw [if_neg q2, if_neg q2, if_neg q]
theorem wp_wp {W : MW} {a : Nat} {p t v v' : Int} : wp (wp W a p t v) a p t v' = wp W a p t v' := by
  funext a1 p1 t1
  unfold wp
  by_cases q : a1 = a ∧ p1 = p ∧ t1 = t
  · rw [if_pos q, if_pos q]
  · rw [if_neg q, if_neg q, if_neg q]
theorem cnt_cut {f : Int → Bool} {n : Nat} : ∀ (m : Nat), (∀ k : Int, (n : Int) ≤ k → k < n + m → f k = false) → cnt f (n + m) = cnt f n
  | 0, _ => rfl
  | m + 1, h => by
    show cnt f (n + m) + (if f ((n + m : Nat) : Int) then 1 else 0) = cnt f n
    rw [cnt_cut m (fun k h0 h1 => h k h0 (by omega)), h _ (by omega) (by omega)]
    simp
/-- the course of the class stands for C -/
def XC (μ : Nat → Nat → Int) (S : MS) (C : MC) : Prop := μ 73 2 = (C.2.2.1 : Int) ∧ (μ 73 3 = if C.2.1 = true then 1 else 0) ∧ (∀ p : Int, 0 ≤ p → p < S 0 0 → μ 76 p.toNat = C.1 p)
  ∧ (0 ≤ μ 73 7 ∧ μ 73 7 < 64 ∧ ∀ t : Int, 0 ≤ t → t < 6 → (μ 73 7).toNat.testBit t.toNat = C.2.2.2.2.2 t)
  ∧ (0 ≤ μ 73 8 ∧ μ 73 8 < 128 ∧ ∀ p : Int, 0 ≤ p → p < 7 → (μ 73 8).toNat.testBit p.toNat = C.2.2.2.1 p)
  ∧ (0 ≤ μ 73 9 ∧ μ 73 9 < 128 ∧ ∀ p : Int, 0 ≤ p → p < 7 → (μ 73 9).toNat.testBit p.toNat = C.2.2.2.2.1 p)
theorem xc_fr {μ μ' : Nat → Nat → Int} {S : MS} {C : MC} (h : XC μ S C) (hf : ∀ q k, q = 73 ∨ q = 76 → μ' q k = μ q k) : XC μ' S C := by
  obtain ⟨a1, a2, a3, a4, a5, a6⟩ := h
  unfold XC
  rw [hf 73 2 (by omega), hf 73 3 (by omega), hf 73 7 (by omega), hf 73 8 (by omega), hf 73 9 (by omega)]
  exact ⟨a1, a2, fun p h0 h1 => by rw [hf _ _ (by omega)]; exact a3 p h0 h1, a4, a5, a6⟩
theorem xc_x {μ μ' : Nat → Nat → Int} {w : Nat} {S : MS} {C : MC} (h : XC μ S C) (hw : w = 46 ∨ w = 55 ∨ w = 64) (hf : FrX w μ μ') : XC μ' S C := xc_fr h (fun q k hq => hf q k (by omega) (by omega) (by omega))
theorem xc_way {μ : Nat → Nat → Int} {S : MS} {C : MC} (h : XC μ S C) {p : Int} (h0 : 0 ≤ p) (h1 : p < 7) : am_and (am_shr (μ 73 8) p) 1 = if C.2.2.2.1 p = true then 1 else 0 := by
  have b := h.2.2.2.2.1
  rw [zb_bit b.1 (by omega) h0 (by omega), b.2.2 p h0 h1]
theorem xc_tel {μ : Nat → Nat → Int} {S : MS} {C : MC} (h : XC μ S C) {p : Int} (h0 : 0 ≤ p) (h1 : p < 7) : am_and (am_shr (μ 73 9) p) 1 = if C.2.2.2.2.1 p = true then 1 else 0 := by
  have b := h.2.2.2.2.2
  rw [zb_bit b.1 (by omega) h0 (by omega), b.2.2 p h0 h1]
theorem xc_thg {μ : Nat → Nat → Int} {S : MS} {C : MC} (h : XC μ S C) {t : Int} (h0 : 0 ≤ t) (h1 : t < 6) : am_and (am_shr (μ 73 7) t) 1 = if C.2.2.2.2.2 t = true then 1 else 0 := by
  have b := h.2.2.2.1
  rw [zb_bit b.1 (by omega) h0 (by omega), b.2.2 t h0 h1]
def nax (μ : Nat → Nat → Int) (f : Int → Int) : Nat → Nat → Int := am_up (am_up (am_up (am_up (am_up (am_up (am_up μ 74 0 (f 0)) 74 1 (f 1)) 74 2 (f 2)) 74 3 (f 3)) 74 4 (f 4)) 74 5 (f 5)) 74 6 (f 6)
theorem nax_fr (μ : Nat → Nat → Int) (f : Int → Int) : ∀ q k, q ≠ 74 → nax μ f q k = μ q k := fun q k h => by
  unfold nax
  rw [up_p h, up_p h, up_p h, up_p h, up_p h, up_p h, up_p h]
theorem nax_at (μ : Nat → Nat → Int) (f : Int → Int) {i : Int} (h0 : 0 ≤ i) (h1 : i < 7) : nax μ f 74 i.toNat = f i := by
  have h : i = 0 ∨ i = 1 ∨ i = 2 ∨ i = 3 ∨ i = 4 ∨ i = 5 ∨ i = 6 := by omega
  unfold nax
  rcases h with e | e | e | e | e | e | e <;> subst e <;> simp only [am_up] <;> rfl
/-- only what the course works with -/
def FrZ (μ μ' : Nat → Nat → Int) : Prop := ∀ q k, q ≠ 74 → q ≠ 75 → μ' q k = μ q k
theorem frz_rf (μ : Nat → Nat → Int) : FrZ μ μ := fun _ _ _ _ => rfl
theorem frz_tr {a b c : Nat → Nat → Int} (h1 : FrZ a b) (h2 : FrZ b c) : FrZ a c := fun q k h h' => (h2 q k h h').trans (h1 q k h h')
theorem frz_nax (μ : Nat → Nat → Int) (f : Int → Int) : FrZ μ (nax μ f) := fun q k h _ => nax_fr μ f q k h
theorem frz_5 {μ μ' : Nat → Nat → Int} (h : ∀ q i, q ≠ 75 → μ' q i = μ q i) : FrZ μ μ' := fun q k _ h' => h q k h'
theorem frz_x {μ μ' : Nat → Nat → Int} {w : Nat} (h : FrZ μ μ') : FrX w μ μ' := fun q k _ h1 h2 => h q k h1 h2
theorem xs_z {μ μ' : Nat → Nat → Int} {b : Nat} {S : MS} (h : XS μ b S) (hb : b = 2 ∨ b = 21) (hf : FrZ μ μ') : XS μ' b S := xs_fr h (fun q k h0 h1 => hf q k (by omega) (by omega))
theorem xw_z {μ μ' : Nat → Nat → Int} {w : Nat} {W : MW} (h : XW μ w W) (hw : w = 46 ∨ w = 55 ∨ w = 64) (hf : FrZ μ μ') : XW μ' w W := xw_fr h (fun q k h0 h1 => hf q k (by omega) (by omega))
theorem xc_z {μ μ' : Nat → Nat → Int} {S : MS} {C : MC} (h : XC μ S C) (hf : FrZ μ μ') : XC μ' S C := xc_fr h (fun q k hq => hf q k (by omega) (by omega))
theorem many_7 {S : MS} {D : Int} {W : MW} (hS : SI S) (hWI : WI S D W) {t : Int} (t0 : 0 ≤ t) (t1 : t < 6) : popN (bset (fun p => decide (W 5 p t ≠ -1)) 7) 7 = manyF S W t := by
  have b0 := hS.1
  rw [popN_bset (Nat.le_refl 7)]
  unfold manyF
  have hm : men S + (7 - men S) = 7 := by unfold men; omega
  have h := cnt_cut (f := fun p => decide (W 5 p t ≠ -1)) (n := men S) (7 - men S) (fun k h0 h1 => by
    have h2 := hWI.2.2.2.2.2 k t (by omega) (by unfold men at h1; omega) t0 t1
    have : W 5 k t = -1 := (h2.2.2.2.2.2 (Or.inl (by unfold men at h0; omega))).1
    simp [this])
  rw [hm] at h
  exact h
theorem told_7 {μ : Nat → Nat → Int} {w : Nat} {S : MS} {D : Int} {W : MW} (hS : SI S) (hWI : WI S D W) (hW : XW μ w W) {t : Int} (t0 : 0 ≤ t) (t1 : t < 6) : popN (μ (w + 3) t.toNat).toNat 7 = toldF S W t := by
  have b0 := hS.1
  rw [popN_cnt]
  unfold toldF
  have hm : men S + (7 - men S) = 7 := by unfold men; omega
  have h := cnt_cut (f := fun p => decide (W 8 p t ≠ -2)) (n := men S) (7 - men S) (fun k h0 h1 => by
    have h2 := hWI.2.2.2.2.2 k t (by omega) (by unfold men at h1; omega) t0 t1
    have : W 8 k t = -2 := (h2.2.2.2.2.2 (Or.inl (by unfold men at h0; omega))).2
    simp [this])
  rw [hm] at h
  rw [← h]
  exact cnt_congr (fun k h0 h1 => (hW.2.2.2 k t h0 (by omega) t0 t1).2.1)
/-- a law's value is in its bounds -/
theorem evK_bd {S : MS} {f : Int → Int} (hf : ∀ i, 0 ≤ i → i < 7 → -1000000000000 ≤ f i ∧ f i ≤ 1000000000000) : ∀ (n : Nat) (k : Int) (m : Nat) (st : List Int), wfK S n k m → st.length = m → (∀ v ∈ st, -1000000000000 ≤ v ∧ v ≤ 1000000000000) → ∀ r, evK S f n k st = some r → ∀ v ∈ r, -1000000000000 ≤ v ∧ v ≤ 1000000000000
  | 0, k, m, st, hw, hl, hs, r, h => by
    have : some st = some r := h
    cases this
    exact hs
  | n + 1, k, m, st, hw, hl, hs, r, h => by
    rcases hw with ⟨c1, c2, c3, c4⟩ | ⟨c1, c2, c3, c4⟩ | ⟨c1, c4⟩
    · cases st with
      | nil => simp at hl; omega
      | cons y r0 =>
        have e : evK S f (n + 1) k (y :: r0) = evK S f n (k + 1) ((if y = 0 then 1 else 0) :: r0) := by
          show (if S 16 k = 2 then (opK (S 17 k) (y :: r0)).bind _ else _) = _
          rw [if_pos c1, c2, opK_N]
          all_goals rfl
        rw [e] at h
        refine evK_bd hf n (k + 1) m _ c4 (by simpa using hl) (fun v hv => ?_) r h
        rcases List.mem_cons.mp hv with g | g
        · subst g; split <;> omega
        · exact hs v (List.mem_cons_of_mem _ g)
    · match st, hl with
      | [], hl => simp at hl; omega
      | [y], hl => simp at hl; omega
      | y :: x :: r0, hl =>
        have e : evK S f (n + 1) k (y :: x :: r0) = ((opB (op2 (S 17 k) x y)).map (fun v => v :: r0)).bind (fun st => evK S f n (k + 1) st) := by
          show (if S 16 k = 2 then (opK (S 17 k) (y :: x :: r0)).bind _ else _) = _
          rw [if_pos c1, opK_2 c2]
        rw [e] at h
        cases ho : opB (op2 (S 17 k) x y) with
        | none => rw [ho] at h; cases h
        | some z =>
          rw [ho] at h
          have hz := jv_rng ho
          refine evK_bd hf n (k + 1) (m - 1) (z :: r0) c4 (by simp at hl ⊢; omega) (fun v hv => ?_) r h
          rcases List.mem_cons.mp hv with g | g
          · subst g; omega
          · exact hs v (List.mem_cons_of_mem _ (List.mem_cons_of_mem _ g))
    · have e : evK S f (n + 1) k st = evK S f n (k + 1) ((if S 16 k = 0 then S 17 k else f (S 17 k)) :: st) := by
        show (if S 16 k = 2 then _ else _) = _
        rw [if_neg (by omega)]
      rw [e] at h
      refine evK_bd hf n (k + 1) (m + 1) _ c4 (by simp [hl]) (fun v hv => ?_) r h
      rcases List.mem_cons.mp hv with g | g
      · subst g
        rcases c1 with ⟨a1, a2, a3⟩ | ⟨a1, a2, a3⟩
        · rw [if_pos a1]; omega
        · rw [if_neg (by omega)]; exact hf _ a2 a3
      · exact hs v g
theorem lawV_bd {S : MS} {f : Int → Int} {r v : Int} (hS : SI S) (hr0 : 0 ≤ r) (hr : r < 3) (hf : ∀ i, 0 ≤ i → i < 7 → -1000000000000 ≤ f i ∧ f i ≤ 1000000000000) (h : lawV S f r = some v) : -1000000000000 ≤ v ∧ v ≤ 1000000000000 := by
  have hb := hS.2.2.2.2.2.2.2.2.2.2.2.2.2.2.2 r hr0 hr
  unfold lawV at h
  split at h
  · rename_i q
    cases he : evK S f (S 15 r - S 14 r).toNat (S 14 r) [] with
    | none => rw [he] at h; cases h
    | some l =>
      rw [he] at h
      have h2 : l.head? = some v := h
      exact evK_bd hf _ _ 0 [] (hb.2.2.2 q) rfl (fun v hv => by cases hv) l he v (List.mem_of_mem_head? h2)
  · cases h
section XWU
variable {μ : Nat → Nat → Int} {w : Nat} {W : MW}
theorem xw_up_sc (hw : w = 46 ∨ w = 55 ∨ w = 64) (hW : XW μ w W) {a : Nat} {v : Int} (ha : a < 4) : XW (am_up μ w a v) w (wp W a 0 0 v) := by
  obtain ⟨⟨a1, a2, a3, a4⟩, c1, c2, c3⟩ := hW
  refine ⟨?_, fun t h0 h1 => ?_, fun p h0 h1 => ?_, fun p t h0 h1 h2 h3 => ?_⟩
  · have h : a = 0 ∨ a = 1 ∨ a = 2 ∨ a = 3 := by omega
    rcases h with rfl | rfl | rfl | rfl
    · refine ⟨by rw [up_eq, wp_eq], ?_, ?_, ?_⟩ <;> rw [up_k (by omega), wp_o (by omega)] <;> assumption
    · refine ⟨?_, by rw [up_eq, wp_eq], ?_, ?_⟩ <;> rw [up_k (by omega), wp_o (by omega)] <;> assumption
    · refine ⟨?_, ?_, by rw [up_eq, wp_eq], ?_⟩ <;> rw [up_k (by omega), wp_o (by omega)] <;> assumption
    · refine ⟨?_, ?_, ?_, by rw [up_eq, wp_eq]⟩ <;> rw [up_k (by omega), wp_o (by omega)] <;> assumption
  · rw [up_p (by omega), up_p (by omega), wp_o (by omega)]; exact c1 t h0 h1
  · rw [up_p (by omega)]; exact c2 p h0 h1
  · simp (disch := omega) only [up_p]
    rw [wp_o (by omega), wp_o (by omega), wp_o (by omega), wp_o (by omega), wp_o (by omega)]; exact c3 p t h0 h1 h2 h3
theorem xw_up_news (hw : w = 46 ∨ w = 55 ∨ w = 64) (hW : XW μ w W) {t v : Int} (t0 : 0 ≤ t) (t1 : t < 6) : XW (am_up μ (w + 1) t.toNat v) w (wp W 4 0 t v) := by
  obtain ⟨⟨a1, a2, a3, a4⟩, c1, c2, c3⟩ := hW
  refine ⟨⟨?_, ?_, ?_, ?_⟩, fun t' h0 h1 => ?_, fun p h0 h1 => ?_, fun p t' h0 h1 h2 h3 => ?_⟩
  · rw [up_p (by omega), wp_o (by omega)]; exact a1
  · rw [up_p (by omega), wp_o (by omega)]; exact a2
  · rw [up_p (by omega), wp_o (by omega)]; exact a3
  · rw [up_p (by omega), wp_o (by omega)]; exact a4
  · rw [up_p (q := w + 3) (by omega)]
    have c := c1 t' h0 h1
    by_cases q : t' = t
    · subst q; rw [up_eq, wp_eq]; exact ⟨rfl, c.2⟩
    · rw [up_k (by omega), wp_ne (by omega)]; exact c
  · rw [up_p (by omega)]; exact c2 p h0 h1
  · simp (disch := omega) only [up_p]
    rw [wp_o (by omega), wp_o (by omega), wp_o (by omega), wp_o (by omega), wp_o (by omega)]; exact c3 p t' h0 h1 h2 h3
theorem xw_up_pC (hw : w = 46 ∨ w = 55 ∨ w = 64) (hW : XW μ w W) {p t v : Int} (p0 : 0 ≤ p) (p1 : p < 7) (t0 : 0 ≤ t) (t1 : t < 6) : XW (am_up μ (w + 8) (cI p t) v) w (wp W 9 p t v) := by
  obtain ⟨⟨a1, a2, a3, a4⟩, c1, c2, c3⟩ := hW
  refine ⟨⟨?_, ?_, ?_, ?_⟩, fun t' h0 h1 => ?_, fun p h0 h1 => ?_, fun p' t' h0 h1 h2 h3 => ?_⟩
  · rw [up_p (by omega), wp_o (by omega)]; exact a1
  · rw [up_p (by omega), wp_o (by omega)]; exact a2
  · rw [up_p (by omega), wp_o (by omega)]; exact a3
  · rw [up_p (by omega), wp_o (by omega)]; exact a4
  · rw [up_p (by omega), up_p (by omega), wp_o (by omega)]; exact c1 t' h0 h1
  · rw [up_p (by omega)]; exact c2 p h0 h1
  · have c := c3 p' t' h0 h1 h2 h3
    have ci : cI p' t' = cI p t ↔ p' = p ∧ t' = t := by unfold cI; omega
    simp (disch := omega) only [up_p]
    rw [wp_o (a' := 5) (by omega), wp_o (a' := 6) (by omega), wp_o (a' := 7) (by omega), wp_o (a' := 8) (by omega)]
    refine ⟨c.1, c.2.1, c.2.2.1, fun g => ⟨(c.2.2.2 g).1, ?_⟩⟩
    by_cases q : p' = p ∧ t' = t
    · obtain ⟨rfl, rfl⟩ := q
      rw [up_eq, wp_eq]
    · rw [up_k (fun g => q (ci.mp g)), wp_ne (by omega)]
      exact (c.2.2.2 g).2
theorem xw_up_print (hw : w = 46 ∨ w = 55 ∨ w = 64) (hW : XW μ w W) {p t v : Int} (p0 : 0 ≤ p) (p1 : p < 7) (t0 : 0 ≤ t) (t1 : t < 6) (hv : v ≠ -2) : XW (am_up (am_up μ (w + 3) t.toNat (((μ (w + 3) t.toNat).toNat ||| 2 ^ p.toNat : Nat) : Int)) (w + 7) (cI p t) v) w (wp (wp W 9 p t (μ (w + 8) (cI p t))) 8 p t v) := by
  obtain ⟨⟨a1, a2, a3, a4⟩, c1, c2, c3⟩ := hW
  have b := c1 t t0 t1
  refine ⟨⟨?_, ?_, ?_, ?_⟩, fun t' h0 h1 => ?_, fun p' h0 h1 => ?_, fun p' t' h0 h1 h2 h3 => ?_⟩
  · rw [up_p (by omega), up_p (by omega), wp_o (by omega), wp_o (by omega)]; exact a1
  · rw [up_p (by omega), up_p (by omega), wp_o (by omega), wp_o (by omega)]; exact a2
  · rw [up_p (by omega), up_p (by omega), wp_o (by omega), wp_o (by omega)]; exact a3
  · rw [up_p (by omega), up_p (by omega), wp_o (by omega), wp_o (by omega)]; exact a4
  · simp (disch := omega) only [up_p]
    rw [wp_o (by omega), wp_o (by omega)]
    have c := c1 t' h0 h1
    by_cases q : t' = t
    · subst q
      rw [up_eq]
      have := or1_lt (a := (μ (w + 3) t'.toNat).toNat) (n := 7) (k := p) (by omega) p0 (by omega)
      exact ⟨c.1, by omega, by omega⟩
    · rw [up_k (by omega)]; exact c
  · simp (disch := omega) only [up_p]; exact c2 p' h0 h1
  · have c := c3 p' t' h0 h1 h2 h3
    have ci : cI p' t' = cI p t ↔ p' = p ∧ t' = t := by unfold cI; omega
    simp (disch := omega) only [up_p]
    rw [wp_o (a' := 5) (by omega), wp_o (a' := 5) (by omega), wp_o (a' := 6) (by omega), wp_o (a' := 6) (by omega), wp_o (a' := 7) (by omega), wp_o (a' := 7) (by omega), wp_o (a := 8) (a' := 9) (by omega)]
    by_cases q : p' = p ∧ t' = t
    · obtain ⟨rfl, rfl⟩ := q
      rw [wp_eq, wp_eq, up_eq, up_eq, Int.toNat_natCast, or1_bit h0]
      exact ⟨c.1, by simp [hv], c.2.2.1, fun _ => ⟨rfl, rfl⟩⟩
    · rw [wp_ne (a := 8) (a' := 8) (by omega), wp_o (a := 9) (a' := 8) (by omega), wp_ne (a := 9) (a' := 9) (by omega), up_k (p := w + 7) (fun g => q (ci.mp g)), up_p (p := w + 3) (q := w + 7) (by omega)]
      refine ⟨c.1, ?_, c.2.2.1, c.2.2.2⟩
      by_cases q2 : t' = t
      · subst q2
        rw [up_eq, Int.toNat_natCast, or1_bit p0, c.2.1]
        have : ¬ p'.toNat = p.toNat := by omega
        simp [this]
      · rw [up_k (by omega)]; exact c.2.1
end XWU
