/-! THE MODEL: things go on by themselves, where no numbers are drawn -/
/-- two towns alike in a thing -/
def AG (t0 : Int) (W W' : MW) : Prop := W' 0 0 0 = W 0 0 0 ∧ W' 4 0 t0 = W 4 0 t0 ∧ ∀ (a : Nat) (p : Int), 5 ≤ a → a ≤ 9 → W' a p t0 = W a p t0
/-- two courses alike but for the things that they look at -/
def CE (t0 : Int) (C C' : MC) : Prop := C'.1 = C.1 ∧ C'.2.1 = C.2.1 ∧ C'.2.2.1 = C.2.2.1 ∧ C'.2.2.2.1 = C.2.2.2.1 ∧ C'.2.2.2.2.1 = C.2.2.2.2.1 ∧ C.2.2.2.2.2 t0 = true ∧ C'.2.2.2.2.2 t0 = true ∧ (C.2.2.1 = 1 ∨ C.2.2.1 = 2)
theorem ag_rf (t0 : Int) (W : MW) : AG t0 W W := ⟨rfl, rfl, fun _ _ _ _ => rfl⟩
theorem ag_tr {t0 : Int} {A B C : MW} (h1 : AG t0 A B) (h2 : AG t0 B C) : AG t0 A C := ⟨h2.1.trans h1.1, h2.2.1.trans h1.2.1, fun a p h0 h => (h2.2.2 a p h0 h).trans (h1.2.2 a p h0 h)⟩
theorem ag_sy {t0 : Int} {A B : MW} (h : AG t0 A B) : AG t0 B A := ⟨h.1.symm, h.2.1.symm, fun a p h0 h1 => (h.2.2 a p h0 h1).symm⟩
section PAG
variable {S : MS} {C C' : MC} {t0 : Int} {W W' : MW}
theorem many_ag (h : AG t0 W W') : manyF S W' t0 = manyF S W t0 := by
  unfold manyF
  have e : (fun p => decide (W' 5 p t0 ≠ -1)) = (fun p => decide (W 5 p t0 ≠ -1)) := by funext p; rw [h.2.2 5 p (by omega) (by omega)]
  rw [e]
theorem told_ag (h : AG t0 W W') : toldF S W' t0 = toldF S W t0 := by
  unfold toldF
  have e : (fun p => decide (W' 8 p t0 ≠ -2)) = (fun p => decide (W 8 p t0 ≠ -2)) := by funext p; rw [h.2.2 8 p (by omega) (by omega)]
  rw [e]
theorem fact_ag (hC : C'.1 = C.1) (h : AG t0 W W') {p ap : Int} : factF S C' W' p t0 ap = factF S C W p t0 ap := by
  funext i
  unfold factF
  rw [hC, many_ag h, told_ag h, h.1, h.2.2 5 p (by omega) (by omega), h.2.2 6 p (by omega) (by omega)]
theorem chain_ag (h : AG t0 W W') {p : Int} : chain W' p t0 = chain W p t0 := chain_congr (fun p => h.2.2 5 p (by omega) (by omega)) (fun p => h.2.2 7 p (by omega) (by omega))
theorem fitB_ag (hC : CE t0 C C') (h : AG t0 W W') {p hats : Int} {ch : Nat} : fitB S C' W' p t0 hats ch = fitB S C W p t0 hats ch := by
  unfold fitB
  rw [chain_ag h, hC.2.1, h.2.2 5 p (by omega) (by omega), fact_ag hC.1 h]
theorem ffit_ag (hC : CE t0 C C') (h : AG t0 W W') {p : Int} : ∀ (n : Nat) (q : Int), ffit S C' W' p t0 n q = ffit S C W p t0 n q
  | 0, _ => rfl
  | n + 1, q => by
    unfold ffit
    rw [h.2.2 8 q (by omega) (by omega), h.2.2 9 q (by omega) (by omega), fitB_ag hC h, ffit_ag hC h n (q + 1)]
theorem chg_ag (hC : CE t0 C C') (h : AG t0 W W') {p : Int} : chgF S C' W' p t0 = chgF S C W p t0 := by
  rw [chg_wth, chg_wth, fact_ag hC.1 h, hC.1, h.2.2 5 p (by omega) (by omega)]
theorem fitOf_ag (hC : CE t0 C C') (h : AG t0 W W') {p : Int} : fitOf S C' W' p t0 = fitOf S C W p t0 := by
  unfold fitOf
  rw [h.2.1, ffit_ag hC h]
theorem gain_ag (h : AG t0 W W') {p h1 fr : Int} : AG t0 (gain W p t0 h1 fr) (gain W' p t0 h1 fr) := by
  refine ⟨?_, ?_, fun a q h0 h2 => ?_⟩
  · rw [gain_o (by omega), gain_o (by omega)]; exact h.1
  · rw [gain_o (by omega), gain_o (by omega)]; exact h.2.1
  · rw [gain_at, gain_at, h.1, h.2.2 a q h0 h2]
theorem gain_ot {t p h1 fr : Int} (ht : t ≠ t0) : AG t0 W (gain W p t h1 fr) := by
  refine ⟨?_, ?_, fun a q h0 h2 => ?_⟩
  · rw [gain_o (by omega)]
  · rw [gain_o (by omega)]
  · rw [gain_at, if_neg (by omega)]
theorem tell_ag (hC : CE t0 C C') (h : AG t0 W W') {p : Int} : AG t0 (tellW S C W p t0) (tellW S C' W' p t0) := by
  have hn : AG t0 (newsW S C W p t0) (newsW S C' W' p t0) := by
    refine ⟨?_, ?_, fun a q h0 h2 => ?_⟩
    · rw [news_o (by omega), news_o (by omega)]; exact h.1
    · rw [news_at, news_at, fitOf_ag hC h, h.2.1, h.1]
      split
      · rfl
      · rw [if_neg (by omega), if_pos ⟨rfl, rfl, rfl⟩]
        try rw [if_neg (by omega)]
    · rw [news_o (by omega), news_o (by omega)]; exact h.2.2 a q h0 h2
  refine ⟨?_, ?_, fun a q h0 h2 => ?_⟩
  · rw [tell_at, tell_at, if_neg (by omega), if_neg (by omega), if_neg (by omega), if_neg (by omega)]; exact hn.1
  · rw [tell_at, tell_at, if_neg (by omega), if_neg (by omega), if_neg (by omega), if_neg (by omega)]; exact hn.2.1
  · rw [tell_at, tell_at, h.2.2 5 p (by omega) (by omega), chain_ag h, hn.2.2 a q h0 h2]
theorem tell_ot {t p : Int} (ht : t ≠ t0) : AG t0 W (tellW S C W p t) := by
  refine ⟨?_, ?_, fun a q h0 h2 => ?_⟩
  · rw [tell_o (by omega)]
  · rw [tell_at, if_neg (by omega), if_neg (by omega), news_at]
    split
    · rfl
    · rw [if_neg (by omega), if_neg (by omega)]
  · rw [tell_at, if_neg (by omega), if_neg (by omega), news_o (by omega)]
theorem wayB_ag (hC : CE t0 C C') (h : AG t0 W W') {w : Int} : wayB S C' w W' t0 = wayB S C w W t0 := by
  unfold wayB
  rw [hC.2.2.2.1, hC.2.2.2.2.2.1, hC.2.2.2.2.2.2.1, h.1, h.2.2 5 _ (by omega) (by omega), h.2.2 5 _ (by omega) (by omega), h.2.2 6 _ (by omega) (by omega)]
theorem wayT_ag (hC : CE t0 C C') (h : AG t0 W W') {w : Int} : AG t0 (wayT S C w W t0) (wayT S C' w W' t0) := by
  have hk := hC.2.2.2.2.2.2.2
  unfold wayT
  rw [wayB_ag hC h, hC.2.2.1]
  split
  · exact h
  · by_cases q : C.2.2.1 = 1
    · rw [if_pos q, if_pos q, hear_gain, hear_gain, chg_ag hC h]
      exact gain_ag h
    · rw [if_neg q, if_neg q, if_pos (by omega), if_pos (by omega)]
      exact h
theorem wayT_ot (hk : C.2.2.1 = 1 ∨ C.2.2.1 = 2) {w t : Int} (ht : t ≠ t0) : AG t0 W (wayT S C w W t) := by
  unfold wayT
  split
  · exact ag_rf t0 W
  · by_cases q : C.2.2.1 = 1
    · rw [if_pos q, hear_gain]
      exact gain_ot ht
    · rw [if_neg q, if_pos (by omega)]
      exact ag_rf t0 W
theorem wayL_ag (hC : CE t0 C C') {w : Int} : ∀ (n : Nat) (t : Int) (W W' : MW), AG t0 W W' → AG t0 (wayL S C w n t W) (wayL S C' w n t W')
  | 0, _, _, _, h => h
  | n + 1, t, W, W', h => by
    have hk := hC.2.2.2.2.2.2.2
    have hk' : C'.2.2.1 = 1 ∨ C'.2.2.1 = 2 := by rw [hC.2.2.1]; exact hk
    show AG t0 (wayL S C w n (t + 1) (wayT S C w W t)) (wayL S C' w n (t + 1) (wayT S C' w W' t))
    refine wayL_ag hC n (t + 1) _ _ ?_
    by_cases e : t = t0
    · subst e; exact wayT_ag hC h
    · exact ag_tr (ag_sy (wayT_ot hk e)) (ag_tr h (wayT_ot hk' e))
theorem wayA_ag (hC : CE t0 C C') : ∀ (n : Nat) (w : Int) (W W' : MW), AG t0 W W' → AG t0 (wayA S C n w W) (wayA S C' n w W')
  | 0, _, _, _, h => h
  | n + 1, w, W, W', h => wayA_ag hC n (w + 1) _ _ (wayL_ag hC _ 0 W W' h)
theorem telT_ag (hC : CE t0 C C') (h : AG t0 W W') {l : Int} : AG t0 (telT S C l W) (telT S C' l W') := by
  by_cases e : S 12 l = t0
  · unfold telT
    rw [e, h.1, hC.2.2.2.2.1, hC.2.2.2.2.2.1, hC.2.2.2.2.2.2.1, h.2.2 5 _ (by omega) (by omega), h.2.2 8 _ (by omega) (by omega)]
    split
    · split
      · refine ⟨?_, ?_, fun a q h0 h2 => ?_⟩
        · rw [wp_o (by omega), wp_o (by omega)]; exact h.1
        · rw [wp_o (by omega), wp_o (by omega)]; exact h.2.1
        · rw [wp_o (by omega), wp_o (by omega)]; exact h.2.2 a q h0 h2
      · exact tell_ag hC h
    · exact h
  · have o : ∀ (C : MC) (W : MW), AG t0 W (telT S C l W) := fun C W => by
      unfold telT
      split
      · split
        · refine ⟨?_, ?_, fun a q h0 h2 => ?_⟩
          · rw [wp_o (by omega)]
          · rw [wp_o (by omega)]
          · rw [wp_o (by omega)]
        · exact tell_ot e
      · exact ag_rf t0 W
    exact ag_tr (ag_sy (o C W)) (ag_tr h (o C' W'))
theorem telA_ag (hC : CE t0 C C') : ∀ (n : Nat) (l : Int) (W W' : MW), AG t0 W W' → AG t0 (telA S C n l W) (telA S C' n l W')
  | 0, _, _, _, h => h
  | n + 1, l, W, W', h => telA_ag hC n (l + 1) _ _ (telT_ag hC h)
theorem see_ag (hC : CE t0 C C') (h : AG t0 W W') : AG t0 (seeW S C W) (seeW S C' W') := by
  refine ⟨?_, ?_, fun a p h0 h2 => ?_⟩
  · rw [seeW_Q, seeW_Q, seeQ_00 (by omega), seeQ_00 (by omega)]; exact h.1
  · rw [seeW_Q, seeW_Q, seeQ_00 (by omega), seeQ_00 (by omega)]; exact h.2.1
  · unfold seeW
    have e : seeC S C' W' p t0 ↔ seeC S C W p t0 := by
      unfold seeC
      rw [h.1, hC.2.2.2.2.2.1, hC.2.2.2.2.2.2.1, h.2.2 5 p (by omega) (by omega)]
    by_cases q : seeC S C W p t0
    · rw [if_pos q, if_pos (e.mpr q)]
      exact (gain_ag h).2.2 a p h0 h2
    · rw [if_neg q, if_neg (fun g => q (e.mp g))]
      exact h.2.2 a p h0 h2
theorem day_ag (hC : CE t0 C C') (h : AG t0 W W') : AG t0 (dayW S C W) (dayW S C' W') := by
  have h1 := telA_ag (S := S) hC (S 0 4).toNat 0 _ _ (wayA_ag (S := S) hC (S 0 3).toNat 0 _ _ (see_ag (S := S) hC h))
  unfold dayW
  refine ⟨?_, ?_, fun a p h0 h2 => ?_⟩
  · rw [wp_eq, wp_eq, h.1]
  · rw [wp_o (by omega), wp_o (by omega)]; exact h1.2.1
  · rw [wp_o (by omega), wp_o (by omega)]; exact h1.2.2 a p h0 h2
theorem days_ag (hC : CE t0 C C') : ∀ (n : Nat) {W W' : MW}, AG t0 W W' → AG t0 (daysW S C n W) (daysW S C' n W')
  | 0, _, _, h => h
  | n + 1, _, _, h => days_ag hC n (day_ag hC h)
/-- what is news stays so; without tells on a day nothing is news by it -/
theorem telT_news {l : Int} : telT S C l W 4 0 t0 = W 4 0 t0 ∨ (W 4 0 t0 = -2 ∧ telT S C l W 4 0 t0 = W 0 0 0 ∧ S 12 l = t0 ∧ S 13 l = W 0 0 0) := by
  by_cases e : S 12 l = t0
  · unfold telT
    split
    · rename_i g
      split
      · left; exact wp_o (by omega)
      · rw [e, tell_at, if_neg (by omega), if_neg (by omega), news_at]
        split
        · left; rfl
        · rename_i g2
          rw [if_neg (by omega), if_pos ⟨rfl, rfl, rfl⟩]
          by_cases c : W 4 0 t0 = -2
          · right; exact ⟨c, rfl, rfl, g.1⟩
          · exact absurd (by unfold fitOf; rw [if_pos c]) g2
    · left; rfl
  · left
    unfold telT
    split
    · split
      · exact wp_o (by omega)
      · exact (tell_ot e).2.1
    · rfl
theorem telA_news {D0 : Int} : ∀ (n : Nat) (l : Int) (W : MW), W 0 0 0 = D0 → 0 ≤ l → (W 4 0 t0 ≠ -2 ∨ ∀ k, l ≤ k → k < l + n → ¬ (S 12 k = t0 ∧ S 13 k = D0)) → telA S C n l W 4 0 t0 = W 4 0 t0
  | 0, _, _, _, _, _ => rfl
  | n + 1, l, W, hd, hl, h => by
    have h1 : telT S C l W 4 0 t0 = W 4 0 t0 := by
      rcases telT_news (S := S) (C := C) (W := W) (t0 := t0) (l := l) with g | ⟨g1, g2, g3, g4⟩
      · exact g
      · rcases h with h | h
        · exact absurd g1 h
        · exact absurd ⟨g3, g4.trans hd⟩ (h l (by omega) (by omega))
    show telA S C n (l + 1) (telT S C l W) 4 0 t0 = _
    rw [telA_news (D0 := D0) n (l + 1) (telT S C l W) (telT_0.trans hd) (by omega) (by
      rcases h with h | h
      · left; rw [h1]; exact h
      · right; exact fun k h0 h2 => h k (by omega) (by omega)), h1]
theorem wayT_4 {w t : Int} {p q : Int} : wayT S C w W t 4 p q = W 4 p q := by
  unfold wayT
  split
  · rfl
  · split
    · rw [hear_gain, gain_o (by omega)]
    · split
      · rfl
      · split
        · rw [hear_gain, gain_o (by omega), wp_o (by omega)]
        · exact wp_o (by omega)
theorem wayL_4 {w p q : Int} : ∀ (n : Nat) (t : Int) (W : MW), wayL S C w n t W 4 p q = W 4 p q
  | 0, _, _ => rfl
  | n + 1, t, W => (wayL_4 n (t + 1) (wayT S C w W t)).trans wayT_4
theorem wayA_4 {p q : Int} : ∀ (n : Nat) (w : Int) (W : MW), wayA S C n w W 4 p q = W 4 p q
  | 0, _, _ => rfl
  | n + 1, w, W => (wayA_4 n (w + 1) _).trans (wayL_4 _ 0 W)
theorem day_news (h : W 4 0 t0 ≠ -2 ∨ ∀ k, 0 ≤ k → k < S 0 4 → ¬ (S 12 k = t0 ∧ S 13 k = W 0 0 0)) : dayW S C W 4 0 t0 = W 4 0 t0 := by
  have e4 : wayA S C (S 0 3).toNat 0 (seeW S C W) 4 0 t0 = W 4 0 t0 := by rw [wayA_4, seeW_Q, seeQ_00 (by omega)]
  have e0 : wayA S C (S 0 3).toNat 0 (seeW S C W) 0 0 0 = W 0 0 0 := by rw [(wayA_3 _ _ _).2, seeW_Q, seeQ_00 (by omega)]
  unfold dayW
  rw [wp_o (by omega), telA_news (D0 := W 0 0 0) (S 0 4).toNat 0 _ e0 (Int.le_refl _) (by
    rcases h with h | h
    · left; rw [e4]; exact h
    · right; exact fun k h0 h1 => h k h0 (by omega)), e4]
theorem days_news : ∀ (n : Nat) (W : MW), (W 4 0 t0 ≠ -2 ∨ ∀ k, 0 ≤ k → k < S 0 4 → S 12 k = t0 → S 13 k < W 0 0 0) → daysW S C n W 4 0 t0 = W 4 0 t0
  | 0, _, _ => rfl
  | n + 1, W, h => by
    have h1 : dayW S C W 4 0 t0 = W 4 0 t0 := day_news (by
      rcases h with h | h
      · left; exact h
      · right; exact fun k h0 h1 g => by have := h k h0 h1 g.1; omega)
    show daysW S C n (dayW S C W) 4 0 t0 = _
    rw [days_news n (dayW S C W) (by
      rcases h with h | h
      · left; rw [h1]; exact h
      · right; exact fun k h0 h2 g => by rw [dayW_0]; have := h k h0 h2 g; omega), h1]
end PAG
/-- the first day on which something holds -/
def firstD (P : MW → Bool) (S : MS) (C : MC) : Nat → Int → MW → Int
  | 0, _, _ => -2
  | n + 1, k, W => if P W = true then k else firstD P S C n (k + 1) (dayW S C W)
theorem firstD_ag {P : MW → Bool} {S : MS} {C C' : MC} {t0 : Int} (hC : CE t0 C C') (hP : ∀ W W', AG t0 W W' → P W' = P W) : ∀ (n : Nat) (k : Int) (W W' : MW), AG t0 W W' → firstD P S C' n k W' = firstD P S C n k W
  | 0, _, _, _, _ => rfl
  | n + 1, k, W, W', h => by
    unfold firstD
    rw [hP W W' h, firstD_ag hC hP n (k + 1) _ _ (day_ag hC h)]
