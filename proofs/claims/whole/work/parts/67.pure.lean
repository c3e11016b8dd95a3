/-! THE MODEL: bounds stay -/
theorem gain_at {W : MW} {p t h fr : Int} (a : Nat) (p' t' : Int) : gain W p t h fr a p' t' = if p' = p ∧ t' = t then (if a = 7 then fr else if a = 6 then W 0 0 0 else if a = 5 then h else W a p' t') else W a p' t' := by
  unfold gain wp
  by_cases q : p' = p ∧ t' = t
  · by_cases q1 : a = 7
    · rw [if_pos q, if_pos q1, if_pos ⟨q1, q⟩]
    · rw [if_pos q, if_neg q1, if_neg (fun g => q1 g.1)]
      by_cases q2 : a = 6
      · rw [if_pos q2, if_pos ⟨q2, q⟩]
      · rw [if_neg q2, if_neg (fun g => q2 g.1)]
        by_cases q3 : a = 5
        · rw [if_pos q3, if_pos ⟨q3, q⟩]
        · rw [if_neg q3, if_neg (fun g => q3 g.1)]
  · rw [if_neg q, if_neg (fun g => q g.2), if_neg (fun g => q g.2), if_neg (fun g => q g.2)]
theorem gain_o {W : MW} {p t h fr : Int} {a : Nat} {p' t' : Int} (ha : a < 5 ∨ 7 < a) : gain W p t h fr a p' t' = W a p' t' := by
  rw [gain_at]
  split
  · rw [if_neg (by omega), if_neg (by omega), if_neg (by omega)]
  · rfl
theorem gain_5 {W : MW} {p t h fr p' t' : Int} : gain W p t h fr 5 p' t' = if p' = p ∧ t' = t then h else W 5 p' t' := by rw [gain_at]; rfl
theorem gain_6 {W : MW} {p t h fr p' t' : Int} : gain W p t h fr 6 p' t' = if p' = p ∧ t' = t then W 0 0 0 else W 6 p' t' := by rw [gain_at]; rfl
theorem gain_7 {W : MW} {p t h fr p' t' : Int} : gain W p t h fr 7 p' t' = if p' = p ∧ t' = t then fr else W 7 p' t' := by rw [gain_at]; rfl
theorem hear_gain {S : MS} {C : MC} {W : MW} {man frm t : Int} : hearW S C W man frm t = gain W man t (chgF S C W frm t) frm := rfl
theorem WI_mono {S : MS} {D D' : Int} {W : MW} (h : WI S D W) (hD : D ≤ D') : WI S D' W := by
  obtain ⟨a0, a1, a2, a3, a4, a5⟩ := h
  refine ⟨by omega, a1, a2, by omega, fun t h0 h1 => ?_, fun p t h0 h1 h2 h3 => ?_⟩
  · have := a4 t h0 h1
    omega
  · have := a5 p t h0 h1 h2 h3
    omega
theorem wi_gain {S : MS} {D : Int} {W : MW} {p t h fr : Int} (hW : WI S D W) (hp0 : 0 ≤ p) (hp : p < S 0 0) (ht0 : 0 ≤ t) (ht : t < S 0 1) (hh0 : 0 ≤ h) (hh : h ≤ 99) (hf : fr = -2 ∨ 0 ≤ fr ∧ fr < 7) : WI S D (gain W p t h fr) := by
  obtain ⟨a0, a1, a2, a3, a4, a5⟩ := hW
  refine ⟨?_, ?_, ?_, ?_, fun t' h0 h1 => ?_, fun p' t' h0 h1 h2 h3 => ?_⟩
  · rw [gain_o (by omega)]; exact a0
  · rw [gain_o (by omega)]; exact a1
  · rw [gain_o (by omega)]; exact a2
  · rw [gain_o (by omega)]; exact a3
  · rw [gain_o (by omega)]; exact a4 t' h0 h1
  · have := a5 p' t' h0 h1 h2 h3
    rw [gain_5, gain_6, gain_7, gain_o (by omega), gain_o (by omega)]
    split <;> omega
theorem wth_bd {v : Option Int} {most pl : Int} (h0 : 0 ≤ pl) (h1 : pl ≤ most) : 0 ≤ wthn v most pl ∧ wthn v most pl ≤ most := by
  unfold wthn
  split <;> omega
theorem chg_wth {S : MS} {C : MC} {W : MW} {p t : Int} : chgF S C W p t = wthn (lawV S (factF S C W p t 0) 0) 99 (Int.tmod (W 5 p t + C.1 p) 100) := rfl
theorem prt_wth {S : MS} {C : MC} {W : MW} {p t : Int} : prtF S C W p t = wthn (lawV S (factF S C W p t (Int.natAbs (W 5 p t - W 8 (fitOf S C W p t) t))) 2) 999 1 := rfl
theorem tmod_bd {x : Int} (h : 0 ≤ x) : 0 ≤ Int.tmod x 100 ∧ Int.tmod x 100 ≤ 99 := by
  rw [Int.tmod_eq_emod_of_nonneg h]
  omega
theorem chg_bd {S : MS} {C : MC} {D : Int} {W : MW} (hC : CI S C) (hW : WI S D W) {p t : Int} (hp0 : 0 ≤ p) (hp : p < S 0 0) (hp7 : p < 7) (ht0 : 0 ≤ t) (ht : t < 6) (hh : W 5 p t ≠ -1) : 0 ≤ chgF S C W p t ∧ chgF S C W p t ≤ 99 := by
  rw [chg_wth]
  have h1 := hW.2.2.2.2.2 p t hp0 hp7 ht0 ht
  have h2 := hC p hp0 hp
  have h3 := tmod_bd (x := W 5 p t + C.1 p) (by omega)
  exact wth_bd h3.1 h3.2
theorem prt_bd {S : MS} {C : MC} {W : MW} {p t : Int} : 0 ≤ prtF S C W p t ∧ prtF S C W p t ≤ 999 := by
  rw [prt_wth]
  exact wth_bd (by omega) (by omega)
theorem wi_hear {S : MS} {C : MC} {D : Int} {W : MW} (hS : SI S) (hC : CI S C) (hW : WI S D W) {p frm t : Int} (hp0 : 0 ≤ p) (hp : p < S 0 0) (hf0 : 0 ≤ frm) (hf : frm < S 0 0) (ht0 : 0 ≤ t) (ht : t < S 0 1) (hh : W 5 frm t ≠ -1) : WI S D (hearW S C W p frm t) := by
  have h1 := hS.1
  have h2 := hS.2.1
  have h3 := chg_bd hC hW hf0 hf (by omega) ht0 (by omega) hh
  rw [hear_gain]
  exact wi_gain hW hp0 hp ht0 ht h3.1 h3.2 (by omega)
theorem wp_at {W : MW} {a : Nat} {p t v : Int} (a' : Nat) (p' t' : Int) : wp W a p t v a' p' t' = if a' = a ∧ p' = p ∧ t' = t then v else W a' p' t' := rfl
theorem wp_o {W : MW} {a : Nat} {p t v : Int} {a' : Nat} {p' t' : Int} (h : a' ≠ a) : wp W a p t v a' p' t' = W a' p' t' := by rw [wp_at, if_neg (fun g => h g.1)]
theorem wi_num {S : MS} {D : Int} {W : MW} {v : Int} (hW : WI S D W) (h0 : 0 ≤ v) (h1 : v < 2147483648) : WI S D (wp W 1 0 0 v) := by
  obtain ⟨a0, a1, a2, a3, a4, a5⟩ := hW
  refine ⟨?_, ?_, ?_, ?_, fun t' h0 h1 => ?_, fun p' t' h0 h1 h2 h3 => ?_⟩
  · rw [wp_o (by omega)]; exact a0
  · rw [wp_eq]; omega
  · rw [wp_o (by omega)]; exact a2
  · rw [wp_o (by omega)]; exact a3
  · rw [wp_o (by omega)]; exact a4 t' h0 h1
  · rw [wp_o (by omega), wp_o (by omega), wp_o (by omega), wp_o (by omega), wp_o (by omega)]; exact a5 p' t' h0 h1 h2 h3
theorem wi_idle {S : MS} {D : Int} {W : MW} {v : Int} (hW : WI S D W) (h0 : 0 ≤ v) (h1 : v ≤ 12 * D) : WI S D (wp W 3 0 0 v) := by
  obtain ⟨a0, a1, a2, a3, a4, a5⟩ := hW
  refine ⟨?_, ?_, ?_, ?_, fun t' h0 h1 => ?_, fun p' t' h0 h1 h2 h3 => ?_⟩
  · rw [wp_o (by omega)]; exact a0
  · rw [wp_o (by omega)]; exact a1
  · rw [wp_o (by omega)]; exact a2
  · rw [wp_eq]; omega
  · rw [wp_o (by omega)]; exact a4 t' h0 h1
  · rw [wp_o (by omega), wp_o (by omega), wp_o (by omega), wp_o (by omega), wp_o (by omega)]; exact a5 p' t' h0 h1 h2 h3
theorem wi_day {S : MS} {D : Int} {W : MW} {v : Int} (hW : WI S D W) (h0 : 0 ≤ v) (h1 : v ≤ D) : WI S D (wp W 0 0 0 v) := by
  obtain ⟨a0, a1, a2, a3, a4, a5⟩ := hW
  refine ⟨?_, ?_, ?_, ?_, fun t' h0 h1 => ?_, fun p' t' h0 h1 h2 h3 => ?_⟩
  · rw [wp_eq]; omega
  · rw [wp_o (by omega)]; exact a1
  · rw [wp_o (by omega)]; exact a2
  · rw [wp_o (by omega)]; exact a3
  · rw [wp_o (by omega)]; exact a4 t' h0 h1
  · rw [wp_o (by omega), wp_o (by omega), wp_o (by omega), wp_o (by omega), wp_o (by omega)]; exact a5 p' t' h0 h1 h2 h3
theorem next_bd (z : Int) : 0 ≤ nextN z ∧ nextN z < 2147483648 := by unfold nextN; omega
/-- what a telling changes -/
theorem news_at {S : MS} {C : MC} {W : MW} {p t : Int} (a : Nat) (p' t' : Int) : newsW S C W p t a p' t' = if fitOf S C W p t = -1 then W a p' t' else if a = 2 ∧ p' = 0 ∧ t' = 0 then min 99999 (W 2 0 0 + prtF S C W p t) else if a = 4 ∧ p' = 0 ∧ t' = t then W 0 0 0 else W a p' t' := by
  unfold newsW
  split
  · rfl
  · rw [wp_at, wp_at]
theorem news_o {S : MS} {C : MC} {W : MW} {p t : Int} {a : Nat} {p' t' : Int} (h : a ≠ 2 ∧ a ≠ 4) : newsW S C W p t a p' t' = W a p' t' := by
  rw [news_at]
  split
  · rfl
  · rw [if_neg (fun g => h.1 g.1), if_neg (fun g => h.2 g.1)]
theorem wi_newsday {S : MS} {D : Int} {W : MW} {t : Int} (hW : WI S D W) (ht0 : 0 ≤ t) (ht : t < S 0 1) : WI S D (wp W 4 0 t (W 0 0 0)) := by
  obtain ⟨a0, a1, a2, a3, a4, a5⟩ := hW
  refine ⟨?_, ?_, ?_, ?_, fun t' h0 h1 => ?_, fun p' t' h0 h1 h2 h3 => ?_⟩
  · rw [wp_o (by omega)]; exact a0
  · rw [wp_o (by omega)]; exact a1
  · rw [wp_o (by omega)]; exact a2
  · rw [wp_o (by omega)]; exact a3
  · rw [wp_at]
    have := a4 t' h0 h1
    split <;> omega
  · rw [wp_o (by omega), wp_o (by omega), wp_o (by omega), wp_o (by omega), wp_o (by omega)]; exact a5 p' t' h0 h1 h2 h3
theorem wi_space {S : MS} {D : Int} {W : MW} {v : Int} (hW : WI S D W) (h0 : 0 ≤ v) (h1 : v ≤ 99999) : WI S D (wp W 2 0 0 v) := by
  obtain ⟨a0, a1, a2, a3, a4, a5⟩ := hW
  refine ⟨?_, ?_, ?_, ?_, fun t' h0 h1 => ?_, fun p' t' h0 h1 h2 h3 => ?_⟩
  · rw [wp_o (by omega)]; exact a0
  · rw [wp_o (by omega)]; exact a1
  · rw [wp_eq]; omega
  · rw [wp_o (by omega)]; exact a3
  · rw [wp_o (by omega)]; exact a4 t' h0 h1
  · rw [wp_o (by omega), wp_o (by omega), wp_o (by omega), wp_o (by omega), wp_o (by omega)]; exact a5 p' t' h0 h1 h2 h3
theorem wi_news {S : MS} {C : MC} {D : Int} {W : MW} {p t : Int} (hS : SI S) (hW : WI S D W) (ht0 : 0 ≤ t) (ht : t < S 0 1) : WI S D (newsW S C W p t) := by
  have h3 := prt_bd (S := S) (C := C) (W := W) (p := p) (t := t)
  have h4 := hW.2.2.1
  unfold newsW
  split
  · exact hW
  · exact wi_space (wi_newsday hW ht0 ht) (by omega) (by omega)
theorem tell_at {S : MS} {C : MC} {W : MW} {p t : Int} (a : Nat) (p' t' : Int) : tellW S C W p t a p' t' = if a = 8 ∧ p' = p ∧ t' = t then W 5 p t else if a = 9 ∧ p' = p ∧ t' = t then (chain W p t : Int) else newsW S C W p t a p' t' := rfl
theorem tell_o {S : MS} {C : MC} {W : MW} {p t : Int} {a : Nat} {p' t' : Int} (h : a ≠ 2 ∧ a ≠ 4 ∧ a ≠ 8 ∧ a ≠ 9) : tellW S C W p t a p' t' = W a p' t' := by
  rw [tell_at, if_neg (fun g => h.2.2.1 g.1), if_neg (fun g => h.2.2.2 g.1), news_o ⟨h.1, h.2.1⟩]
theorem wi_tell {S : MS} {C : MC} {D : Int} {W : MW} (hS : SI S) (hW : WI S D W) {p t : Int} (hp0 : 0 ≤ p) (hp : p < S 0 0) (ht0 : 0 ≤ t) (ht : t < S 0 1) (hh : W 5 p t ≠ -1) : WI S D (tellW S C W p t) := by
  have h1 := hS.1
  have h2 := hS.2.1
  have h3 := prt_bd (S := S) (C := C) (W := W) (p := p) (t := t)
  have h4 := chain_lt hW hp0 (by omega) ht0 (show t < 6 by omega)
  have h5 := hW.2.2.2.2.2 p t hp0 (by omega) ht0 (by omega)
  obtain ⟨a0, a1, a2, a3, a4, a5⟩ := hW
  refine ⟨?_, ?_, ?_, ?_, fun t' h0 h1 => ?_, fun p' t' h0 h1 h2 h3 => ?_⟩
  · rw [tell_o (by omega)]; exact a0
  · rw [tell_o (by omega)]; exact a1
  · rw [tell_at, if_neg (by omega), if_neg (by omega), news_at]
    split
    · exact a2
    · rw [if_pos ⟨rfl, rfl, rfl⟩]; omega
  · rw [tell_o (by omega)]; exact a3
  · rw [tell_at, if_neg (by omega), if_neg (by omega), news_at]
    have := a4 t' h0 h1
    split
    · exact this
    · rw [if_neg (by omega)]
      split <;> omega
  · rw [tell_o (by omega), tell_o (by omega), tell_o (by omega), tell_at, tell_at, news_o (by omega), news_o (by omega), if_neg (c := 9 = 8 ∧ _) (by omega), if_neg (c := 8 = 9 ∧ _) (by omega)]
    have := a5 p' t' h0 h1 h2 h3
    by_cases q : p' = p ∧ t' = t
    · rw [if_pos ⟨rfl, q⟩, if_pos ⟨rfl, q⟩]
      obtain ⟨rfl, rfl⟩ := q
      omega
    · rw [if_neg (fun g => q g.2), if_neg (fun g => q g.2)]
      exact this
theorem wi_wayT {S : MS} {C : MC} {D : Int} {W : MW} (hS : SI S) (hC : CI S C) (hW : WI S D W) {w t : Int} (hw0 : 0 ≤ w) (hw : w < S 0 3) (ht0 : 0 ≤ t) (ht : t < S 0 1) : WI S D (wayT S C w W t) := by
  have h1 := hS.2.2.2.2.2.2.2.2.2.2.2.2.2.1 w hw0 hw
  unfold wayT
  split
  · exact hW
  · rename_i hb
    have hb : wayB S C w W t = true := by simpa using hb
    have hb := of_decide_eq_true hb
    split
    · exact wi_hear hS hC hW h1.2.1.1 h1.2.1.2 h1.1.1 h1.1.2 ht0 ht hb.2.2.1
    · split
      · exact hW
      · have hn := next_bd (W 1 0 0)
        split
        · exact wi_hear hS hC (wi_num hW hn.1 hn.2) h1.2.1.1 h1.2.1.2 h1.1.1 h1.1.2 ht0 ht (by rw [wp_o (by omega)]; exact hb.2.2.1)
        · exact wi_num hW hn.1 hn.2
theorem wi_wayL {S : MS} {C : MC} {D : Int} (hS : SI S) (hC : CI S C) {w : Int} (hw0 : 0 ≤ w) (hw : w < S 0 3) : ∀ (n : Nat) (t : Int) (W : MW), WI S D W → 0 ≤ t → t + n ≤ S 0 1 → WI S D (wayL S C w n t W)
  | 0, _, _, h, _, _ => h
  | n + 1, t, W, h, h0, h1 => wi_wayL hS hC hw0 hw n (t + 1) _ (wi_wayT hS hC h hw0 hw h0 (by omega)) (by omega) (by omega)
theorem wi_wayA {S : MS} {C : MC} {D : Int} (hS : SI S) (hC : CI S C) : ∀ (n : Nat) (w : Int) (W : MW), WI S D W → 0 ≤ w → w + n ≤ S 0 3 → WI S D (wayA S C n w W)
  | 0, _, _, h, _, _ => h
  | n + 1, w, W, h, h0, h1 => wi_wayA hS hC n (w + 1) _ (wi_wayL hS hC h0 (by omega) _ 0 W h (Int.le_refl _) (by have := hS.2.1; omega)) (by omega) (by omega)
theorem wi_telT {S : MS} {C : MC} {D : Int} {W : MW} (hS : SI S) (hW : WI S D W) {l : Int} (hl0 : 0 ≤ l) (hl : l < S 0 4) (hi : W 3 0 0 < 12 * D) : WI S D (telT S C l W) ∧ telT S C l W 3 0 0 ≤ W 3 0 0 + 1 := by
  have h1 := hS.2.2.2.2.2.2.2.2.2.2.2.2.2.2.1 l hl0 hl
  unfold telT
  split
  · split
    · exact ⟨wi_idle hW (by have := hW.2.2.2.1; omega) (by omega), by rw [wp_eq]; omega⟩
    · rename_i hb
      exact ⟨wi_tell hS hW h1.1.1 h1.1.2 h1.2.1.1 h1.2.1.2 (fun g => hb (Or.inl g)), by rw [tell_o (by omega)]; omega⟩
  · exact ⟨hW, by omega⟩
theorem wi_telA {S : MS} {C : MC} {D : Int} (hS : SI S) : ∀ (n : Nat) (l : Int) (W : MW), WI S D W → 0 ≤ l → l + n ≤ S 0 4 → W 3 0 0 + n ≤ 12 * D → WI S D (telA S C n l W)
  | 0, _, _, h, _, _, _ => h
  | n + 1, l, W, h, h0, h1, h2 => by
    have h3 := wi_telT (C := C) hS h h0 (show l < S 0 4 by omega) (by omega)
    exact wi_telA hS n (l + 1) _ h3.1 (by omega) (by omega) (by omega)
/-- what is seen, for those of a set -/
def seeQ (S : MS) (W : MW) (Q : Int → Int → Bool) : MW := fun a p t => if Q p t = true ∧ W 5 p t = -1 ∧ S 4 t = W 0 0 0 then gain W p t (S 5 t) (-2) a p t else W a p t
def seeStep (S : MS) (W : MW) (p t : Int) : MW := if S 4 t = W 0 0 0 ∧ W 5 p t = -1 then gain W p t (S 5 t) (-2) else W
theorem seeQ_00 {S : MS} {W : MW} {Q : Int → Int → Bool} {a : Nat} {p t : Int} (h : a < 5 ∨ 7 < a) : seeQ S W Q a p t = W a p t := by
  unfold seeQ
  split
  · rw [gain_o h]
  · rfl
theorem seeQ_no {S : MS} {W : MW} {Q : Int → Int → Bool} (h : ∀ p t, Q p t = true → ¬ (W 5 p t = -1 ∧ S 4 t = W 0 0 0)) : seeQ S W Q = W := by
  funext a p t
  unfold seeQ
  split
  · rename_i g
    exact absurd g.2 (h p t g.1)
  · rfl
theorem seeQ_congr {S : MS} {W : MW} {Q Q' : Int → Int → Bool} (h : ∀ p t, W 5 p t = -1 → S 4 t = W 0 0 0 → Q p t = Q' p t) : seeQ S W Q = seeQ S W Q' := by
  funext a p t
  unfold seeQ
  by_cases q : W 5 p t = -1 ∧ S 4 t = W 0 0 0
  · rw [h p t q.1 q.2]
  · rw [if_neg (fun g => q g.2), if_neg (fun g => q g.2)]
theorem seeQ_step {S : MS} {W : MW} {Q : Int → Int → Bool} {p0 t0 : Int} (h5 : S 5 t0 ≠ -1) : seeStep S (seeQ S W Q) p0 t0 = seeQ S W (fun p t => Q p t || decide (p = p0 ∧ t = t0)) := by
  funext a p t
  unfold seeStep
  rw [seeQ_00 (a := 0) (by omega)]
  by_cases q0 : p = p0 ∧ t = t0
  · obtain ⟨rfl, rfl⟩ := q0
    have e1 : seeQ S W (fun p' t' => Q p' t' || decide (p' = p ∧ t' = t)) a p t = if W 5 p t = -1 ∧ S 4 t = W 0 0 0 then gain W p t (S 5 t) (-2) a p t else W a p t := by
      unfold seeQ
      simp
    rw [e1]
    by_cases q : W 5 p t = -1 ∧ S 4 t = W 0 0 0
    · rw [if_pos q]
      by_cases c : Q p t = true
      · have e2 : seeQ S W Q 5 p t = S 5 t := by unfold seeQ; rw [if_pos ⟨c, q⟩, gain_5, if_pos ⟨rfl, rfl⟩]
        rw [if_neg (by rw [e2]; exact fun g => h5 g.2)]
        unfold seeQ
        rw [if_pos ⟨c, q⟩]
      · have e2 : ∀ a, seeQ S W Q a p t = W a p t := fun a => by unfold seeQ; rw [if_neg (fun g => c g.1)]
        rw [if_pos ⟨q.2, by rw [e2]; exact q.1⟩, gain_at, gain_at, if_pos (c := p = p ∧ t = t) ⟨rfl, rfl⟩, if_pos (c := p = p ∧ t = t) ⟨rfl, rfl⟩, e2, seeQ_00 (by omega)]
    · rw [if_neg q]
      have e2 : ∀ a, seeQ S W Q a p t = W a p t := fun a => by unfold seeQ; rw [if_neg (fun g => q g.2)]
      rw [if_neg (by rw [e2]; exact fun g => q ⟨g.2, g.1⟩), e2]
  · have e1 : seeQ S W (fun p' t' => Q p' t' || decide (p' = p0 ∧ t' = t0)) a p t = seeQ S W Q a p t := by
      unfold seeQ
      simp [q0]
    rw [e1]
    split
    · rw [gain_at, if_neg q0]
    · rfl
def seeAll (S : MS) (C : MC) : Int → Int → Bool := fun p t => decide (0 ≤ p ∧ p < 7 ∧ 0 ≤ t ∧ t < S 0 1 ∧ C.2.2.2.2.2 t = true) && seeB S p t (S 0 2).toNat 0
theorem seeW_Q {S : MS} {C : MC} {W : MW} : seeW S C W = seeQ S W (seeAll S C) := by
  funext a p t
  unfold seeW seeQ
  have e : seeC S C W p t ↔ (seeAll S C p t = true ∧ W 5 p t = -1 ∧ S 4 t = W 0 0 0) := by
    unfold seeAll
    rw [Bool.and_eq_true, decide_eq_true_iff]
    constructor
    · rintro ⟨h1, h2, h3, h4, h5, h6, h7, h8⟩
      exact ⟨⟨⟨h1, h2, h3, h4, h5⟩, h7⟩, h8, h6⟩
    · rintro ⟨⟨⟨h1, h2, h3, h4, h5⟩, h7⟩, h8, h6⟩
      exact ⟨h1, h2, h3, h4, h5, h6, h7, h8⟩
  by_cases q : seeC S C W p t
  · rw [if_pos q, if_pos (e.mp q)]
  · rw [if_neg q, if_neg (fun g => q (e.mpr g))]
theorem seeB_iff {S : MS} {p t : Int} : ∀ (n : Nat) (k : Int), seeB S p t n k = true ↔ ∃ j : Nat, j < n ∧ S 6 (k + j) = p ∧ S 7 (k + j) = t
  | 0, k => by
    constructor
    · intro h; cases h
    · rintro ⟨j, h, _⟩; omega
  | n + 1, k => by
    show (decide (S 6 k = p ∧ S 7 k = t) || seeB S p t n (k + 1)) = true ↔ _
    rw [Bool.or_eq_true, decide_eq_true_iff, seeB_iff n (k + 1)]
    constructor
    · rintro (h | ⟨j, h1, h2⟩)
      · exact ⟨0, by omega, by rw [show k + ((0 : Nat) : Int) = k by omega]; exact h⟩
      · exact ⟨j + 1, by omega, by rw [show k + ((j + 1 : Nat) : Int) = k + 1 + j by omega]; exact h2⟩
    · rintro ⟨j, h1, h2⟩
      cases j with
      | zero => exact Or.inl (by rw [show k + ((0 : Nat) : Int) = k by omega] at h2; exact h2)
      | succ j => exact Or.inr ⟨j, by omega, by rw [show k + ((j + 1 : Nat) : Int) = k + 1 + j by omega] at h2; exact h2⟩
theorem wi_seeQ {S : MS} {D : Int} {W : MW} {Q : Int → Int → Bool} (hS : SI S) (hW : WI S D W) (hQ : ∀ p t, Q p t = true → 0 ≤ p ∧ p < S 0 0 ∧ 0 ≤ t ∧ t < S 0 1) : WI S D (seeQ S W Q) := by
  have hW' := hW
  obtain ⟨a0, a1, a2, a3, a4, a5⟩ := hW
  refine ⟨?_, ?_, ?_, ?_, fun t' h0 h1 => ?_, fun p' t' h0 h1 h2 h3 => ?_⟩
  · rw [seeQ_00 (by omega)]; exact a0
  · rw [seeQ_00 (by omega)]; exact a1
  · rw [seeQ_00 (by omega)]; exact a2
  · rw [seeQ_00 (by omega)]; exact a3
  · rw [seeQ_00 (by omega)]; exact a4 t' h0 h1
  · by_cases q : Q p' t' = true ∧ W 5 p' t' = -1 ∧ S 4 t' = W 0 0 0
    · have e : ∀ a, seeQ S W Q a p' t' = gain W p' t' (S 5 t') (-2) a p' t' := fun a => by unfold seeQ; rw [if_pos q]
      rw [e, e, e, e, e]
      have h5 := hQ p' t' q.1
      have h6 := hS.2.2.2.2.2.2.2.2.2.2.2.1 t' h5.2.2.1 h5.2.2.2
      exact (wi_gain hW' h5.1 h5.2.1 h5.2.2.1 h5.2.2.2 h6.2.1 h6.2.2 (Or.inl rfl)).2.2.2.2.2 p' t' h0 h1 h2 h3
    · have e : ∀ a, seeQ S W Q a p' t' = W a p' t' := fun a => by unfold seeQ; rw [if_neg q]
      rw [e, e, e, e, e]
      exact a5 p' t' h0 h1 h2 h3
theorem seeAll_in {S : MS} {C : MC} (hS : SI S) : ∀ p t, seeAll S C p t = true → 0 ≤ p ∧ p < S 0 0 ∧ 0 ≤ t ∧ t < S 0 1 := by
  intro p t h
  unfold seeAll at h
  rw [Bool.and_eq_true, decide_eq_true_iff, seeB_iff] at h
  obtain ⟨⟨h1, h2, h3, h4, h5⟩, j, h6, h7, h8⟩ := h
  have h9 := hS.2.2.1
  have h10 := hS.2.2.2.2.2.2.2.2.2.2.2.2.1 (0 + j) (by omega) (by omega)
  omega
theorem wi_seeW {S : MS} {C : MC} {D : Int} {W : MW} (hS : SI S) (hW : WI S D W) : WI S D (seeW S C W) := by
  rw [seeW_Q]
  exact wi_seeQ hS hW (seeAll_in hS)
theorem wayT_3 {S : MS} {C : MC} {w t : Int} {W : MW} : wayT S C w W t 3 0 0 = W 3 0 0 ∧ wayT S C w W t 0 0 0 = W 0 0 0 := by
  unfold wayT
  split
  · exact ⟨rfl, rfl⟩
  · split
    · exact ⟨by rw [hear_gain, gain_o (by omega)], by rw [hear_gain, gain_o (by omega)]⟩
    · split
      · exact ⟨rfl, rfl⟩
      · split
        · exact ⟨by rw [hear_gain, gain_o (by omega), wp_o (by omega)], by rw [hear_gain, gain_o (by omega), wp_o (by omega)]⟩
        · exact ⟨wp_o (by omega), wp_o (by omega)⟩
theorem wayL_3 {S : MS} {C : MC} {w : Int} : ∀ (n : Nat) (t : Int) (W : MW), wayL S C w n t W 3 0 0 = W 3 0 0 ∧ wayL S C w n t W 0 0 0 = W 0 0 0
  | 0, _, _ => ⟨rfl, rfl⟩
  | n + 1, t, W => by
    show wayL S C w n (t + 1) (wayT S C w W t) 3 0 0 = _ ∧ wayL S C w n (t + 1) (wayT S C w W t) 0 0 0 = _
    have h := wayL_3 (S := S) (C := C) (w := w) n (t + 1) (wayT S C w W t)
    have h2 := wayT_3 (S := S) (C := C) (w := w) (t := t) (W := W)
    exact ⟨h.1.trans h2.1, h.2.trans h2.2⟩
theorem wayA_3 {S : MS} {C : MC} : ∀ (n : Nat) (w : Int) (W : MW), wayA S C n w W 3 0 0 = W 3 0 0 ∧ wayA S C n w W 0 0 0 = W 0 0 0
  | 0, _, _ => ⟨rfl, rfl⟩
  | n + 1, w, W => by
    show wayA S C n (w + 1) (wayL S C w (S 0 1).toNat 0 W) 3 0 0 = _ ∧ wayA S C n (w + 1) (wayL S C w (S 0 1).toNat 0 W) 0 0 0 = _
    have h := wayA_3 (S := S) (C := C) n (w + 1) (wayL S C w (S 0 1).toNat 0 W)
    have h2 := wayL_3 (S := S) (C := C) (w := w) (S 0 1).toNat 0 W
    exact ⟨h.1.trans h2.1, h.2.trans h2.2⟩
theorem telT_0 {S : MS} {C : MC} {l : Int} {W : MW} : telT S C l W 0 0 0 = W 0 0 0 := by
  unfold telT
  split
  · split
    · exact wp_o (by omega)
    · exact tell_o (by omega)
  · rfl
theorem telA_0 {S : MS} {C : MC} : ∀ (n : Nat) (l : Int) (W : MW), telA S C n l W 0 0 0 = W 0 0 0
  | 0, _, _ => rfl
  | n + 1, l, W => (telA_0 n (l + 1) (telT S C l W)).trans telT_0
theorem wi_dayW {S : MS} {C : MC} {D : Int} {W : MW} (hS : SI S) (hC : CI S C) (hW : WI S D W) : WI S (D + 1) (dayW S C W) := by
  have h0 := hW.1
  have h1 : WI S D (wayA S C (S 0 3).toNat 0 (seeW S C W)) := wi_wayA hS hC _ 0 _ (wi_seeW hS hW) (Int.le_refl _) (by have := hS.2.2.2.1; omega)
  have h2 : wayA S C (S 0 3).toNat 0 (seeW S C W) 3 0 0 = W 3 0 0 := by rw [(wayA_3 _ _ _).1, seeW_Q, seeQ_00 (by omega)]
  have h4 := hS.2.2.2.2.1
  have h5 := hW.2.2.2.1
  have h3 : WI S (D + 1) (telA S C (S 0 4).toNat 0 (wayA S C (S 0 3).toNat 0 (seeW S C W))) := wi_telA hS _ 0 _ (WI_mono h1 (by omega)) (Int.le_refl _) (by omega) (by rw [h2]; omega)
  exact wi_day h3 (by omega) (by omega)
theorem dayW_0 {S : MS} {C : MC} {W : MW} : dayW S C W 0 0 0 = W 0 0 0 + 1 := by
  unfold dayW
  exact wp_eq
