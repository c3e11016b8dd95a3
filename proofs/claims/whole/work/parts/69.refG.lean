/-! THE REFERENCE: telling, a way, a day -/
theorem fact_congr {S : MS} {C : MC} {W W' : MW} {p t ap : Int} (h : ∀ (a : Nat) (p t : Int), a ≠ 2 → a ≠ 4 → W' a p t = W a p t) : factF S C W' p t ap = factF S C W p t ap := by
  funext i
  unfold factF manyF toldF
  rw [h 5 p t (by omega) (by omega), h 0 0 0 (by omega) (by omega), h 6 p t (by omega) (by omega)]
  have e1 : (fun p => decide (W' 5 p t ≠ -1)) = (fun p => decide (W 5 p t ≠ -1)) := by funext p; rw [h 5 p t (by omega) (by omega)]
  have e2 : (fun p => decide (W' 8 p t ≠ -2)) = (fun p => decide (W 8 p t ≠ -2)) := by funext p; rw [h 8 p t (by omega) (by omega)]
  rw [e1, e2]
theorem chW_congr {W W' : MW} {t : Int} (h5 : ∀ p, W' 5 p t = W 5 p t) (h7 : ∀ p, W' 7 p t = W 7 p t) : ∀ (n set : Nat) (p : Int), chW W' t n set p = chW W t n set p
  | 0, _, _ => rfl
  | n + 1, set, p => by
    unfold chW
    rw [h5 p, h7 p, chW_congr h5 h7 n]
theorem chain_congr {W W' : MW} {p t : Int} (h5 : ∀ p, W' 5 p t = W 5 p t) (h7 : ∀ p, W' 7 p t = W 7 p t) : chain W' p t = chain W p t := chW_congr h5 h7 8 0 p
theorem ffit_bd {S : MS} {C : MC} {W : MW} {p t : Int} : ∀ (n : Nat) (q : Int), ffit S C W p t n q = -1 ∨ (q ≤ ffit S C W p t n q ∧ ffit S C W p t n q < q + n ∧ W 8 (ffit S C W p t n q) t ≠ -2)
  | 0, q => Or.inl rfl
  | n + 1, q => by
    have e : ffit S C W p t (n + 1) q = if W 8 q t ≠ -2 ∧ fitB S C W p t (W 8 q t) (W 9 q t).toNat = true then q else ffit S C W p t n (q + 1) := rfl
    rw [e]
    split
    · rename_i h
      exact Or.inr ⟨Int.le_refl _, by omega, h.1⟩
    · rcases ffit_bd (S := S) (C := C) (W := W) (p := p) (t := t) n (q + 1) with h | h
      · exact Or.inl h
      · exact Or.inr ⟨by omega, by omega, h.2.2⟩
theorem fitOf_bd {S : MS} {C : MC} {W : MW} {p t : Int} (hS : SI S) : fitOf S C W p t = -1 ∨ (0 ≤ fitOf S C W p t ∧ fitOf S C W p t < S 0 0 ∧ W 8 (fitOf S C W p t) t ≠ -2) := by
  unfold fitOf
  split
  · exact Or.inl rfl
  · have := hS.1
    rcases ffit_bd (S := S) (C := C) (W := W) (p := p) (t := t) (men S) 0 with h | h
    · exact Or.inl h
    · refine Or.inr ⟨h.1, ?_, h.2.2⟩
      have := h.2.1
      unfold men at this ⊢
      omega
section REF
variable {ρ : Nat → Nat → Nat} {cs : Nat × Nat × Nat} {d : Nat}
theorem R_tells_end (hρ : RM ρ) {s p t D x4 : Int} {S : MS} {W : MW} {μ : Nat → Nat → Int} (hs0 : 0 ≤ s) (hs : s < 23) (hp0 : 0 ≤ p) (hp : p < 7) (ht0 : 0 ≤ t) (ht : t < 6) (hW : WI S D W) (h3 : WR μ s = W) : ∃ μ', FrW s μ μ' ∧ WR μ' s = wp (wp W 9 p t (chain W p t)) 8 p t (W 5 p t) ∧ am_E (d + 3) 202 116 [some (.inr (.inr 99)), some (.inl s), some (.inl p), some (.inl t), some (.inl x4)] [.inl ((sI s p t : Nat) : Int), .inr (.inr 129)] (SH, ρ, μ, cs) = some (some (.inl (if x4 = -1 then 0 else 1)), (SH, ρ, μ', cs)) := by
  have hch := fun d => R_chain (ρ := ρ) (cs := cs) (d := d) (μ := μ) hρ hs0 hs hp0 hp ht0 ht (by rw [h3]; exact wi_from hW ht0 ht)
  rw [h3] at hch
  have e5 : μ 125 (sI s p t) = W 5 p t := by rw [← h3]; exact wr_hats μ s ht0 ht hp0 hp
  refine ⟨am_up (am_up μ 129 (sI s p t) (chain W p t : Nat)) 128 (sI s p t) (W 5 p t), ?_, ?_, ?_⟩
  · refine frw_up (frw_up (frw_rf s μ) ?_) ?_ <;> (left; right; right; unfold sI; omega)
  · rw [wr_up_pH hs0 ht0 ht hp0 hp, wr_up_pC hs0 ht0 ht hp0 hp, h3]
  · by_cases q : x4 = -1
    · simp (disch := (first | omega | (simp (disch := omega) only [sr_up, wr_up_o]; omega))) only [e202_116, e202_123, e202_134, e202_144, ks_125, ks_128, ks_99, rm_hatsOf hρ, rm_printedHats hρ, Bool.false_eq_true, eq_self, isk_t, i20_t, w20_t, l23_t, b21_t, b22_t, w_t, bif_t, bif_f, bif_d, if_pos, if_neg, if_true, if_false, not_true_eq_false, not_false_eq_true, Option.bind_some, Option.toList_some, Option.toList_none, List.cons_append, List.nil_append, Int.toNat_natCast, Int.reduceToNat, up_eq, up_p, up_k, sN,  hch, R_slot, w20_s, i20_s, e5, ks_125, ks_128, ks_129, q ]
    · simp (disch := (first | omega | (simp (disch := omega) only [sr_up, wr_up_o]; omega))) only [e202_116, e202_123, e202_134, e202_144, ks_125, ks_128, ks_99, rm_hatsOf hρ, rm_printedHats hρ, Bool.false_eq_true, eq_self, isk_t, i20_t, w20_t, l23_t, b21_t, b22_t, w_t, bif_t, bif_f, bif_d, if_pos, if_neg, if_true, if_false, not_true_eq_false, not_false_eq_true, Option.bind_some, Option.toList_some, Option.toList_none, List.cons_append, List.nil_append, Int.toNat_natCast, Int.reduceToNat, up_eq, up_p, up_k, sN,  hch, R_slot, w20_s, i20_s, e5, ks_125, ks_128, ks_129 ]
theorem R_tells (hρ : RM ρ) {s p t b D : Int} {S : MS} {C : MC} {W : MW} {μ : Nat → Nat → Int} (hs0 : 0 ≤ s) (hs : s < 23) (hp0 : 0 ≤ p) (hp : p < S 0 0) (ht0 : 0 ≤ t) (ht1 : t < S 0 1) (hS : SI S) (hC : CI S C) (hD : D ≤ 20000) (hW : WI S D W) (h1 : SR μ = S) (h2 : CR μ b = C) (h3 : WR μ s = W) : ∃ μ', FrW s μ μ' ∧ WR μ' s = tellW S C W p t ∧ am_E (d + 6) 202 0 [some (.inr (.inr 99)), some (.inl s), some (.inl p), some (.inl t), none] [] (SH, ρ, μ, cs) = some (some (.inl (if fitOf S C W p t = -1 then 0 else 1)), (SH, ρ, μ', cs)) := by
  have b0 := hS.1
  have b1 := hS.2.1
  have ht : t < 6 := by omega
  obtain ⟨μ1, g1, g2⟩ : ∃ μ1, FrN μ μ1 ∧ ∀ lv, lv = [some (.inr (.inr 99)), some (.inl s), some (.inl p), some (.inl t), none] → am_E (d + 6) 202 0 lv [] (SH, ρ, μ, cs) = am_E (d + 6) 202 20 [some (.inr (.inr 99)), some (.inl s), some (.inl p), some (.inl t), none] [.inl (fitOf S C W p t)] (SH, ρ, μ1, cs) := by
    by_cases q : W 4 0 t = -2
    · obtain ⟨μ1, g1, g2⟩ := R_firstFit (ρ := ρ) (cs := cs) (d := d) (b := b) hρ hs0 hs hp0 hp ht0 ht hS hC hD hW h1 h2 h3
      refine ⟨μ1, g1, fun lv hlv => ?_⟩
      subst hlv
      have e : fitOf S C W p t = ffit S C W p t (men S) 0 := by unfold fitOf; rw [if_neg (fun g => g q)]
      rw [e]
      simp (disch := (first | omega | (simp (disch := omega) only [sr_up, wr_up_o]; omega))) only [e202_0, e202_6, ks_99, Bool.false_eq_true, eq_self, isk_t, i20_t, w20_t, l23_t, b21_t, b22_t, w_t, bif_t, bif_f, bif_d, if_pos, if_neg, if_true, if_false, not_true_eq_false, not_false_eq_true, Option.bind_some, Option.toList_some, Option.toList_none, List.cons_append, List.nil_append, Int.toNat_natCast, Int.reduceToNat, up_eq, up_p, up_k, sN,  R_isNews hρ, h3, q, g2 ]
    · refine ⟨μ, frn_rf μ, fun lv hlv => ?_⟩
      subst hlv
      have e : fitOf S C W p t = -1 := by unfold fitOf; rw [if_pos q]
      rw [e]
      simp (disch := (first | omega | (simp (disch := omega) only [sr_up, wr_up_o]; omega))) only [e202_0, e202_6, ks_99, Bool.false_eq_true, eq_self, isk_t, i20_t, w20_t, l23_t, b21_t, b22_t, w_t, bif_t, bif_f, bif_d, if_pos, if_neg, if_true, if_false, not_true_eq_false, not_false_eq_true, Option.bind_some, Option.toList_some, Option.toList_none, List.cons_append, List.nil_append, Int.toNat_natCast, Int.reduceToNat, up_eq, up_p, up_k, sN,  R_isNews hρ, h3, q ]
  rw [g2 _ rfl]
  have s1 : SR μ1 = S := (frn_SR g1).trans h1
  have c1 : CR μ1 b = C := (frn_CR g1 b).trans h2
  have w1 : WR μ1 s = W := (frn_WR g1).trans h3
  rcases fitOf_bd (S := S) (C := C) (W := W) (p := p) (t := t) hS with hf | ⟨f0, f1, f2⟩
  · obtain ⟨μ', k1, k2, k3⟩ := R_tells_end (ρ := ρ) (cs := cs) (d := d + 3) (x4 := -1) hρ hs0 hs hp0 (show p < 7 by omega) ht0 ht hW w1
    refine ⟨μ', frw_tr (frw_n g1) k1, ?_, ?_⟩
    · rw [k2]
      unfold tellW newsW
      rw [if_pos hf]
    · rw [hf]
      simp (disch := (first | omega | (simp (disch := omega) only [sr_up, wr_up_o]; omega))) only [e202_20, ks_121, ks_125, ks_129, ks_130, ks_99, rm_day hρ, rm_hatsOf hρ, rm_newsOn hρ, rm_printedChain hρ, Bool.false_eq_true, eq_self, isk_t, i20_t, w20_t, l23_t, b21_t, b22_t, w_t, bif_t, bif_f, bif_d, if_pos, if_neg, if_true, if_false, not_true_eq_false, not_false_eq_true, Option.bind_some, Option.toList_some, Option.toList_none, List.cons_append, List.nil_append, Int.toNat_natCast, Int.reduceToNat, up_eq, up_p, up_k, sN,  R_slot ]
      exact k3
  · have hWn : WI S D (newsW S C W p t) := wi_news hS hW ht0 ht1
    generalize hfe : fitOf S C W p t = f at f0 f1 f2 ⊢
    have bw := hW.2.2.2.2.2 p t hp0 (by omega) ht0 ht
    have bf := hW.2.2.2.2.2 f t f0 (by omega) ht0 ht
    have bd := hW.1
    have b2 := hW.2.2.1
    have hne : ¬ f = -1 := by omega
    have en : newsW S C W p t = wp (wp W 4 0 t (W 0 0 0)) 2 0 0 (min 99999 (W 2 0 0 + prtF S C W p t)) := by unfold newsW; rw [if_neg (by rw [hfe]; exact hne)]
    have ep : prtF S C W p t = wthn (lawV S (factF S C W p t (Int.natAbs (W 5 p t - W 8 f t))) 2) 999 1 := by rw [prt_wth, hfe]
    have pb := prt_bd (S := S) (C := C) (W := W) (p := p) (t := t)
    generalize hap : ((W 5 p t - W 8 f t).natAbs : Int) = ap at ep
    have hap2 : am_iabs (W 5 p t - W 8 f t) = ap := by rw [iabs_t (by omega) (by omega), hap]
    have hap0 : 0 ≤ ap ∧ ap ≤ 200 := by omega
    have wa : WR (am_up μ1 130 (sJ s t) (W 0 0 0)) s = wp W 4 0 t (W 0 0 0) := by rw [wr_up_news hs0 ht0 ht, w1]
    have fra : FrW s μ1 (am_up μ1 130 (sJ s t) (W 0 0 0)) := frw_up (frw_rf s μ1) (by left; right; left; unfold sJ; omega)
    have fa : factF S C (wp W 4 0 t (W 0 0 0)) p t ap = factF S C W p t ap := fact_congr (fun a p t h2 h4 => wp_o h4)
    have hWa : WI S D (wp W 4 0 t (W 0 0 0)) := wi_newsday hW ht0 ht1
    have hfb := fact_bd hS hC hD hW hp0 hp ht0 ht hap0.1 hap0.2
    generalize hμa : am_up μ1 130 (sJ s t) (W 0 0 0) = μa at wa fra
    have sa : SR μa = S := (frw_SR fra).trans s1
    have ca : CR μa b = C := (frw_CR fra b).trans c1
    have hca := fun d => R_calls (ρ := ρ) (cs := cs) (d := d) (b := b) (μ := μa) (ap := ap) hρ hs0 hs hp0 (show p < 7 by omega) ht0 ht (by rw [sa]; exact hS) hD (by rw [sa, wa]; exact hWa)
    rw [sa, ca, wa, fa] at hca
    generalize hF : factF S C W p t ap = F at hca hfb ep
    have n1 := nam_FrN μa F
    obtain ⟨μc, g3, g4⟩ := R_within (μ := nam μa F) (ρ := ρ) (cs := cs) (d := d + 2) (f := F) (r := 2) (most := 999) (plain := 1) hρ (by rw [frn_SR n1, sa]; exact hS) (by omega) (by omega) (by omega) (by omega) hfb (fun i h0 h1 => nam_at μa F h0 h1)
    rw [frn_SR n1, sa, ← ep] at g4
    have n2 : FrN μa μc := frn_tr n1 g3
    have wd : WR (am_up μc 123 s.toNat (min 99999 (W 2 0 0 + prtF S C W p t))) s = newsW S C W p t := by rw [wr_up_space, frn_WR n2, wa, en]
    obtain ⟨μ', k1, k2, k3⟩ := R_tells_end (ρ := ρ) (cs := cs) (d := d + 3) (x4 := f) hρ hs0 hs hp0 (show p < 7 by omega) ht0 ht hWn wd
    refine ⟨μ', frw_tr (frw_n g1) (frw_tr fra (frw_tr (frw_n n2) (frw_tr (frw_up (frw_rf s μc) (by left; left; omega)) k1))), ?_, ?_⟩
    · rw [k2, chain_congr (W := W) (fun p => news_o (by omega)) (fun p => news_o (by omega)), news_o (by omega)]
      all_goals rfl
    · have e0 : μ1 121 s.toNat = W 0 0 0 := by rw [wr_day μ1 s, w1]
      have e5 : μa 125 (sI s p t) = W 5 p t := by rw [wr_hats μa s ht0 ht hp0 (by omega), wa, wp_o (by omega)]
      have e8 : μa 128 (sI s f t) = W 8 f t := by rw [wr_pH μa s ht0 ht f0 (by omega), wa, wp_o (by omega)]
      have e2 : nam μa F 123 s.toNat = W 2 0 0 := by rw [wr_space (nam μa F) s, frn_WR n1, wa, wp_o (by omega)]
      rw [if_neg hne] at k3 ⊢
      simp (disch := (first | omega | (simp (disch := omega) only [sr_up, wr_up_o]; omega))) only [e202_20, e202_59, e202_71, e202_79, e202_101, ks_121, ks_123, ks_125, ks_128, ks_129, ks_130, ks_99, rm_day hρ, rm_hatsOf hρ, rm_newsOn hρ, rm_printedChain hρ, rm_printedHats hρ, rm_space hρ, Bool.false_eq_true, eq_self, isk_t, i20_t, w20_t, l23_t, b21_t, b22_t, w_t, bif_t, bif_f, bif_d, if_pos, if_neg, if_true, if_false, not_true_eq_false, not_false_eq_true, Option.bind_some, Option.toList_some, Option.toList_none, List.cons_append, List.nil_append, Int.toNat_natCast, Int.reduceToNat, up_eq, up_p, up_k, sN,  R_slot, i20_s, sJ_d, e0, hμa, e5, e8, hap2, hca, e2, g4, imin_t, ks_125, ks_128, ks_123, ks_129 ]
      exact k3
def seeK (S : MS) (t : Int) : Nat → Int → MW → MW
  | 0, _, W => W
  | n + 1, k, W => seeK S t n (k + 1) (if S 7 k = t then seeStep S W (S 6 k) t else W)
def seeT (S : MS) : Nat → Int → MW → MW
  | 0, _, W => W
  | n + 1, t, W => seeT S n (t + 1) (seeK S t (S 0 2).toNat 0 W)
theorem R_talks_loop (hρ : RM ρ) {s w b D : Int} {S : MS} {C : MC} (hs0 : 0 ≤ s) (hs : s < 23) (hw0 : 0 ≤ w) (hw : w < S 0 3) (hS : SI S) (hC : CI S C) (hD : D ≤ 20000) (hA : ∀ t, C.2.2.2.2.2 t = true) (hF : C.2.2.2.1 (S 8 w) = false) : ∀ (j : Nat) (t : Int) (W : MW) (μ : Nat → Nat → Int), WI S D W → SR μ = S → CR μ b = C → WR μ s = W → 0 ≤ μ 99 53 → μ 99 53 < 128 → 0 ≤ t → t + j = S 0 1 → ∃ μ', FrW s μ μ' ∧ WR μ' s = wayL S C w j t W ∧ am_E (d + 6) 205 19 [some (.inr (.inr 99)), some (.inl s), some (.inl w), some (.inl b), some (.inl (S 8 w)), some (.inl (S 9 w)), some (.inl t), none] [] (SH, ρ, μ, cs) = some (none, (SH, ρ, μ', cs)) := by
  intro j
  induction j with
  | zero =>
    intro t W μ hW h1 h2 h3 hh0 hh h4 h5
    have hN : μ 101 1 = S 0 1 := by rw [← h1]; rfl
    refine ⟨μ, frw_rf s μ, h3, ?_⟩
    rw [e205_19]; simp (disch := (first | omega | (simp (disch := omega) only [sr_up, wr_up_o]; omega))) only [ks_101, ks_99, rm_number hρ, Bool.false_eq_true, eq_self, isk_t, i20_t, w20_t, l23_t, b21_t, b22_t, w_t, bif_t, bif_f, bif_d, if_pos, if_neg, if_true, if_false, not_true_eq_false, not_false_eq_true, Option.bind_some, Option.toList_some, Option.toList_none, List.cons_append, List.nil_append, Int.toNat_natCast, Int.reduceToNat, up_eq, up_p, up_k, sN,  hN ]
  | succ j ih =>
    intro t W μ hW h1 h2 h3 hh0 hh h4 h5
    have hN : μ 101 1 = S 0 1 := by rw [← h1]; rfl
    have b0 := hS.1
    have b1 := hS.2.1
    have b3 := hS.2.2.2.1
    have bw := hS.2.2.2.2.2.2.2.2.2.2.2.2.2.1 w hw0 hw
    have bf := hW.2.2.2.2.2 (S 8 w) t bw.1.1 (by omega) h4 (by omega)
    have bd := hW.1
    have hsh := fun d => R_isShut (ρ := ρ) (cs := cs) (d := d) (μ := μ) (b := b) hρ bw.1.1 (show S 8 w < 7 by omega) hh0 hh
    rw [h2, hF] at hsh
    have e0 : μ 121 s.toNat = W 0 0 0 := by rw [wr_day μ s, h3]
    have e6 : μ 126 (sI s (S 8 w) t) = W 6 (S 8 w) t := by rw [wr_since μ s h4 (by omega) bw.1.1 (by omega), h3]
    have ed : μ 111 w.toNat = S 10 w := by rw [← h1]; rfl
    have el : wayL S C w (j + 1) t W = wayL S C w j (t + 1) (wayT S C w W t) := rfl
    rw [el]
    by_cases hb : wayB S C w W t = true
    · have hb2 := of_decide_eq_true hb
      obtain ⟨μ1, g1, g2, g3⟩ := R_doesTalk (ρ := ρ) (cs := cs) (d := d + 5) (μ := μ) (b := b) hρ hs0 hs (by rw [h1]; exact hS)
      rw [h1, h2, h3] at g3
      rw [h2, h3] at g2
      have et := wayT_talk hb
      by_cases qt : talkB S C W = true
      · rw [if_pos qt] at g3 et
        have hWt : WI S D (talkW C W) := by
          unfold talkW
          have hn := next_bd (W 1 0 0)
          split
          · exact hW
          · split
            · exact hW
            · exact wi_num hW hn.1 hn.2
        have s1 : SR μ1 = S := (frw_SR g1).trans h1
        have c1 : CR μ1 b = C := (frw_CR g1 b).trans h2
        obtain ⟨μ2, g4, g5, g6⟩ := R_hearsNow (ρ := ρ) (cs := cs) (d := d) (b := b) hρ hs0 hs bw.2.1.1 (show S 9 w < 7 by omega) bw.1.1 bw.1.2 h4 (show t < 6 by omega) hS hC hD hWt s1 c1 g2
        have g7 := frw_tr g1 g4
        obtain ⟨μ', k1, k2, k3⟩ := ih (t + 1) (wayT S C w W t) μ2 (wi_wayT hS hC hW hw0 hw h4 (by omega)) ((frw_SR g7).trans h1) ((frw_CR g7 b).trans h2) (by rw [g5, et]) (by rw [g7 99 53 (by omega) (by omega)]; exact hh0) (by rw [g7 99 53 (by omega) (by omega)]; exact hh) (by omega) (by omega)
        refine ⟨μ', frw_tr g7 k1, k2, ?_⟩
        rw [e205_19]; simp (disch := (first | omega | (simp (disch := omega) only [sr_up, wr_up_o]; omega))) only [e205_36, e205_48, e205_69, e205_89, e205_110, e205_124, ks_101, ks_111, ks_121, ks_126, ks_99, rm_day hρ, rm_number hρ, rm_sinceOf hρ, rm_wayDays hρ, Bool.false_eq_true, eq_self, isk_t, i20_t, w20_t, l23_t, b21_t, b22_t, w_t, bif_t, bif_f, bif_d, if_pos, if_neg, if_true, if_false, not_true_eq_false, not_false_eq_true, Option.bind_some, Option.toList_some, Option.toList_none, List.cons_append, List.nil_append, Int.toNat_natCast, Int.reduceToNat, up_eq, up_p, up_k, sN,  hN, hsh, R_doesHave hρ, h3, hb2.2.2.1, R_slot, i20_s, e0, e6, ed, hb2.2.2.2.2, g3, g6, ks_126, Bool.false_eq_true ]
        exact am_E_le (am_lq_of _ _ (by simp [am_leb])) k3
      · rw [if_neg qt] at g3 et
        obtain ⟨μ', k1, k2, k3⟩ := ih (t + 1) (wayT S C w W t) μ1 (wi_wayT hS hC hW hw0 hw h4 (by omega)) ((frw_SR g1).trans h1) ((frw_CR g1 b).trans h2) (by rw [g2, et]) (by rw [g1 99 53 (by omega) (by omega)]; exact hh0) (by rw [g1 99 53 (by omega) (by omega)]; exact hh) (by omega) (by omega)
        refine ⟨μ', frw_tr g1 k1, k2, ?_⟩
        rw [e205_19]; simp (disch := (first | omega | (simp (disch := omega) only [sr_up, wr_up_o]; omega))) only [e205_36, e205_48, e205_69, e205_89, e205_110, e205_124, ks_101, ks_111, ks_121, ks_126, ks_99, rm_day hρ, rm_number hρ, rm_sinceOf hρ, rm_wayDays hρ, Bool.false_eq_true, eq_self, isk_t, i20_t, w20_t, l23_t, b21_t, b22_t, w_t, bif_t, bif_f, bif_d, if_pos, if_neg, if_true, if_false, not_true_eq_false, not_false_eq_true, Option.bind_some, Option.toList_some, Option.toList_none, List.cons_append, List.nil_append, Int.toNat_natCast, Int.reduceToNat, up_eq, up_p, up_k, sN,  hN, hsh, R_doesHave hρ, h3, hb2.2.2.1, R_slot, i20_s, e0, e6, ed, hb2.2.2.2.2, g3, ks_126, Bool.false_eq_true ]
        exact am_E_le (am_lq_of _ _ (by simp [am_leb])) k3
    · have et : wayT S C w W t = W := by unfold wayT; rw [if_pos (by simpa using hb)]
      rw [et]
      obtain ⟨μ', k1, k2, k3⟩ := ih (t + 1) W μ hW h1 h2 h3 hh0 hh (by omega) (by omega)
      refine ⟨μ', k1, k2, ?_⟩
      have hb3 : ¬ (C.2.2.2.1 (S 8 w) = false ∧ C.2.2.2.2.2 t = true ∧ W 5 (S 8 w) t ≠ -1 ∧ S 10 w ≤ W 0 0 0 - W 6 (S 8 w) t ∧ W 5 (S 9 w) t = -1) := fun g => hb (decide_eq_true g)
      by_cases q1 : W 5 (S 8 w) t = -1
      · rw [e205_19]; simp (disch := (first | omega | (simp (disch := omega) only [sr_up, wr_up_o]; omega))) only [e205_36, e205_48, e205_124, ks_101, ks_121, ks_126, ks_99, rm_day hρ, rm_number hρ, rm_sinceOf hρ, Bool.false_eq_true, eq_self, isk_t, i20_t, w20_t, l23_t, b21_t, b22_t, w_t, bif_t, bif_f, bif_d, if_pos, if_neg, if_true, if_false, not_true_eq_false, not_false_eq_true, Option.bind_some, Option.toList_some, Option.toList_none, List.cons_append, List.nil_append, Int.toNat_natCast, Int.reduceToNat, up_eq, up_p, up_k, sN,  hN, hsh, R_doesHave hρ, h3, q1, ks_126, Bool.false_eq_true ]
        exact am_E_le (am_lq_of _ _ (by simp [am_leb])) k3
      · by_cases q2 : S 10 w ≤ W 0 0 0 - W 6 (S 8 w) t
        · have q3 : ¬ W 5 (S 9 w) t = -1 := fun g => hb3 ⟨hF, hA t, q1, q2, g⟩
          rw [e205_19]; simp (disch := (first | omega | (simp (disch := omega) only [sr_up, wr_up_o]; omega))) only [e205_36, e205_48, e205_69, e205_89, e205_124, ks_101, ks_111, ks_121, ks_126, ks_99, rm_day hρ, rm_number hρ, rm_sinceOf hρ, rm_wayDays hρ, Bool.false_eq_true, eq_self, isk_t, i20_t, w20_t, l23_t, b21_t, b22_t, w_t, bif_t, bif_f, bif_d, if_pos, if_neg, if_true, if_false, not_true_eq_false, not_false_eq_true, Option.bind_some, Option.toList_some, Option.toList_none, List.cons_append, List.nil_append, Int.toNat_natCast, Int.reduceToNat, up_eq, up_p, up_k, sN,  hN, hsh, R_doesHave hρ, h3, q1, q3, R_slot, i20_s, e0, e6, ed, ks_126, Bool.false_eq_true ]
          exact am_E_le (am_lq_of _ _ (by simp [am_leb])) k3
        · rw [e205_19]; simp (disch := (first | omega | (simp (disch := omega) only [sr_up, wr_up_o]; omega))) only [e205_36, e205_48, e205_69, e205_124, ks_101, ks_111, ks_121, ks_126, ks_99, rm_day hρ, rm_number hρ, rm_sinceOf hρ, rm_wayDays hρ, Bool.false_eq_true, eq_self, isk_t, i20_t, w20_t, l23_t, b21_t, b22_t, w_t, bif_t, bif_f, bif_d, if_pos, if_neg, if_true, if_false, not_true_eq_false, not_false_eq_true, Option.bind_some, Option.toList_some, Option.toList_none, List.cons_append, List.nil_append, Int.toNat_natCast, Int.reduceToNat, up_eq, up_p, up_k, sN,  hN, hsh, R_doesHave hρ, h3, q1, R_slot, i20_s, e0, e6, ed, ks_126, Bool.false_eq_true ]
          exact am_E_le (am_lq_of _ _ (by simp [am_leb])) k3
theorem wayL_shut {S : MS} {C : MC} {w : Int} (h : C.2.2.2.1 (S 8 w) = true) : ∀ (n : Nat) (t : Int) (W : MW), wayL S C w n t W = W
  | 0, _, _ => rfl
  | n + 1, t, W => by
    show wayL S C w n (t + 1) (wayT S C w W t) = W
    have e : wayT S C w W t = W := by
      unfold wayT wayB
      rw [if_pos (by simp [h])]
    rw [e]
    exact wayL_shut h n (t + 1) W
theorem R_talks (hρ : RM ρ) {s w b D : Int} {S : MS} {C : MC} {W : MW} {μ : Nat → Nat → Int} (hs0 : 0 ≤ s) (hs : s < 23) (hw0 : 0 ≤ w) (hw : w < S 0 3) (hS : SI S) (hC : CI S C) (hD : D ≤ 20000) (hW : WI S D W) (hA : ∀ t, C.2.2.2.2.2 t = true) (h1 : SR μ = S) (h2 : CR μ b = C) (h3 : WR μ s = W) (hh0 : 0 ≤ μ 99 53) (hh : μ 99 53 < 128) : ∃ μ', FrW s μ μ' ∧ WR μ' s = wayL S C w (S 0 1).toNat 0 W ∧ am_E (d + 6) 205 0 [some (.inr (.inr 99)), some (.inl s), some (.inl w), some (.inl b), none, none, none, none] [] (SH, ρ, μ, cs) = some (none, (SH, ρ, μ', cs)) := by
  have b0 := hS.1
  have b1 := hS.2.1
  have b3 := hS.2.2.2.1
  have bw := hS.2.2.2.2.2.2.2.2.2.2.2.2.2.1 w hw0 hw
  have e8 : μ 109 w.toNat = S 8 w := by rw [← h1]; rfl
  have e9 : μ 110 w.toNat = S 9 w := by rw [← h1]; rfl
  by_cases q : C.2.2.2.1 (S 8 w) = true
  · have hsh := fun d => R_isShut (ρ := ρ) (cs := cs) (d := d) (μ := μ) (b := b) hρ bw.1.1 (show S 8 w < 7 by omega) hh0 hh
    rw [h2, q] at hsh
    have hN : μ 101 1 = S 0 1 := by rw [← h1]; rfl
    refine ⟨μ, frw_rf s μ, by rw [h3, wayL_shut q], ?_⟩
    by_cases qn : S 0 1 ≤ 0
    · simp (disch := (first | omega | (simp (disch := omega) only [sr_up, wr_up_o]; omega))) only [e205_0, e205_19, e205_36, ks_101, ks_109, ks_110, ks_99, rm_number hρ, rm_wayFrom hρ, rm_wayTo hρ, Bool.false_eq_true, eq_self, isk_t, i20_t, w20_t, l23_t, b21_t, b22_t, w_t, bif_t, bif_f, bif_d, if_pos, if_neg, if_true, if_false, not_true_eq_false, not_false_eq_true, Option.bind_some, Option.toList_some, Option.toList_none, List.cons_append, List.nil_append, Int.toNat_natCast, Int.reduceToNat, up_eq, up_p, up_k, sN,  e8, e9, hN, hsh ]
    · simp (disch := (first | omega | (simp (disch := omega) only [sr_up, wr_up_o]; omega))) only [e205_0, e205_19, e205_36, ks_101, ks_109, ks_110, ks_99, rm_number hρ, rm_wayFrom hρ, rm_wayTo hρ, Bool.false_eq_true, eq_self, isk_t, i20_t, w20_t, l23_t, b21_t, b22_t, w_t, bif_t, bif_f, bif_d, if_pos, if_neg, if_true, if_false, not_true_eq_false, not_false_eq_true, Option.bind_some, Option.toList_some, Option.toList_none, List.cons_append, List.nil_append, Int.toNat_natCast, Int.reduceToNat, up_eq, up_p, up_k, sN,  e8, e9, hN, hsh ]
  · obtain ⟨μ', k1, k2, k3⟩ := R_talks_loop (ρ := ρ) (cs := cs) (d := d) (b := b) hρ hs0 hs hw0 hw hS hC hD hA (by simpa using q) (S 0 1).toNat 0 W μ hW h1 h2 h3 hh0 hh (Int.le_refl _) (by omega)
    refine ⟨μ', k1, k2, ?_⟩
    simp (disch := (first | omega | (simp (disch := omega) only [sr_up, wr_up_o]; omega))) only [e205_0, ks_109, ks_110, ks_99, rm_wayFrom hρ, rm_wayTo hρ, Bool.false_eq_true, eq_self, isk_t, i20_t, w20_t, l23_t, b21_t, b22_t, w_t, bif_t, bif_f, bif_d, if_pos, if_neg, if_true, if_false, not_true_eq_false, not_false_eq_true, Option.bind_some, Option.toList_some, Option.toList_none, List.cons_append, List.nil_append, Int.toNat_natCast, Int.reduceToNat, up_eq, up_p, up_k, sN,  e8, e9 ]
    exact k3
end REF
