/-! THE LAW'S BEGINNING, AND THE CLAIM -/
theorem am_Y_ad3 {ad ad' : Nat → Nat} {A : Nat → Prop} {s : State} {H : Heap} (hY : am_Y ad A s H) (ha : ∀ q, 1000003 ≤ q → ad' q = ad q) : am_Y ad' A s H := by
  obtain ⟨y1, y2, y3, y4, y5⟩ := hY
  have e1 : (fun i => ad' (1000003 + i)) = fun i => ad (1000003 + i) := by
    funext i
    exact ha _ (by omega)
  have e2 : (fun i => ad' (1000005 + i)) = fun i => ad (1000005 + i) := by
    funext i
    exact ha _ (by omega)
  exact ⟨by rw [ha _ (by decide)]; exact y1, by rw [ha _ (by decide)]; exact y2, by rw [e1, e2]; exact y3, y4, y5⟩
theorem zb_μR (p j : Nat) : am_R32 (zb_μ p j) := by
  unfold zb_μ
  split
  · match j with
    | 0 => exact ⟨by decide, by decide⟩
    | 1 => exact ⟨by decide, by decide⟩
    | 2 => exact ⟨by decide, by decide⟩
    | 3 => exact ⟨by decide, by decide⟩
    | j + 4 => exact am_R0
  · match j with
    | 0 => exact ⟨by decide, by decide⟩
    | 1 => exact ⟨by decide, by decide⟩
    | 2 => exact ⟨by decide, by decide⟩
    | 3 => exact ⟨by decide, by decide⟩
    | j + 4 => exact am_R0
theorem zb_G : am_G zb_h0 := ⟨Nat.zero_le _, fun p kl h => (by cases h), fun p j _ => zb_μR p j⟩
section CWH
variable {p : Program} {e : Env} {s : State} {mt : MethodId} {below : List Frame} {meth : Method} {c : Code} {l : Launch} {D : va_G} {cy : Nat → ClassId} {A : Nat → Prop} {adx : Nat → Nat} {b L : Nat} {xs : Nat → Int32} {H : Heap} {locs : List Loc}
/-- the heap at first, with a row of the class in the script's place -/
theorem zb_Rp (hK : va_K D vwCl (am_tys cy) s) (hA : ∀ q, s.heap.size ≤ q → A q) (z1 : va_Z "SecondTelling" "SETTING_AT_FIRST" "[I" (.ref (adx 1000001)) A s s.heap) (z2 : va_Z "SecondTelling" "SETTING_MOST" "[I" (.ref (adx 1000002)) A s s.heap)
    (T1 : va_T .int (adx 1000001) 4 (fun j => .int (am_SA.getD j 0)) A s s.heap) (T2 : va_T .int (adx 1000002) 4 (fun j => .int (am_SM.getD j 0)) A s s.heap)
    (n1 : va_Nw (.fieldLinkNest "SecondTelling$Story" 48 "SecondTelling" "SETTING_AT_FIRST" "[I" "SecondTelling") s) (n2 : va_Nw (.fieldLinkNest "SecondTelling$Reader" 159 "SecondTelling" "SETTING_MOST" "[I" "SecondTelling") s) (yy : am_Y adx A s s.heap) :
    am_Rp D cy (fun q => if q = 1000000 then adx 1000001 else adx q) A s zb_h0 s.heap [] := by
  refine ⟨hK, fun k q h => (by cases h), ⟨fun i j p q h => (by cases h), fun k q h => (by cases h)⟩, va_S.rf, hA, zb_G, ?_⟩
  refine ⟨z1, z2, fun k hk => ?_, n1, n2, am_Y_ad3 yy (fun q hq => if_neg (by omega))⟩
  match k, hk with
  | 0, _ =>
    refine va_T_ext T1 (fun j hj => ?_)
    have hj : j < 4 := hj
    rcases (show j = 0 ∨ j = 1 ∨ j = 2 ∨ j = 3 by omega) with rfl | rfl | rfl | rfl <;> rfl
  | 1, _ =>
    refine va_T_ext T1 (fun j hj => ?_)
    have hj : j < 4 := hj
    rcases (show j = 0 ∨ j = 1 ∨ j = 2 ∨ j = 3 by omega) with rfl | rfl | rfl | rfl <;> rfl
  | 2, _ =>
    refine va_T_ext T2 (fun j hj => ?_)
    have hj : j < 4 := hj
    rcases (show j = 0 ∨ j = 1 ∨ j = 2 ∨ j = 3 by omega) with rfl | rfl | rfl | rfl <;> rfl
  | k + 3, hk => exact absurd hk (by omega)
theorem zb_k_use {h : am_H} (hk : zb_k h = true) : h.1 = SH ∧ (∀ e ∈ zb_R, h.2.1 e.1 e.2.1 = e.2.2) ∧ (∀ e ∈ zb_M, h.2.2.1 e.1 e.2.1 = e.2.2) ∧ ∀ (q k : Nat) (kl : Nat × Nat), (SH : List (Nat × Nat))[q]? = some kl → kl.1 < 20 → k < kl.2 → h.2.1 q k ≠ 1000000 := by
  unfold zb_k at hk
  rw [Bool.and_eq_true, Bool.and_eq_true, Bool.and_eq_true] at hk
  obtain ⟨h1, h2, h3, h4⟩ := hk
  refine ⟨of_decide_eq_true h1, fun e he => Nat.eq_of_beq_eq_true (List.all_eq_true.mp h2 e he), fun e he => of_decide_eq_true (List.all_eq_true.mp h3 e he), fun q k kl hq h20 hk => ?_⟩
  have hlt := (List.getElem?_eq_some_iff.mp hq).1
  rw [SH_len] at hlt
  unfold zb_n0 at h4
  have g := List.all_eq_true.mp h4 q (List.mem_range.mpr hlt)
  have eg : (SH : List (Nat × Nat)).getD q (0, 0) = kl := by rw [List.getD_eq_getElem?_getD, hq]; rfl
  rw [eg, Nat.blt_eq.mpr h20] at g
  have g2 := List.all_eq_true.mp g k (List.mem_range.mpr hk)
  intro z
  rw [z] at g2
  cases g2
/-- the script in its place -/
theorem zb_real {ad : Nat → Nat} {h : am_H} (hR : am_Rp D cy ad A s h H locs) (hk : zb_k h = true) (T0 : va_T .int b L (fun j => .int (xs j)) A s s.heap) :
    am_Rp D cy (fun q => if q = 1000000 then b else ad q) A s (SH, h.2.1, (fun p j => if p = 1000000 then (xs j).toInt else h.2.2.1 p j), (142, 10198, L)) H locs := by
  obtain ⟨k1, -, -, k4⟩ := zb_k_use hk
  obtain ⟨sh, ρ, μ, cs⟩ := h
  have k1 : sh = SH := k1
  subst k1
  obtain ⟨f1, f2, f3, f4, f5, f6, f7⟩ := hR
  have ew : am_ws cy (fun q => if q = 1000000 then b else ad q) (SH, ρ, (fun p j => if p = 1000000 then (xs j).toInt else μ p j), (142, 10198, L)) = am_ws cy ad (SH, ρ, μ, cs) := by
    apply List.ext_getElem?
    intro q
    rw [am_ws_at, am_ws_at]
    show ((SH : List (Nat × Nat))[q]?).map _ = ((SH : List (Nat × Nat))[q]?).map _
    cases hq : (SH : List (Nat × Nat))[q]? with
    | none => rfl
    | some kl =>
      have hlt := (List.getElem?_eq_some_iff.mp hq).1
      rw [SH_len] at hlt
      show some ((if q = 1000000 then b else ad q), am_ce cy _ _ q kl) = some (ad q, am_ce cy ad _ q kl)
      rw [if_neg (by omega), am_ce_ne (h := (SH, ρ, μ, cs)) (h' := (SH, ρ, (fun p j => if p = 1000000 then (xs j).toInt else μ p j), (142, 10198, L))) (fun _ => rfl) (fun j => if_neg (by omega))]
      congr 2
      rcases Nat.lt_or_ge kl.1 20 with h20 | h20
      · rw [am_ce_obj h20, am_ce_obj h20]
        congr 2
        apply List.map_congr_left
        intro k hk9
        have hk9 := List.mem_range.mp hk9
        have n0 := k4 q k kl hq h20 hk9
        unfold am_fv
        split
        · rfl
        · show (if ρ q k = 999999 then Value.null else .ref (if ρ q k = 1000000 then b else ad (ρ q k))) = if ρ q k = 999999 then Value.null else .ref (ad (ρ q k))
          rw [if_neg n0]
        · rfl
      · unfold am_ce
        rw [am_blt_no h20]
        rfl
  refine ⟨f1, by rw [ew]; exact f2, by rw [ew]; exact f3, f4, f5, ⟨f6.1, fun p kl hp => ?_, fun p j hp => ?_⟩, ?_⟩
  · have hlt : p < 142 := by
      have := (List.getElem?_eq_some_iff.mp hp).1
      rw [SH_len] at this
      exact this
    obtain ⟨g1, g2⟩ := f6.2.1 p kl hp
    refine ⟨fun h20 => ?_, fun h20 => ?_⟩
    · obtain ⟨g3, g4, g5⟩ := g1 h20
      refine ⟨g3, g4, fun k hk9 => ?_⟩
      have := g5 k hk9
      rw [am_fv_ne (h := (SH, ρ, μ, cs)) (h' := (SH, ρ, (fun p j => if p = 1000000 then (xs j).toInt else μ p j), (142, 10198, L))) rfl (if_neg (by omega))]
      exact this
    · obtain ⟨g3, g4, g5⟩ := g2 h20
      exact ⟨g3, fun h23 j hj => by show am_R64 (if p = 1000000 then _ else _); rw [if_neg (by omega)]; exact g4 h23 j hj, fun h23 j hj => by show am_R32 (if p = 1000000 then _ else _); rw [if_neg (by omega)]; exact g5 h23 j hj⟩
  · show am_R32 (if p = 1000000 then _ else _)
    split
    · exact am_R32_of _
    · exact f6.2.2 p j hp
  · obtain ⟨z1, z2, tt, n1, n2, yy⟩ := f7
    refine ⟨z1, z2, fun k hk3 => ?_, n1, n2, am_Y_ad3 yy (fun q hq => if_neg (by omega))⟩
    match k, hk3 with
    | 0, _ =>
      refine va_T_ext T0 (fun j hj => ?_)
      show Value.int (xs j) = .int (Int32.ofInt (xs j).toInt)
      rw [Int32.ofInt_toInt]
    | 1, _ => exact tt 1 (by omega)
    | 2, _ => exact tt 2 (by omega)
    | k + 3, hk => exact absurd hk (by omega)
end CWH
