/-! STRING CONSTANTS: the machine's steps length and charAt are the JDK's own -/
theorem j_chR : ∀ i : Nat, i < 2 → ∀ j : Nat, j < 110 → -2147483648 ≤ ((am_STR.getD i []).getD j 0) ∧ ((am_STR.getD i []).getD j 0) < 2147483648 := by decide +kernel
theorem am_isS_use {q : Nat} (h : am_isS q = true) : ∃ i, i < 2 ∧ q = 1000003 + i := by
  unfold am_isS at h
  rw [Bool.or_eq_true] at h
  rcases h with h | h
  · exact ⟨0, by decide, Nat.eq_of_beq_eq_true h⟩
  · exact ⟨1, by decide, Nat.eq_of_beq_eq_true h⟩
section AMT
variable {l : Launch} {p : Program} {e : Env} {R : Room} {s : State} {mt : MethodId} {args : Array Value} {below : List Frame} {meth : Method} {c : Code} {Q : State → Prop} {D : va_G} {cy : Nat → ClassId} {A : Nat → Prop} {m d c0 s0 : Nat} {r : am_Res} {ad : Nat → Nat} {h : am_H} {H : Heap} {locs : List Loc} {cells slots : Nat} {ls : Array Slot} {lv : am_L} {st : List am_V} {pc n : Nat}
theorem s_slen {idx : Nat} (hd : decode (am_M m).2.1 pc = .ok (.invokevirtual idx, 3)) (hp : am_ps m idx 264 = true) (ih : am_Sd l n) (X : am_Cx l p e R s mt args below meth c Q D cy A m d c0 s0 r ad h H locs cells slots) (hl : am_lr ad h.1.length ls (am_M m).2.2.1 lv) (hs : am_so h.1.length st) (hx : am_FA (am_x n) d m lv h (am_slen d pc lv st h) = some r) : am_Wc l p e R s mt args below meth c Q H locs cells slots pc ls (st.map (am_av ad)) := by
  unfold am_slen at hx
  split at hx
  · rename_i q rest
    cases hg : (Nat.ble 5 d && am_rm rest) with
    | false => rw [hg] at hx; cases hx
    | true =>
      rw [hg] at hx
      rw [Bool.and_eq_true] at hg
      obtain ⟨g1, g2⟩ := hg
      have g1 := Nat.le_of_ble_eq_true g1
      have hx : am_FA (am_x n) d m lv h (am_ck (am_isS q) (pc + 3) lv (.inl 110 :: rest) h) = some r := hx
      obtain ⟨hq, hx2⟩ := am_FA_ck hx
      clear hx
      obtain ⟨i, hi, rfl⟩ := am_isS_use hq
      obtain ⟨np, zz, ww, hpp⟩ := am_ps_pool hp
      obtain ⟨gV, gok⟩ := j_gV hpp
      have e0 : np = 0 := Option.some.inj (gok.2.2.2.2.2.2.1.symm.trans (show am_mok 2 0 (am_M 264) from am_v264).2.2.2.2.2.2.1)
      subst e0
      obtain ⟨hex, hcb, hml, hown, hts, -⟩ := id X.1
      obtain ⟨hK, hP, hD, hS, hA, hG, hXx⟩ := id X.2.2.1
      obtain ⟨Xr1, Xr2⟩ := X.2.2.2.1
      obtain ⟨Xn, Xm⟩ : (cells + c0 = h.2.2.2.1 ∧ slots + s0 = h.2.2.2.2.1) ∧ (r.2.2.2.2.1 ≤ R.cells + c0 ∧ r.2.2.2.2.2.1 ≤ R.slots + s0) := ⟨X.2.2.2.2.1, X.2.2.2.2.2.1⟩
      have gr := am_x_grow _ _ _ _ _ _ _ _ hx2
      have hY : am_Y ad A s s.heap := hXx.2.2.2.2.2
      have cw := cwV (R := R) (s := s) (args := args) (own := am_cn (am_own m)) (C := (am_M 264).1.cls) (index := idx) (y := (am_M 264).1) (bytes := (am_M 264).2.1) (maxL := (am_M 264).2.2.1) (ret := (am_M 264).2.2.2.1) (Ts := am_ts) (ws := jw 264) (rm := j_R 1) (mc := 0) (ms := 0) 0 hts gV rfl rfl rfl ⟨rfl, gok.2.2.2.2.1.1, gok.2.2.2.2.1.2, gok.2.2.2.2.2.2.1⟩ ⟨by show 1 + 1 ≤ R.frames; omega, by show 8 + (1 + 11) + 40 * 1 ≤ R.locals; omega⟩
      show am_Wc l p e R s mt args below meth c Q H locs cells slots pc ls (am_av ad (.inr (.inr (1000003 + i))) :: rest.map (am_av ad))
      rw [am_ref_av2 (show 1000003 + i ≠ 999999 by omega)]
      refine va_calli (va_runV (As := []) (rest := rest.map (am_av ad)) ⟨hex, hcb, hml, hown, hts⟩ (j_length hi) cw ⟨j_blind, vk_recv hY.2.2.1 hi hS, fun U hU hW => ⟨rfl, j_at hY hS hU hW⟩⟩ rfl rfl hl.2.1.1 rfl (lv_room (am_rm_av g2)) hd ⟨by have := gr.1; omega, by have := gr.2.1; omega⟩) hS (fun q _ z => z.elim) (fun q z => z.elim) (fun r9 _ t9 H1 locs1 ht9 hvm9 hp9 _ hz9 hk9 hS1 => ?_)
      subst hp9
      have X1 : am_Cx l p e R s mt args below meth c Q D cy A m d c0 s0 r ad h H1 locs1 cells slots := ⟨X.1, X.2.1, ⟨hK, hP.kept (fun k x hx => hk9 x.1 ((hP k x hx).lt) (fun z => z)), hD, hS1, hA, hG, hXx⟩, X.2.2.2.1, X.2.2.2.2.1, X.2.2.2.2.2.1, X.2.2.2.2.2.2⟩
      exact s_push ih X1 hl (am_so_tl hs) (v := .inl 110) ⟨by decide, by decide⟩ hx2 rfl
  · cases hx
theorem s_scat {idx : Nat} (hd : decode (am_M m).2.1 pc = .ok (.invokevirtual idx, 3)) (hp : am_ps m idx 265 = true) (ih : am_Sd l n) (X : am_Cx l p e R s mt args below meth c Q D cy A m d c0 s0 r ad h H locs cells slots) (hl : am_lr ad h.1.length ls (am_M m).2.2.1 lv) (hs : am_so h.1.length st) (hx : am_FA (am_x n) d m lv h (am_scat d pc lv st h) = some r) : am_Wc l p e R s mt args below meth c Q H locs cells slots pc ls (st.map (am_av ad)) := by
  unfold am_scat at hx
  split at hx
  · rename_i z q rest
    cases hg : (Nat.ble 5 d && am_rm rest) with
    | false => rw [hg] at hx; cases hx
    | true =>
      rw [hg] at hx
      rw [Bool.and_eq_true] at hg
      obtain ⟨g1, g2⟩ := hg
      have g1 := Nat.le_of_ble_eq_true g1
      have hx : am_FA (am_x n) d m lv h (am_ck (am_isS q && am_in z 110) (pc + 3) lv (.inl (am_sch q z) :: rest) h) = some r := hx
      obtain ⟨hq, hx2⟩ := am_FA_ck hx
      clear hx
      rw [Bool.and_eq_true] at hq
      obtain ⟨hq, hin⟩ := hq
      have hin : 0 ≤ z ∧ z < ((110 : Nat) : Int) := by simpa [am_in] using hin
      obtain ⟨i, hi, rfl⟩ := am_isS_use hq
      have hz : am_R32 z := am_so_hd hs
      obtain ⟨np, zz, ww, hpp⟩ := am_ps_pool hp
      obtain ⟨gV, gok⟩ := j_gV hpp
      have e0 : np = 1 := Option.some.inj (gok.2.2.2.2.2.2.1.symm.trans (show am_mok 2 1 (am_M 265) from am_v265).2.2.2.2.2.2.1)
      subst e0
      obtain ⟨hex, hcb, hml, hown, hts, -⟩ := id X.1
      obtain ⟨hK, hP, hD, hS, hA, hG, hXx⟩ := id X.2.2.1
      obtain ⟨Xr1, Xr2⟩ := X.2.2.2.1
      obtain ⟨Xn, Xm⟩ : (cells + c0 = h.2.2.2.1 ∧ slots + s0 = h.2.2.2.2.1) ∧ (r.2.2.2.2.1 ≤ R.cells + c0 ∧ r.2.2.2.2.2.1 ≤ R.slots + s0) := ⟨X.2.2.2.2.1, X.2.2.2.2.2.1⟩
      have gr := am_x_grow _ _ _ _ _ _ _ _ hx2
      have hY : am_Y ad A s s.heap := hXx.2.2.2.2.2
      have cw := cwV (R := R) (s := s) (args := args) (own := am_cn (am_own m)) (C := (am_M 265).1.cls) (index := idx) (y := (am_M 265).1) (bytes := (am_M 265).2.1) (maxL := (am_M 265).2.2.1) (ret := (am_M 265).2.2.2.1) (Ts := am_ts) (ws := jw 265) (rm := j_R 3) (mc := 0) (ms := 0) 1 hts gV rfl rfl rfl ⟨rfl, gok.2.2.2.2.1.1, gok.2.2.2.2.1.2, gok.2.2.2.2.2.2.1⟩ ⟨by show 3 + 1 ≤ R.frames; omega, by show 8 + (2 + 11) + 40 * 3 ≤ R.locals; omega⟩
      have ech : am_sch (1000003 + i) z = (am_STR.getD i []).getD z.toNat 0 := by unfold am_sch; rw [Nat.add_sub_cancel_left]
      rw [ech] at hx2
      show am_Wc l p e R s mt args below meth c Q H locs cells slots pc ls (.int (Int32.ofInt z) :: am_av ad (.inr (.inr (1000003 + i))) :: rest.map (am_av ad))
      rw [am_ref_av2 (show 1000003 + i ≠ 999999 by omega)]
      refine va_calli (va_runV (As := [.int (Int32.ofInt z)]) (rest := rest.map (am_av ad)) ⟨hex, hcb, hml, hown, hts⟩ (j_charAt hi hz hin.1 (by omega)) cw ⟨j_blind, vk_recv hY.2.2.1 hi hS, fun U hU hW => ⟨rfl, j_at hY hS hU hW⟩⟩ rfl rfl hl.2.1.1 rfl (lv_room (am_rm_av g2)) hd ⟨by have := gr.1; omega, by have := gr.2.1; omega⟩) hS (fun q _ z => z.elim) (fun q z => z.elim) (fun r9 _ t9 H1 locs1 ht9 hvm9 hp9 _ hz9 hk9 hS1 => ?_)
      subst hp9
      have X1 : am_Cx l p e R s mt args below meth c Q D cy A m d c0 s0 r ad h H1 locs1 cells slots := ⟨X.1, X.2.1, ⟨hK, hP.kept (fun k x hx => hk9 x.1 ((hP k x hx).lt) (fun z => z)), hD, hS1, hA, hG, hXx⟩, X.2.2.2.1, X.2.2.2.2.1, X.2.2.2.2.2.1, X.2.2.2.2.2.2⟩
      exact s_push ih X1 hl (am_so_tl (am_so_tl hs)) (v := .inl ((am_STR.getD i []).getD z.toNat 0)) (j_chR i hi z.toNat (by omega)) hx2 rfl
  · cases hx
end AMT
